/-! BARS -/
/-- a clause of this head holds -/
def bA (e : Ev) (hd : Nat) (cs : List Cz) : Bool := cs.any (fun c => c.1 == hd && h_holds e c)
theorem C_bars {F : Nat × Nat} (hF : FF F) {h : jH} (S : ShF h) {p : Nat} {cs : List Cz} (X : TX h p false cs) {e : Ev} (E : XE h 73 e false) : ∀ d i f (st : Nat → Int64), i + d = cs.length → d < f → ∃ st', m_U_bars_19 F f 72 (.ref p) (nI i) (hW h st) = some (some (.int (nI (ft_z (bA e 3 (cs.drop i))))), hW h st')
  | d, i, 0, st, h1, h2 => absurd h2 (by omega)
  | 0, i, f + 1, st, h1, h2 => by
    obtain ⟨na, nb, ⟨A, ha, hb⟩, K, h6, h7, hl, hz, hcc, g, g2⟩ := id X
    refine ⟨st, ?_⟩
    rw [List.drop_eq_nil_of_le (by omega)]
    have e0 : bA e 3 [] = false := rfl
    rw [e0, q_U_bars_19]
    simp (disch := first | exact sR_rfl _ _ rfl | omega) only [ft_lit, ft_m1, ft_m2, ft_m3, ft_m5, ft_m6, ft_cl, ft_lt, ft_le, ft_eq, ft_mlt, ft_ltm, ft_mltm, ft_meq, ft_eqm, ft_meqm, ft_add, ft_mul, ft_sub, ft_nm, ft_m1p, ft_and, ft_or, ft_31, ft_shl, ft_shr, ft_bz, ft_z0, ft_z1, ft_z01, ft_bb, ft_zt, ft_zf, ft_or0, ft_rv, ft_rvr, ft_rf, ft_rfn, ft_bI, ft_bJ, ft_bV, ft_bR, ft_bRn, ft_isr, ft_isn, ft_ifn, ft_ifr, ft_ov, ft_ovn, ft_in, k_sI, n_sI, R_sI, J_sI, c_sI, z_sI, k_sJ, n_sJ, R_sJ, I_sJ, c_sJ, z_sJ, k_sR, n_sR, I_sR, J_sR, c_sR, z_sR, k_wI, n_wI, R_wI, J_wI, I_wIe, k_wJ, n_wJ, R_wJ, I_wJ, J_wJe, I_wIn, J_wJn, I_sIe, J_sJe, R_sRe, I_sIn, I_sIk, J_sJn, J_sJk, R_sRn, R_sRk, eq_self, if_true, if_false, ↓reduceIte, cond_true, cond_false, ↓cond_eq_ite, and_true, true_and, and_false, false_and, or_true, true_or, or_false, false_or, not_true_eq_false, not_false_eq_true, ft_ltT, ft_ltF, ft_eqT, ft_eqF, Bool.false_eq_true, Bool.true_eq_false, Bool.not_true, Bool.not_false, Bool.and_true, Bool.true_and, Bool.and_false, Bool.false_and, decide_true, decide_false, Nat.reduceAdd, Nat.reduceMul, Nat.reduceSub, Nat.reduceEqDiff, Nat.reduceLT, Nat.zero_add, Nat.add_zero, Nat.reduceDiv, Nat.reduceMod, hW_k, hW_n, hW_I, A.1, h7]
  | d + 1, i, f + 1, st, h1, h2 => by
    have U : XU h := ⟨sf_k72 S, sf_R72_1 S, sf_k74 S, sf_n74 S⟩
    obtain ⟨na, nb, ⟨A, ha, hb⟩, K, h6, h7, hl, hz, hcc, g, g2⟩ := id X
    have hi' : i < cs.length := by omega
    obtain ⟨s, pre, post, Z, ez, es⟩ := KLp_at K i hi'
    rw [Nat.zero_add] at Z es
    have gc := g _ (List.getElem_mem hi')
    have gb := g2 _ (List.getElem_mem hi')
    have ab := gC_tab (302, 3) (by decide) _ gb
    have gl := gC_lt _ gb
    have at0 := tcd_at ez
    rw [es] at at0
    have at1 := at0.app
    have r1 : ∀ ff : Nat → Option jO, j_rv (va_rf (j_R (hW h st) p 1)) ff = ff (p + 2) := fun ff => by rw [hW_R, A.2.1.2.1]; rfl
    have r4 : ∀ ff : Nat → Option jO, j_rv (va_rf (j_R (hW h st) p 4)) ff = ff (p + 5) := fun ff => by rw [hW_R, A.2.1.2.2.2.2.1]; rfl
    rw [List.drop_eq_getElem_cons hi']
    have eb : bA e 3 (cs[i] :: cs.drop (i + 1)) = ((cs[i].1 == 3 && h_holds e cs[i]) || bA e 3 (cs.drop (i + 1))) := rfl
    rw [eb]
    have z1 := Z.1
    by_cases w : cs[i].1 = 3
    · have w2 : gC cs[i].1 = 302 := ab.mpr w
      obtain ⟨st1, v3⟩ := C_w3 hF (h := hW h st) (p := p) (od := false) (cs := cs) (X.hW st) U (E.hW st) gc.2.2 at1.2
      rw [hW_w] at v3
      have b3 : ∀ ff : Int64 → jH → Option jO, jbJ (m_U_worth F 72 p (j_I h (p + 5) i) 73 (hW h st)) ff = ff (iL ((wT e cs[i].2.2.2.2).getD BR)) (hW h st1) := fun ff => by
        rw [Z.2.2.2.1, v3]; rfl
      have q3 := wT_r (e := e) (o := cs[i].2.2.2.2)
      have c3 : (lg_cmp (iL ((wT e cs[i].2.2.2.2).getD BR)) (1 : Int64) = nI 0) = (h_holds e cs[i] = true) := by
        rw [iL_1, cmp_eq q3.1 q3.2 (by omega) (by omega)]
        exact propext wT_1
      have wb : (cs[i].1 == 3) = true := by rw [w]; rfl
      rw [wb, Bool.true_and]
      cases hh2 : h_holds e cs[i] with
      | false =>
        obtain ⟨st', ih⟩ := C_bars hF S X E d (i + 1) f st1 (by omega) (by omega)
        refine ⟨st', ?_⟩
        rw [hh2] at c3
        rw [Bool.false_or, ← ih, q_U_bars_19]
        simp (disch := first | exact sR_rfl _ _ rfl | omega) only [ft_lit, ft_m1, ft_m2, ft_m3, ft_m5, ft_m6, ft_cl, ft_lt, ft_le, ft_eq, ft_mlt, ft_ltm, ft_mltm, ft_meq, ft_eqm, ft_meqm, ft_add, ft_mul, ft_sub, ft_nm, ft_m1p, ft_and, ft_or, ft_31, ft_shl, ft_shr, ft_bz, ft_z0, ft_z1, ft_z01, ft_bb, ft_zt, ft_zf, ft_or0, ft_rv, ft_rvr, ft_rf, ft_rfn, ft_bI, ft_bJ, ft_bV, ft_bR, ft_bRn, ft_isr, ft_isn, ft_ifn, ft_ifr, ft_ov, ft_ovn, ft_in, k_sI, n_sI, R_sI, J_sI, c_sI, z_sI, k_sJ, n_sJ, R_sJ, I_sJ, c_sJ, z_sJ, k_sR, n_sR, I_sR, J_sR, c_sR, z_sR, k_wI, n_wI, R_wI, J_wI, I_wIe, k_wJ, n_wJ, R_wJ, I_wJ, J_wJe, I_wIn, J_wJn, I_sIe, J_sJe, R_sRe, I_sIn, I_sIk, J_sJn, J_sJk, R_sRn, R_sRk, eq_self, if_true, if_false, ↓reduceIte, cond_true, cond_false, ↓cond_eq_ite, and_true, true_and, and_false, false_and, or_true, true_or, or_false, false_or, not_true_eq_false, not_false_eq_true, ft_ltT, ft_ltF, ft_eqT, ft_eqF, Bool.false_eq_true, Bool.true_eq_false, Bool.not_true, Bool.not_false, Bool.and_true, Bool.true_and, Bool.and_false, Bool.false_and, decide_true, decide_false, Nat.reduceAdd, Nat.reduceMul, Nat.reduceSub, Nat.reduceEqDiff, Nat.reduceLT, Nat.zero_add, Nat.add_zero, Nat.reduceDiv, Nat.reduceMod, hW_k, hW_n, hW_I, ↓r1, ↓r4, ↓sf_v72_0 S, sf_k72 S, A.1, h7, A.2.2.2.1.1, A.2.2.2.1.2, A.2.2.2.2.2.2.1.1, A.2.2.2.2.2.2.1.2, z1, w2]
        rw [b3, if_neg (by rw [c3]; decide)]
      | true =>
        refine ⟨st1, ?_⟩
        rw [hh2] at c3
        rw [Bool.true_or, q_U_bars_19]
        simp (disch := first | exact sR_rfl _ _ rfl | omega) only [ft_lit, ft_m1, ft_m2, ft_m3, ft_m5, ft_m6, ft_cl, ft_lt, ft_le, ft_eq, ft_mlt, ft_ltm, ft_mltm, ft_meq, ft_eqm, ft_meqm, ft_add, ft_mul, ft_sub, ft_nm, ft_m1p, ft_and, ft_or, ft_31, ft_shl, ft_shr, ft_bz, ft_z0, ft_z1, ft_z01, ft_bb, ft_zt, ft_zf, ft_or0, ft_rv, ft_rvr, ft_rf, ft_rfn, ft_bI, ft_bJ, ft_bV, ft_bR, ft_bRn, ft_isr, ft_isn, ft_ifn, ft_ifr, ft_ov, ft_ovn, ft_in, k_sI, n_sI, R_sI, J_sI, c_sI, z_sI, k_sJ, n_sJ, R_sJ, I_sJ, c_sJ, z_sJ, k_sR, n_sR, I_sR, J_sR, c_sR, z_sR, k_wI, n_wI, R_wI, J_wI, I_wIe, k_wJ, n_wJ, R_wJ, I_wJ, J_wJe, I_wIn, J_wJn, I_sIe, J_sJe, R_sRe, I_sIn, I_sIk, J_sJn, J_sJk, R_sRn, R_sRk, eq_self, if_true, if_false, ↓reduceIte, cond_true, cond_false, ↓cond_eq_ite, and_true, true_and, and_false, false_and, or_true, true_or, or_false, false_or, not_true_eq_false, not_false_eq_true, ft_ltT, ft_ltF, ft_eqT, ft_eqF, Bool.false_eq_true, Bool.true_eq_false, Bool.not_true, Bool.not_false, Bool.and_true, Bool.true_and, Bool.and_false, Bool.false_and, decide_true, decide_false, Nat.reduceAdd, Nat.reduceMul, Nat.reduceSub, Nat.reduceEqDiff, Nat.reduceLT, Nat.zero_add, Nat.add_zero, Nat.reduceDiv, Nat.reduceMod, hW_k, hW_n, hW_I, ↓r1, ↓r4, ↓sf_v72_0 S, sf_k72 S, A.1, h7, A.2.2.2.1.1, A.2.2.2.1.2, A.2.2.2.2.2.2.1.1, A.2.2.2.2.2.2.1.2, z1, w2]
        rw [b3, if_pos (by rw [c3])]
    · obtain ⟨st', ih⟩ := C_bars hF S X E d (i + 1) f st (by omega) (by omega)
      refine ⟨st', ?_⟩
      have w2 : ¬ gC cs[i].1 = 302 := fun z => w (ab.mp z)
      have wb : (cs[i].1 == 3) = false := by simpa using w
      rw [wb, Bool.false_and, Bool.false_or, ← ih, q_U_bars_19]
      simp (disch := first | exact sR_rfl _ _ rfl | omega) only [ft_lit, ft_m1, ft_m2, ft_m3, ft_m5, ft_m6, ft_cl, ft_lt, ft_le, ft_eq, ft_mlt, ft_ltm, ft_mltm, ft_meq, ft_eqm, ft_meqm, ft_add, ft_mul, ft_sub, ft_nm, ft_m1p, ft_and, ft_or, ft_31, ft_shl, ft_shr, ft_bz, ft_z0, ft_z1, ft_z01, ft_bb, ft_zt, ft_zf, ft_or0, ft_rv, ft_rvr, ft_rf, ft_rfn, ft_bI, ft_bJ, ft_bV, ft_bR, ft_bRn, ft_isr, ft_isn, ft_ifn, ft_ifr, ft_ov, ft_ovn, ft_in, k_sI, n_sI, R_sI, J_sI, c_sI, z_sI, k_sJ, n_sJ, R_sJ, I_sJ, c_sJ, z_sJ, k_sR, n_sR, I_sR, J_sR, c_sR, z_sR, k_wI, n_wI, R_wI, J_wI, I_wIe, k_wJ, n_wJ, R_wJ, I_wJ, J_wJe, I_wIn, J_wJn, I_sIe, J_sJe, R_sRe, I_sIn, I_sIk, J_sJn, J_sJk, R_sRn, R_sRk, eq_self, if_true, if_false, ↓reduceIte, cond_true, cond_false, ↓cond_eq_ite, and_true, true_and, and_false, false_and, or_true, true_or, or_false, false_or, not_true_eq_false, not_false_eq_true, ft_ltT, ft_ltF, ft_eqT, ft_eqF, Bool.false_eq_true, Bool.true_eq_false, Bool.not_true, Bool.not_false, Bool.and_true, Bool.true_and, Bool.and_false, Bool.false_and, decide_true, decide_false, Nat.reduceAdd, Nat.reduceMul, Nat.reduceSub, Nat.reduceEqDiff, Nat.reduceLT, Nat.zero_add, Nat.add_zero, Nat.reduceDiv, Nat.reduceMod, hW_k, hW_n, hW_I, ↓r1, A.1, h7, A.2.2.2.1.1, A.2.2.2.1.2, z1, w2]
