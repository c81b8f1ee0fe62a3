/-! WHAT IS TOLD LAST -/
def iV (i : Nat) : Int32 := if i = 0 then mI 0 else nI (i - 1)
theorem iV_s (i : Nat) : iV (i + 1) = nI i := by unfold iV; rw [if_neg (by omega)]; rfl
theorem iV_d {i : Nat} : nI i + mI 0 = iV i := by
  unfold iV
  by_cases w : i = 0
  · subst w; decide
  · rw [if_neg w, ft_m1p (by omega)]
theorem iV_b (i : Nat) : nI i - nI 1 = iV i := by
  unfold iV
  by_cases w : i = 0
  · subst w; decide
  · rw [if_neg w, ft_sub (by omega)]
theorem wT_1 {e : Ev} {c : Cz} : (wT e c.2.2.2.2).getD BR = 1 ↔ h_holds e c = true := by
  unfold wT h_holds
  cases c.2.2.2.2 with
  | none => simp
  | some d =>
    cases hd : d.2 e with
    | none => simp [hd, BR]
    | some b => cases b <;> simp [hd, zL]
theorem wT_r {e : Ev} {o : Option ((Nat → List Nat) × Dt)} : -9223372036854775808 ≤ (wT e o).getD BR ∧ (wT e o).getD BR < 9223372036854775808 := by
  unfold wT
  cases o with
  | none => simp
  | some d =>
    cases hd : d.2 e with
    | none => simp [hd, BR]
    | some b => cases b <;> simp [hd, zL]
theorem XE.hW {h : jH} {e : Ev} {od : Bool} (E : XE h 73 e od) (st : Nat → Int64) : XE (hW h st) 73 e od := ⟨E.1, E.2.1, E.2.2.1, E.2.2.2.1, fun c v q => ⟨(E.2.2.2.2 c v q).1, by rw [hW_Jn (by omega)]; exact (E.2.2.2.2 c v q).2⟩⟩
theorem wS_r {od : Bool} {e : Ev} (he : ∀ c k, -1000000 ≤ e c k ∧ e c k ≤ 1000000) {o : Option (List Nat × Dn)} (g : gS od o) : h_bdd (wS e o) := by
  cases o with
  | none => intro v hv; cases hv; decide
  | some d =>
    obtain ⟨T, st, rfl, t⟩ := g d rfl
    exact h_sum_b he 8 st
theorem C_min {F : Nat × Nat} {h : jH} {a : Nat} {v : Int} (ha : a ≤ 100) (hv : -1000000000 ≤ v ∧ v ≤ 1000000000) : m_Jm_min F ((nI a).toInt64) (iL v) h = some (some (.long (iL (if v < (a : Int) then v else a))), h) := by
  rw [q_Jm_min, nI_L (by omega)]
  have c := cmp_gt (a := (a : Int)) (b := v) (by omega) (by omega) (by omega) (by omega)
  by_cases w : v < (a : Int)
  · rw [if_pos w, if_pos (c.mpr w)]
  · rw [if_neg w, if_neg (fun z => w (c.mp z))]
theorem C_min_b {F : Nat × Nat} {h : jH} {a : Nat} {v : Int} (ha : a ≤ 100) (hv : -1000000000 ≤ v ∧ v ≤ 1000000000) (ff : Int64 → jH → Option jO) : jbJ (m_Jm_min F ((nI a).toInt64) (iL v) h) ff = ff ((iL (if v < (a : Int) then v else a))) (h) := bJ_of (C_min (F := F) (h := h) (a := a) (v := v) (ha := ha) (hv := hv)) ff
theorem C_max {F : Nat × Nat} {h : jH} {a : Nat} {v : Int} (ha : a ≤ 100) (hv : -1000000000 ≤ v ∧ v ≤ 1000000000) : m_Jm_max_JJ F ((nI a).toInt64) (iL v) h = some (some (.long (iL (if (a : Int) < v then v else a))), h) := by
  rw [q_Jm_max_JJ, nI_L (by omega)]
  have c := cmp_lt (a := (a : Int)) (b := v) (by omega) (by omega) (by omega) (by omega)
  by_cases w : (a : Int) < v
  · rw [if_pos w, if_pos (c.mpr w)]
  · rw [if_neg w, if_neg (fun z => w (c.mp z))]
theorem C_max_b {F : Nat × Nat} {h : jH} {a : Nat} {v : Int} (ha : a ≤ 100) (hv : -1000000000 ≤ v ∧ v ≤ 1000000000) (ff : Int64 → jH → Option jO) : jbJ (m_Jm_max_JJ F ((nI a).toInt64) (iL v) h) ff = ff ((iL (if (a : Int) < v then v else a))) (h) := bJ_of (C_max (F := F) (h := h) (a := a) (v := v) (ha := ha) (hv := hv)) ff
theorem KLp.hW {h : jH} {p : Nat} (st : Nat → Int64) : ∀ {cs : List Cz} {i sz : Nat}, KLp h p i sz cs → KLp (hW h st) p i sz cs
  | [], _, _, _ => True.intro
  | c :: cs, i, sz, K => ⟨K.1, KLp.hW st K.2⟩
theorem TX.hW {h : jH} {p : Nat} {od : Bool} {cs : List Cz} (X : TX h p od cs) (st : Nat → Int64) : TX (hW h st) p od cs := by
  obtain ⟨na, nb, A, K, r⟩ := X
  exact ⟨na, nb, A, K.hW st, r⟩
theorem C_last {F : Nat × Nat} (hF : FF F) {h : jH} (S : ShF h) {p : Nat} {cs : List Cz} (X : TX h p false cs) {e : Ev} (E : XE h 73 e false) {hd hc lo hi : Nat} (hab : (hc, hd) ∈ ctab) (hh : hc < 1000) (hlo : lo ≤ 100) (hhi : hi ≤ 100) (hlh : lo ≤ hi) : ∀ i f (st : Nat → Int64), i ≤ cs.length → i < f → ∃ st', m_U_lastTold_8 F f 72 p (nI hc) (nI lo) (nI hi) (iV i) (hW h st) = some (some (.int (nI ((cs.take i).foldl (h_tell e hd lo hi) 1))), hW h st')
  | i, 0, st, h1, h2 => absurd h2 (by omega)
  | 0, f + 1, st, h1, h2 => by
    refine ⟨st, ?_⟩
    have e0 : iV 0 = mI 0 := rfl
    rw [q_U_lastTold_8, e0]
    simp (disch := first | exact sR_rfl _ _ rfl | omega) only [ft_lit, ft_m1, ft_m2, ft_m3, ft_m5, ft_m6, ft_cl, ft_lt, ft_le, ft_eq, ft_mlt, ft_ltm, ft_mltm, ft_meq, ft_eqm, ft_meqm, ft_add, ft_mul, ft_sub, ft_nm, ft_m1p, ft_and, ft_or, ft_31, ft_shl, ft_shr, ft_bz, ft_z0, ft_z1, ft_z01, ft_bb, ft_zt, ft_zf, ft_or0, ft_rv, ft_rvr, ft_rf, ft_rfn, ft_bI, ft_bJ, ft_bV, ft_bR, ft_bRn, ft_isr, ft_isn, ft_ifn, ft_ifr, ft_ov, ft_ovn, ft_in, k_sI, n_sI, R_sI, J_sI, c_sI, z_sI, k_sJ, n_sJ, R_sJ, I_sJ, c_sJ, z_sJ, k_sR, n_sR, I_sR, J_sR, c_sR, z_sR, k_wI, n_wI, R_wI, J_wI, I_wIe, k_wJ, n_wJ, R_wJ, I_wJ, J_wJe, I_wIn, J_wJn, I_sIe, J_sJe, R_sRe, I_sIn, I_sIk, J_sJn, J_sJk, R_sRn, R_sRk, eq_self, if_true, if_false, ↓reduceIte, cond_true, cond_false, ↓cond_eq_ite, and_true, true_and, and_false, false_and, or_true, true_or, or_false, false_or, not_true_eq_false, not_false_eq_true, ft_ltT, ft_ltF, ft_eqT, ft_eqF, Bool.false_eq_true, Bool.true_eq_false, Bool.not_true, Bool.not_false, Bool.and_true, Bool.true_and, Bool.and_false, Bool.false_and, decide_true, decide_false, Nat.reduceAdd, Nat.reduceMul, Nat.reduceSub, Nat.reduceEqDiff, Nat.reduceLT, Nat.zero_add, Nat.add_zero, Nat.reduceDiv, Nat.reduceMod]
    rfl
  | i + 1, f + 1, st, h1, h2 => by
    have U : XU h := ⟨sf_k72 S, sf_R72_1 S, sf_k74 S, sf_n74 S⟩
    obtain ⟨na, nb, ⟨A, ha, hb⟩, K, h6, h7, hl, hz, hcc, g, g2⟩ := id X
    have hi' : i < cs.length := by omega
    obtain ⟨s, pre, post, Z, ez, es⟩ := KLp_at K i hi'
    rw [Nat.zero_add] at Z es
    have gc := g _ (List.getElem_mem hi')
    have gb := g2 _ (List.getElem_mem hi')
    have ab := gC_tab _ hab _ gb
    have gl := gC_lt _ gb
    have at0 := tcd_at ez
    rw [es] at at0
    have at1 := at0.app
    have r1 : ∀ ff : Nat → Option jO, j_rv (va_rf (j_R (hW h st) p 1)) ff = ff (p + 2) := fun ff => by rw [hW_R, A.2.1.2.1]; rfl
    have r4 : ∀ ff : Nat → Option jO, j_rv (va_rf (j_R (hW h st) p 4)) ff = ff (p + 5) := fun ff => by rw [hW_R, A.2.1.2.2.2.2.1]; rfl
    rw [List.take_succ_eq_append_getElem hi', List.foldl_append, iV_s]
    rw [List.foldl_cons, List.foldl_nil]
    have z1 := Z.1
    by_cases w : cs[i].1 = hd
    · have w2 : gC cs[i].1 = hc := ab.mpr w
      obtain ⟨st1, v3⟩ := C_w3 hF (h := hW h st) (p := p) (od := false) (cs := cs) (X.hW st) U (E.hW st) gc.2.2 at1.2
      rw [hW_w] at v3
      have b3 : ∀ ff : Int64 → jH → Option jO, jbJ (m_U_worth F 72 p (j_I (hW h st) (p + 5) (nI i).toNatClampNeg) 73 (hW h st)) ff = ff (iL ((wT e cs[i].2.2.2.2).getD BR)) (hW h st1) := fun ff => by
        rw [ft_cl (by omega), hW_I, Z.2.2.2.1, v3]; rfl
      have q3 := wT_r (e := e) (o := cs[i].2.2.2.2)
      have c3 : (lg_cmp (iL ((wT e cs[i].2.2.2.2).getD BR)) (1 : Int64) = nI 0) = (h_holds e cs[i] = true) := by
        rw [iL_1, cmp_eq q3.1 q3.2 (by omega) (by omega)]
        exact propext wT_1
      cases hh2 : h_holds e cs[i] with
      | false =>
        obtain ⟨st', ih⟩ := C_last hF S X E hab hh hlo hhi hlh i f st1 (by omega) (by omega)
        refine ⟨st', ?_⟩
        rw [hh2] at c3
        have e1 : h_tell e hd lo hi ((cs.take i).foldl (h_tell e hd lo hi) 1) cs[i] = (cs.take i).foldl (h_tell e hd lo hi) 1 := by
          unfold h_tell h_cw
          rw [if_pos w, hh2]; rfl
        rw [e1, ← ih, q_U_lastTold_8]
        simp (disch := first | exact sR_rfl _ _ rfl | omega) only [ft_lit, ft_m1, ft_m2, ft_m3, ft_m5, ft_m6, ft_cl, ft_lt, ft_le, ft_eq, ft_mlt, ft_ltm, ft_mltm, ft_meq, ft_eqm, ft_meqm, ft_add, ft_mul, ft_sub, ft_nm, ft_m1p, ft_and, ft_or, ft_31, ft_shl, ft_shr, ft_bz, ft_z0, ft_z1, ft_z01, ft_bb, ft_zt, ft_zf, ft_or0, ft_rv, ft_rvr, ft_rf, ft_rfn, ft_bI, ft_bJ, ft_bV, ft_bR, ft_bRn, ft_isr, ft_isn, ft_ifn, ft_ifr, ft_ov, ft_ovn, ft_in, k_sI, n_sI, R_sI, J_sI, c_sI, z_sI, k_sJ, n_sJ, R_sJ, I_sJ, c_sJ, z_sJ, k_sR, n_sR, I_sR, J_sR, c_sR, z_sR, k_wI, n_wI, R_wI, J_wI, I_wIe, k_wJ, n_wJ, R_wJ, I_wJ, J_wJe, I_wIn, J_wJn, I_sIe, J_sJe, R_sRe, I_sIn, I_sIk, J_sJn, J_sJk, R_sRn, R_sRk, eq_self, if_true, if_false, ↓reduceIte, cond_true, cond_false, ↓cond_eq_ite, and_true, true_and, and_false, false_and, or_true, true_or, or_false, false_or, not_true_eq_false, not_false_eq_true, ft_ltT, ft_ltF, ft_eqT, ft_eqF, Bool.false_eq_true, Bool.true_eq_false, Bool.not_true, Bool.not_false, Bool.and_true, Bool.true_and, Bool.and_false, Bool.false_and, decide_true, decide_false, Nat.reduceAdd, Nat.reduceMul, Nat.reduceSub, Nat.reduceEqDiff, Nat.reduceLT, Nat.zero_add, Nat.add_zero, Nat.reduceDiv, Nat.reduceMod, hW_k, hW_n, hW_I, ↓r1, ↓r4, ↓sf_v72_0 S, sf_k72 S, A.1, A.2.2.2.1.1, A.2.2.2.1.2, A.2.2.2.2.2.2.1.1, A.2.2.2.2.2.2.1.2, z1, w2, iV_d, ↓b3, c3]
      | true =>
        rw [hh2] at c3
        have r2 : ∀ ff : Nat → Option jO, j_rv (va_rf (j_R (hW h st1) p 2)) ff = ff (p + 3) := fun ff => by rw [hW_R, A.2.1.2.2.1]; rfl
        obtain ⟨st2, v1⟩ := C_w1 hF (h := hW h st1) (p := p) (od := false) (cs := cs) (X.hW st1) U (E.hW st1) gc.1 at1.1.app.1
        rw [hW_w] at v1
        have b1 : ∀ ff : Int64 → jH → Option jO, jbJ (m_U_worth F 72 p (j_I (hW h st1) (p + 3) (nI i).toNatClampNeg) 73 (hW h st1)) ff = ff (iL ((wS e cs[i].2.1).getD BR)) (hW h st2) := fun ff => by
          rw [ft_cl (by omega), hW_I, Z.2.1, v1]; rfl
        have bd := wS_r E.2.2.2.1 gc.1
        have e2 : h_cw e cs[i] = wS e cs[i].2.1 := by unfold h_cw wS; rw [hh2]; rfl
        cases hw : wS e cs[i].2.1 with
        | none =>
          obtain ⟨st', ih⟩ := C_last hF S X E hab hh hlo hhi hlh i f st2 (by omega) (by omega)
          refine ⟨st', ?_⟩
          rw [hw] at b1 e2
          have c1 : (lg_cmp (iL ((none : Option Int).getD BR)) (-9223372036854775808 : Int64) = nI 0) = True := by decide
          have e1 : h_tell e hd lo hi ((cs.take i).foldl (h_tell e hd lo hi) 1) cs[i] = (cs.take i).foldl (h_tell e hd lo hi) 1 := by
            unfold h_tell
            rw [if_pos w, e2]
          rw [e1, ← ih, q_U_lastTold_8]
          simp (disch := first | exact sR_rfl _ _ rfl | omega) only [ft_lit, ft_m1, ft_m2, ft_m3, ft_m5, ft_m6, ft_cl, ft_lt, ft_le, ft_eq, ft_mlt, ft_ltm, ft_mltm, ft_meq, ft_eqm, ft_meqm, ft_add, ft_mul, ft_sub, ft_nm, ft_m1p, ft_and, ft_or, ft_31, ft_shl, ft_shr, ft_bz, ft_z0, ft_z1, ft_z01, ft_bb, ft_zt, ft_zf, ft_or0, ft_rv, ft_rvr, ft_rf, ft_rfn, ft_bI, ft_bJ, ft_bV, ft_bR, ft_bRn, ft_isr, ft_isn, ft_ifn, ft_ifr, ft_ov, ft_ovn, ft_in, k_sI, n_sI, R_sI, J_sI, c_sI, z_sI, k_sJ, n_sJ, R_sJ, I_sJ, c_sJ, z_sJ, k_sR, n_sR, I_sR, J_sR, c_sR, z_sR, k_wI, n_wI, R_wI, J_wI, I_wIe, k_wJ, n_wJ, R_wJ, I_wJ, J_wJe, I_wIn, J_wJn, I_sIe, J_sJe, R_sRe, I_sIn, I_sIk, J_sJn, J_sJk, R_sRn, R_sRk, eq_self, if_true, if_false, ↓reduceIte, cond_true, cond_false, ↓cond_eq_ite, and_true, true_and, and_false, false_and, or_true, true_or, or_false, false_or, not_true_eq_false, not_false_eq_true, ft_ltT, ft_ltF, ft_eqT, ft_eqF, Bool.false_eq_true, Bool.true_eq_false, Bool.not_true, Bool.not_false, Bool.and_true, Bool.true_and, Bool.and_false, Bool.false_and, decide_true, decide_false, Nat.reduceAdd, Nat.reduceMul, Nat.reduceSub, Nat.reduceEqDiff, Nat.reduceLT, Nat.zero_add, Nat.add_zero, Nat.reduceDiv, Nat.reduceMod, hW_k, hW_n, hW_I, ↓r1, ↓r2, ↓r4, ↓sf_v72_0 S, sf_k72 S, A.1, A.2.2.2.1.1, A.2.2.2.1.2, A.2.2.2.2.1.1, A.2.2.2.2.1.2, A.2.2.2.2.2.2.1.1, A.2.2.2.2.2.2.1.2, z1, w2, iV_d, ↓b3, c3, ↓b1, c1]
        | some v =>
          refine ⟨st2, ?_⟩
          rw [hw] at b1 e2
          have hv := bd v hw
          have c1 : (lg_cmp (iL ((some v).getD BR)) (-9223372036854775808 : Int64) = nI 0) = False := by
            rw [iL_br]
            show (lg_cmp (iL v) _ = nI 0) = False
            rw [cmp_eq (by omega) (by omega) (by omega) (by omega)]
            exact eq_false (by omega)
          have mn := bJ_of (C_min (F := F) (h := hW h st2) (a := hi) (v := v) hhi hv)
          have mx := bJ_of (C_max (F := F) (h := hW h st2) (a := lo) (v := if v < (hi : Int) then v else hi) hlo (by split <;> omega))
          have e1 : h_tell e hd lo hi ((cs.take i).foldl (h_tell e hd lo hi) 1) cs[i] = h_clamp lo hi v := by
            unfold h_tell
            rw [if_pos w, e2]
          have e4 : (iL (if (lo : Int) < (if v < (hi : Int) then v else hi) then (if v < (hi : Int) then v else hi) else lo)).toInt32 = nI (h_clamp lo hi v) := by
            rw [iL_I, ← iI_n]
            congr 1
            unfold h_clamp
            repeat' split
            all_goals omega
          have gd : (some v).getD BR = v := rfl
          rw [gd] at b1 c1
          rw [e1, q_U_lastTold_8]
          simp (disch := first | exact sR_rfl _ _ rfl | omega) only [ft_lit, ft_m1, ft_m2, ft_m3, ft_m5, ft_m6, ft_cl, ft_lt, ft_le, ft_eq, ft_mlt, ft_ltm, ft_mltm, ft_meq, ft_eqm, ft_meqm, ft_add, ft_mul, ft_sub, ft_nm, ft_m1p, ft_and, ft_or, ft_31, ft_shl, ft_shr, ft_bz, ft_z0, ft_z1, ft_z01, ft_bb, ft_zt, ft_zf, ft_or0, ft_rv, ft_rvr, ft_rf, ft_rfn, ft_bI, ft_bJ, ft_bV, ft_bR, ft_bRn, ft_isr, ft_isn, ft_ifn, ft_ifr, ft_ov, ft_ovn, ft_in, k_sI, n_sI, R_sI, J_sI, c_sI, z_sI, k_sJ, n_sJ, R_sJ, I_sJ, c_sJ, z_sJ, k_sR, n_sR, I_sR, J_sR, c_sR, z_sR, k_wI, n_wI, R_wI, J_wI, I_wIe, k_wJ, n_wJ, R_wJ, I_wJ, J_wJe, I_wIn, J_wJn, I_sIe, J_sJe, R_sRe, I_sIn, I_sIk, J_sJn, J_sJk, R_sRn, R_sRk, eq_self, if_true, if_false, ↓reduceIte, cond_true, cond_false, ↓cond_eq_ite, and_true, true_and, and_false, false_and, or_true, true_or, or_false, false_or, not_true_eq_false, not_false_eq_true, ft_ltT, ft_ltF, ft_eqT, ft_eqF, Bool.false_eq_true, Bool.true_eq_false, Bool.not_true, Bool.not_false, Bool.and_true, Bool.true_and, Bool.and_false, Bool.false_and, decide_true, decide_false, Nat.reduceAdd, Nat.reduceMul, Nat.reduceSub, Nat.reduceEqDiff, Nat.reduceLT, Nat.zero_add, Nat.add_zero, Nat.reduceDiv, Nat.reduceMod, hW_k, hW_n, hW_I, ↓r1, ↓r2, ↓r4, ↓sf_v72_0 S, sf_k72 S, A.1, A.2.2.2.1.1, A.2.2.2.1.2, A.2.2.2.2.1.1, A.2.2.2.2.1.2, A.2.2.2.2.2.2.1.1, A.2.2.2.2.2.2.1.2, z1, w2, ↓b3, c3, ↓b1, c1, ↓mn, ↓mx, e4]
    · obtain ⟨st', ih⟩ := C_last hF S X E hab hh hlo hhi hlh i f st (by omega) (by omega)
      refine ⟨st', ?_⟩
      have w2 : ¬ gC cs[i].1 = hc := fun z => w (ab.mp z)
      have e1 : h_tell e hd lo hi ((cs.take i).foldl (h_tell e hd lo hi) 1) cs[i] = (cs.take i).foldl (h_tell e hd lo hi) 1 := by unfold h_tell; rw [if_neg w]
      rw [e1, ← ih, q_U_lastTold_8]
      simp (disch := first | exact sR_rfl _ _ rfl | omega) only [ft_lit, ft_m1, ft_m2, ft_m3, ft_m5, ft_m6, ft_cl, ft_lt, ft_le, ft_eq, ft_mlt, ft_ltm, ft_mltm, ft_meq, ft_eqm, ft_meqm, ft_add, ft_mul, ft_sub, ft_nm, ft_m1p, ft_and, ft_or, ft_31, ft_shl, ft_shr, ft_bz, ft_z0, ft_z1, ft_z01, ft_bb, ft_zt, ft_zf, ft_or0, ft_rv, ft_rvr, ft_rf, ft_rfn, ft_bI, ft_bJ, ft_bV, ft_bR, ft_bRn, ft_isr, ft_isn, ft_ifn, ft_ifr, ft_ov, ft_ovn, ft_in, k_sI, n_sI, R_sI, J_sI, c_sI, z_sI, k_sJ, n_sJ, R_sJ, I_sJ, c_sJ, z_sJ, k_sR, n_sR, I_sR, J_sR, c_sR, z_sR, k_wI, n_wI, R_wI, J_wI, I_wIe, k_wJ, n_wJ, R_wJ, I_wJ, J_wJe, I_wIn, J_wJn, I_sIe, J_sJe, R_sRe, I_sIn, I_sIk, J_sJn, J_sJk, R_sRn, R_sRk, eq_self, if_true, if_false, ↓reduceIte, cond_true, cond_false, ↓cond_eq_ite, and_true, true_and, and_false, false_and, or_true, true_or, or_false, false_or, not_true_eq_false, not_false_eq_true, ft_ltT, ft_ltF, ft_eqT, ft_eqF, Bool.false_eq_true, Bool.true_eq_false, Bool.not_true, Bool.not_false, Bool.and_true, Bool.true_and, Bool.and_false, Bool.false_and, decide_true, decide_false, Nat.reduceAdd, Nat.reduceMul, Nat.reduceSub, Nat.reduceEqDiff, Nat.reduceLT, Nat.zero_add, Nat.add_zero, Nat.reduceDiv, Nat.reduceMod, hW_k, hW_n, hW_I, ↓r1, A.1, A.2.2.2.1.1, A.2.2.2.1.2, z1, w2, iV_d]
