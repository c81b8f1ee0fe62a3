/-! TOURS: THE REFERENCE LAYS -/
def T0n (h : jH) (n c u : Nat) : Prop := ∀ c' u', c' < 25 → u' < 2 ^ n → (c' < c ∨ (c' = c ∧ u' < u)) → j_I h 106 (nR c' u') = nI (td0 nR n (nR c' u'))
theorem T0n.fr {D : Nat → Nat → Prop} {h h' : jH} {n c u : Nat} (T : T0n h n c u) (x : jX D jN h h') (q : ∀ i, ¬ D 106 i) : T0n h' n c u := fun c' u' a1 a2 a3 => by rw [x.I (q _)]; exact T c' u' a1 a2 a3
theorem td0_v {n c u : Nat} (hn : n ≤ 6) (hc : c < 25) (hu : u < 2 ^ n) : td0 nR n (nR c u) = if u = 2 ^ n - 1 then 0 else 1000000 := by
  have p6 := pw6 hn
  by_cases q : u = 2 ^ n - 1
  · rw [if_pos q, td0_z ⟨c, hc, by rw [q]⟩]
  · rw [if_neg q, td0_n (fun ⟨c', hc', e⟩ => q (nR_ok.2 _ _ _ _ hc hc' (by omega) (by omega) e).2)]
theorem M_ly_103 {F : Nat × Nat} {n : Nat} (hn : n ≤ 6) {c : Nat} (hc : c < 25) (v1 : Int32) (k78 : Nat → Int32 → Int32 → Int32 → jH → Option jO) : ∀ r u f h, u + r = 2 ^ n → r < f → ShM h → T0n h n c u → ∃ h', m_M_laysTours_103 F k78 f 85 v1 (nI (2 ^ n - 1)) (nI c) (nI u) h = k78 85 v1 (nI (2 ^ n - 1)) (nI (c + 1)) h' ∧ jX d106 jN h h' ∧ T0n h' n (c + 1) 0
  | 0, u, f, h, e, hf, S, T => by
    obtain ⟨g, rfl⟩ : ∃ g, f = g + 1 := ⟨f - 1, by omega⟩
    have p6 := pw6 hn
    have : u = 2 ^ n := by omega
    refine ⟨h, ?_, jX.rf, fun c' u' a1 a2 a3 => T c' u' a1 a2 (by omega)⟩
    rw [q_M_laysTours_103, if_pos (by rw [ft_lt (by omega) (by omega)]; omega), show nI c + nI 1 = nI (c + 1) from by simp (disch := first | exact sR_rfl _ _ rfl | omega) only [ft_lit, ft_m1, ft_m2, ft_m3, ft_m5, ft_m6, ft_cl, ft_lt, ft_le, ft_eq, ft_mlt, ft_ltm, ft_mltm, ft_meq, ft_eqm, ft_meqm, ft_add, ft_mul, ft_sub, ft_nm, ft_m1p, ft_and, ft_or, ft_31, ft_shl, ft_shr, ft_bz, ft_z0, ft_z1, ft_z01, ft_bb, ft_zt, ft_zf, ft_or0, ft_rv, ft_rvr, ft_rf, ft_rfn, ft_bI, ft_bJ, ft_bV, ft_bR, ft_bRn, ft_isr, ft_isn, ft_ifn, ft_ifr, ft_ov, ft_ovn, ft_in, k_sI, n_sI, R_sI, J_sI, c_sI, z_sI, k_sJ, n_sJ, R_sJ, I_sJ, c_sJ, z_sJ, k_sR, n_sR, I_sR, J_sR, c_sR, z_sR, k_wI, n_wI, R_wI, J_wI, I_wIe, k_wJ, n_wJ, R_wJ, I_wJ, J_wJe, I_wIn, J_wJn, I_sIe, J_sJe, R_sRe, I_sIn, I_sIk, J_sJn, J_sJk, R_sRn, R_sRk, eq_self, if_true, if_false, ↓reduceIte, cond_true, cond_false, ↓cond_eq_ite, and_true, true_and, and_false, false_and, or_true, true_or, or_false, false_or, not_true_eq_false, not_false_eq_true, ft_ltT, ft_ltF, ft_eqT, ft_eqF, Bool.false_eq_true, Bool.true_eq_false, Bool.not_true, Bool.not_false, Bool.and_true, Bool.true_and, Bool.and_false, Bool.false_and, decide_true, decide_false, Nat.reduceAdd, Nat.reduceMul, Nat.reduceSub, Nat.reduceEqDiff, Nat.reduceLT, Nat.zero_add, Nat.add_zero, Nat.reduceDiv, Nat.reduceMod]]
  | r + 1, u, f, h, e, hf, S, T => by
    obtain ⟨g, rfl⟩ : ∃ g, f = g + 1 := ⟨f - 1, by omega⟩
    have p6 := pw6 hn
    have x1 : jX d106 jN h (j_sI h 106 (nR c u) (nI (td0 nR n (nR c u)))) := jX.rf.sI rfl
    obtain ⟨h', e', x', T'⟩ := M_ly_103 (F := F) hn hc v1 k78 r (u + 1) g _ (by omega) (by omega) (S.fr x1 (fun _ _ z => z)) (fun c' u' a1 a2 a3 => by
      by_cases q : nR c' u' = nR c u
      · rw [q, I_sIe]
      · rw [I_sIk q]
        refine T c' u' a1 a2 ?_
        rcases a3 with z | ⟨z1, z2⟩
        · exact Or.inl z
        · right
          refine ⟨z1, ?_⟩
          by_cases z3 : u' = u
          · exact absurd (by rw [z1, z3]) q
          · omega)
    refine ⟨h', ?_, (x1.tr x').up (fun a i d => d.elim id id) (fun a i d => d.elim id id), T'⟩
    have ei : 64 * c + u = nR c u := rfl
    have na := nR_ok.1 c u hc (by omega)
    have tv := td0_v hn hc (u := u) (by omega)
    rw [tv] at e'
    rw [← e', q_M_laysTours_103]
    have m64 : 2 ^ n - 1 < 64 := by omega
    have um : u ≤ 2 ^ n - 1 := by omega
    clear e' x' T' x1 tv T
    generalize 2 ^ n - 1 = al at *
    by_cases q : u = al
    · rw [if_pos q]
      simp (disch := first | exact sR_rfl _ _ rfl | omega) only [ft_lit, ft_m1, ft_m2, ft_m3, ft_m5, ft_m6, ft_cl, ft_lt, ft_le, ft_eq, ft_mlt, ft_ltm, ft_mltm, ft_meq, ft_eqm, ft_meqm, ft_add, ft_mul, ft_sub, ft_nm, ft_m1p, ft_and, ft_or, ft_31, ft_shl, ft_shr, ft_bz, ft_z0, ft_z1, ft_z01, ft_bb, ft_zt, ft_zf, ft_or0, ft_rv, ft_rvr, ft_rf, ft_rfn, ft_bI, ft_bJ, ft_bV, ft_bR, ft_bRn, ft_isr, ft_isn, ft_ifn, ft_ifr, ft_ov, ft_ovn, ft_in, k_sI, n_sI, R_sI, J_sI, c_sI, z_sI, k_sJ, n_sJ, R_sJ, I_sJ, c_sJ, z_sJ, k_sR, n_sR, I_sR, J_sR, c_sR, z_sR, k_wI, n_wI, R_wI, J_wI, I_wIe, k_wJ, n_wJ, R_wJ, I_wJ, J_wJe, I_wIn, J_wJn, I_sIe, J_sJe, R_sRe, I_sIn, I_sIk, J_sJn, J_sJk, R_sRn, R_sRk, eq_self, if_true, if_false, ↓reduceIte, cond_true, cond_false, ↓cond_eq_ite, and_true, true_and, and_false, false_and, or_true, true_or, or_false, false_or, not_true_eq_false, not_false_eq_true, ft_ltT, ft_ltF, ft_eqT, ft_eqF, Bool.false_eq_true, Bool.true_eq_false, Bool.not_true, Bool.not_false, Bool.and_true, Bool.true_and, Bool.and_false, Bool.false_and, decide_true, decide_false, Nat.reduceAdd, Nat.reduceMul, Nat.reduceSub, Nat.reduceEqDiff, Nat.reduceLT, Nat.zero_add, Nat.add_zero, Nat.reduceDiv, Nat.reduceMod, sm_k85 S, sm_R85_1 S, ↓sm_v85_1 S, sm_R85_2 S, ↓sm_v85_2 S, sm_R85_3 S, ↓sm_v85_3 S, sm_R85_4 S, ↓sm_v85_4 S, sm_R85_5 S, ↓sm_v85_5 S, sm_R85_7 S, ↓sm_v85_7 S, sm_R85_11 S, ↓sm_v85_11 S, sm_R85_12 S, ↓sm_v85_12 S, sm_R85_15 S, ↓sm_v85_15 S, sm_R85_16 S, ↓sm_v85_16 S, sm_R85_17 S, ↓sm_v85_17 S, sm_R85_26 S, ↓sm_v85_26 S, sm_R85_29 S, ↓sm_v85_29 S, sm_R85_30 S, ↓sm_v85_30 S, sm_R85_32 S, ↓sm_v85_32 S, sm_R85_33 S, ↓sm_v85_33 S, sm_R85_34 S, ↓sm_v85_34 S, sm_R85_35 S, ↓sm_v85_35 S, sm_R85_36 S, ↓sm_v85_36 S, sm_R85_37 S, ↓sm_v85_37 S, sm_R85_38 S, ↓sm_v85_38 S, sm_R85_40 S, ↓sm_v85_40 S, sm_R85_41 S, ↓sm_v85_41 S, sm_R85_48 S, ↓sm_v85_48 S, sm_R85_49 S, ↓sm_v85_49 S, sm_k86 S, sm_n86 S, sm_k87 S, sm_n87 S, sm_k88 S, sm_n88 S, sm_k89 S, sm_n89 S, sm_k90 S, sm_n90 S, sm_k91 S, sm_n91 S, sm_k92 S, sm_n92 S, sm_k93 S, sm_n93 S, sm_k94 S, sm_n94 S, sm_k95 S, sm_n95 S, sm_k96 S, sm_n96 S, sm_k97 S, sm_n97 S, sm_k98 S, sm_n98 S, sm_k99 S, sm_n99 S, sm_k100 S, sm_n100 S, sm_k101 S, sm_n101 S, sm_k102 S, sm_n102 S, sm_k103 S, sm_n103 S, sm_k104 S, sm_n104 S, sm_k105 S, sm_n105 S, sm_k106 S, sm_n106 S, sm_k107 S, sm_n107 S, sm_k108 S, sm_n108 S, sm_k109 S, sm_n109 S, sm_k110 S, sm_n110 S, ei]
    · rw [if_neg q]
      simp (disch := first | exact sR_rfl _ _ rfl | omega) only [ft_lit, ft_m1, ft_m2, ft_m3, ft_m5, ft_m6, ft_cl, ft_lt, ft_le, ft_eq, ft_mlt, ft_ltm, ft_mltm, ft_meq, ft_eqm, ft_meqm, ft_add, ft_mul, ft_sub, ft_nm, ft_m1p, ft_and, ft_or, ft_31, ft_shl, ft_shr, ft_bz, ft_z0, ft_z1, ft_z01, ft_bb, ft_zt, ft_zf, ft_or0, ft_rv, ft_rvr, ft_rf, ft_rfn, ft_bI, ft_bJ, ft_bV, ft_bR, ft_bRn, ft_isr, ft_isn, ft_ifn, ft_ifr, ft_ov, ft_ovn, ft_in, k_sI, n_sI, R_sI, J_sI, c_sI, z_sI, k_sJ, n_sJ, R_sJ, I_sJ, c_sJ, z_sJ, k_sR, n_sR, I_sR, J_sR, c_sR, z_sR, k_wI, n_wI, R_wI, J_wI, I_wIe, k_wJ, n_wJ, R_wJ, I_wJ, J_wJe, I_wIn, J_wJn, I_sIe, J_sJe, R_sRe, I_sIn, I_sIk, J_sJn, J_sJk, R_sRn, R_sRk, eq_self, if_true, if_false, ↓reduceIte, cond_true, cond_false, ↓cond_eq_ite, and_true, true_and, and_false, false_and, or_true, true_or, or_false, false_or, not_true_eq_false, not_false_eq_true, ft_ltT, ft_ltF, ft_eqT, ft_eqF, Bool.false_eq_true, Bool.true_eq_false, Bool.not_true, Bool.not_false, Bool.and_true, Bool.true_and, Bool.and_false, Bool.false_and, decide_true, decide_false, Nat.reduceAdd, Nat.reduceMul, Nat.reduceSub, Nat.reduceEqDiff, Nat.reduceLT, Nat.zero_add, Nat.add_zero, Nat.reduceDiv, Nat.reduceMod, sm_k85 S, sm_R85_1 S, ↓sm_v85_1 S, sm_R85_2 S, ↓sm_v85_2 S, sm_R85_3 S, ↓sm_v85_3 S, sm_R85_4 S, ↓sm_v85_4 S, sm_R85_5 S, ↓sm_v85_5 S, sm_R85_7 S, ↓sm_v85_7 S, sm_R85_11 S, ↓sm_v85_11 S, sm_R85_12 S, ↓sm_v85_12 S, sm_R85_15 S, ↓sm_v85_15 S, sm_R85_16 S, ↓sm_v85_16 S, sm_R85_17 S, ↓sm_v85_17 S, sm_R85_26 S, ↓sm_v85_26 S, sm_R85_29 S, ↓sm_v85_29 S, sm_R85_30 S, ↓sm_v85_30 S, sm_R85_32 S, ↓sm_v85_32 S, sm_R85_33 S, ↓sm_v85_33 S, sm_R85_34 S, ↓sm_v85_34 S, sm_R85_35 S, ↓sm_v85_35 S, sm_R85_36 S, ↓sm_v85_36 S, sm_R85_37 S, ↓sm_v85_37 S, sm_R85_38 S, ↓sm_v85_38 S, sm_R85_40 S, ↓sm_v85_40 S, sm_R85_41 S, ↓sm_v85_41 S, sm_R85_48 S, ↓sm_v85_48 S, sm_R85_49 S, ↓sm_v85_49 S, sm_k86 S, sm_n86 S, sm_k87 S, sm_n87 S, sm_k88 S, sm_n88 S, sm_k89 S, sm_n89 S, sm_k90 S, sm_n90 S, sm_k91 S, sm_n91 S, sm_k92 S, sm_n92 S, sm_k93 S, sm_n93 S, sm_k94 S, sm_n94 S, sm_k95 S, sm_n95 S, sm_k96 S, sm_n96 S, sm_k97 S, sm_n97 S, sm_k98 S, sm_n98 S, sm_k99 S, sm_n99 S, sm_k100 S, sm_n100 S, sm_k101 S, sm_n101 S, sm_k102 S, sm_n102 S, sm_k103 S, sm_n103 S, sm_k104 S, sm_n104 S, sm_k105 S, sm_n105 S, sm_k106 S, sm_n106 S, sm_k107 S, sm_n107 S, sm_k108 S, sm_n108 S, sm_k109 S, sm_n109 S, sm_k110 S, sm_n110 S, ei]
def dTl : Nat → Nat → Prop := fun a i => dT a i ∨ a = 105 ∨ a = 106
theorem RWn.fr {D : Nat → Nat → Prop} {h h' : jH} {at' : Nat → Nat} {n : Nat} (R : RWn h at' n) (x : jX D jN h h') (q1 : ¬ D 85 39) (q2 : ∀ i, ¬ D 104 i) : RWn h' at' n := ⟨by rw [x.I q1]; exact R.1, fun i hi => by rw [x.I (q2 _)]; exact R.2 i hi⟩
theorem M_ly_78 {F : Nat × Nat} (hF : FF F) {k : Nat → Nat} (W : WK k) {w : Nat} (hw : w < k 177) {pr : Nat → Nat → Nat} (pb : ∀ c y, pr c y ≤ 9) (pn : ∀ c y, ft_nb c y = none → pr c y = 0) {p : Nat → Bool} (hp : cnt p 25 ≤ 6) {D : Nat → Nat} (hD : tD nR (cnt p 25) (tSn p (vsG k (k 180) w)) pr D) : ∀ r c f h, c + r = 25 → r < f → WR h k → SRn h pr 125 → RWn h (fun i => wat p i 25) (cnt p 25) → (∀ t, t < c → j_I h 105 t = nI (tSn p (vsG k (k 180) w) t)) → T0n h (cnt p 25) c 0 → ∃ h', m_M_laysTours_78 F f 85 (nI w) (nI (2 ^ cnt p 25 - 1)) (nI c) h = some (none, h') ∧ jX dTl jN h h' ∧ SB h' ∧ RS h' 105 (tSn p (vsG k (k 180) w)) ∧ RQ h' D (2 ^ cnt p 25)
  | 0, c, f, h, e, hf, C, P, Rw, Q, T => by
    obtain ⟨g, rfl⟩ : ∃ g, f = g + 1 := ⟨f - 1, by omega⟩
    have : c = 25 := by omega
    subst this
    obtain ⟨h', e', x', R'⟩ := M_tr_147 hF pb pn (tSn_ok hp) hD 1600 F.1 h (td0 nR (cnt p 25)) true (by have := hF.1; omega) C.1 P Q (fun c u hc hu => T c u hc hu (Or.inl hc)) td0_in (wUn_le _ _ _ _) (fun z => nomatch z)
    refine ⟨h', ?_, x'.up (fun a i z => Or.inr (Or.inr z)) (fun _ _ z => z), C.2.2.fr x' (fun z => by unfold d106 at z; omega), RS.fr (r := 105) Q x' (fun i z => by unfold d106 at z; omega), R'⟩
    rw [q_M_laysTours_78, if_neg (by decide)]
    exact e'
  | r + 1, c, f, h, e, hf, C, P, Rw, Q, T => by
    obtain ⟨g, rfl⟩ : ∃ g, f = g + 1 := ⟨f - 1, by omega⟩
    have bm := W.many
    have p6 := pw6 hp
    have S := C.1
    obtain ⟨h1, e1, x1, B1⟩ := M_seenFrom hF C.1 C.2.1 W C.2.2 (w := w) (c := c) (by omega) (by omega)
    have C1 := C.dt x1 B1
    have S1 := C1.1
    have Rw1 := Rw.fr x1 (fun z => by unfold dT at z; omega) (fun i z => by unfold dT at z; omega)
    have bl := ft_bs_lt (sgS c (sgt k (k 180) w c)) 25
    have b1 := bI_of e1
    have b2 := bI_of (M_wIn (F := F) hF S1 hp Rw1 (fun i hi => (wat_p 25 hi).2.1) (set := ft_bs (sgS c (sgt k (k 180) w c)) 25) (by omega))
    have e2 : ft_bs (fun i => (ft_bs (sgS c (sgt k (k 180) w c)) 25).testBit (wat p i 25)) (cnt p 25) = tSn p (vsG k (k 180) w) c := ft_bs_e _ (fun j hj => by
      obtain ⟨w1, w2, w3⟩ := wat_p 25 hj
      rw [bs_tb w2]; rfl)
    rw [e2] at b2
    have x2 : jX (fun a i => dT a i ∨ a = 105) jN h (j_sI h1 105 c (nI (tSn p (vsG k (k 180) w) c))) := (x1.up (D' := fun a i => dT a i ∨ a = 105) (fun a i z => Or.inl z) (fun _ _ z => z)).sI (Or.inr rfl)
    have C2 : WR (j_sI h1 105 c (nI (tSn p (vsG k (k 180) w) c))) k := C1.fr (D := dRo 105) (jX.rf.sI rfl) (fun a i z => by unfold dRo at z; omega)
    have Q2 : ∀ t, t < c + 1 → j_I (j_sI h1 105 c (nI (tSn p (vsG k (k 180) w) c))) 105 t = nI (tSn p (vsG k (k 180) w) t) := fun t ht => by
      by_cases z : t = c
      · rw [z, I_sIe]
      · rw [I_sIk z, x1.I (fun z => by unfold dT at z; omega)]; exact Q t (by omega)
    have T2 : T0n (j_sI h1 105 c (nI (tSn p (vsG k (k 180) w) c))) (cnt p 25) c 0 := T.fr x2 (fun i z => by unfold dT at z; omega)
    have P2 := P.fr x2 (fun i z => by unfold dT at z; omega)
    have Rw2 := Rw.fr x2 (fun z => by unfold dT at z; omega) (fun i z => by unfold dT at z; omega)
    obtain ⟨h3, e3, x3, T3⟩ := M_ly_103 (F := F) hp (c := c) (by omega) (nI w) (m_M_laysTours_78 F g) (2 ^ cnt p 25) 0 F.1 _ (by omega) (by have := hF.1; omega) C2.1 T2
    obtain ⟨h', e', x', B', Q', R'⟩ := M_ly_78 hF W hw pb pn hp hD r (c + 1) g h3 (by omega) (by omega) (C2.fr x3 (fun a i z => by unfold d106 at z; omega)) (P2.fr x3 (fun i z => by unfold d106 at z; omega)) (Rw2.fr x3 (fun z => by unfold d106 at z; omega) (fun i z => by unfold d106 at z; omega)) (fun t ht => by rw [x3.I (fun z => by unfold d106 at z; omega)]; exact Q2 t ht) T3
    refine ⟨h', ?_, ((x2.tr x3).tr x').up (fun a i d => by simp only [d106, dTl, dT] at d ⊢; omega) (fun a i d => d.elim (fun d => d.elim id id) id), B', Q', R'⟩
    rw [q_M_laysTours_78, if_pos (by rw [ft_lt (by omega) (by omega)]; omega), if_pos (sm_k85 S), if_pos (sm_k85 S), b1, if_pos (sm_k85 S1), b2]
    have S' := S
    rw [← e', ← e3]
    simp (disch := first | exact sR_rfl _ _ rfl | omega) only [ft_lit, ft_m1, ft_m2, ft_m3, ft_m5, ft_m6, ft_cl, ft_lt, ft_le, ft_eq, ft_mlt, ft_ltm, ft_mltm, ft_meq, ft_eqm, ft_meqm, ft_add, ft_mul, ft_sub, ft_nm, ft_m1p, ft_and, ft_or, ft_31, ft_shl, ft_shr, ft_bz, ft_z0, ft_z1, ft_z01, ft_bb, ft_zt, ft_zf, ft_or0, ft_rv, ft_rvr, ft_rf, ft_rfn, ft_bI, ft_bJ, ft_bV, ft_bR, ft_bRn, ft_isr, ft_isn, ft_ifn, ft_ifr, ft_ov, ft_ovn, ft_in, k_sI, n_sI, R_sI, J_sI, c_sI, z_sI, k_sJ, n_sJ, R_sJ, I_sJ, c_sJ, z_sJ, k_sR, n_sR, I_sR, J_sR, c_sR, z_sR, k_wI, n_wI, R_wI, J_wI, I_wIe, k_wJ, n_wJ, R_wJ, I_wJ, J_wJe, I_wIn, J_wJn, I_sIe, J_sJe, R_sRe, I_sIn, I_sIk, J_sJn, J_sJk, R_sRn, R_sRk, eq_self, if_true, if_false, ↓reduceIte, cond_true, cond_false, ↓cond_eq_ite, and_true, true_and, and_false, false_and, or_true, true_or, or_false, false_or, not_true_eq_false, not_false_eq_true, ft_ltT, ft_ltF, ft_eqT, ft_eqF, Bool.false_eq_true, Bool.true_eq_false, Bool.not_true, Bool.not_false, Bool.and_true, Bool.true_and, Bool.and_false, Bool.false_and, decide_true, decide_false, Nat.reduceAdd, Nat.reduceMul, Nat.reduceSub, Nat.reduceEqDiff, Nat.reduceLT, Nat.zero_add, Nat.add_zero, Nat.reduceDiv, Nat.reduceMod, sm_k85 S, sm_R85_1 S, ↓sm_v85_1 S, sm_R85_2 S, ↓sm_v85_2 S, sm_R85_3 S, ↓sm_v85_3 S, sm_R85_4 S, ↓sm_v85_4 S, sm_R85_5 S, ↓sm_v85_5 S, sm_R85_7 S, ↓sm_v85_7 S, sm_R85_11 S, ↓sm_v85_11 S, sm_R85_12 S, ↓sm_v85_12 S, sm_R85_15 S, ↓sm_v85_15 S, sm_R85_16 S, ↓sm_v85_16 S, sm_R85_17 S, ↓sm_v85_17 S, sm_R85_26 S, ↓sm_v85_26 S, sm_R85_29 S, ↓sm_v85_29 S, sm_R85_30 S, ↓sm_v85_30 S, sm_R85_32 S, ↓sm_v85_32 S, sm_R85_33 S, ↓sm_v85_33 S, sm_R85_34 S, ↓sm_v85_34 S, sm_R85_35 S, ↓sm_v85_35 S, sm_R85_36 S, ↓sm_v85_36 S, sm_R85_37 S, ↓sm_v85_37 S, sm_R85_38 S, ↓sm_v85_38 S, sm_R85_40 S, ↓sm_v85_40 S, sm_R85_41 S, ↓sm_v85_41 S, sm_R85_48 S, ↓sm_v85_48 S, sm_R85_49 S, ↓sm_v85_49 S, sm_k86 S, sm_n86 S, sm_k87 S, sm_n87 S, sm_k88 S, sm_n88 S, sm_k89 S, sm_n89 S, sm_k90 S, sm_n90 S, sm_k91 S, sm_n91 S, sm_k92 S, sm_n92 S, sm_k93 S, sm_n93 S, sm_k94 S, sm_n94 S, sm_k95 S, sm_n95 S, sm_k96 S, sm_n96 S, sm_k97 S, sm_n97 S, sm_k98 S, sm_n98 S, sm_k99 S, sm_n99 S, sm_k100 S, sm_n100 S, sm_k101 S, sm_n101 S, sm_k102 S, sm_n102 S, sm_k103 S, sm_n103 S, sm_k104 S, sm_n104 S, sm_k105 S, sm_n105 S, sm_k106 S, sm_n106 S, sm_k107 S, sm_n107 S, sm_k108 S, sm_n108 S, sm_k109 S, sm_n109 S, sm_k110 S, sm_n110 S, sm_k85 S1, sm_R85_1 S1, ↓sm_v85_1 S1, sm_R85_2 S1, ↓sm_v85_2 S1, sm_R85_3 S1, ↓sm_v85_3 S1, sm_R85_4 S1, ↓sm_v85_4 S1, sm_R85_5 S1, ↓sm_v85_5 S1, sm_R85_7 S1, ↓sm_v85_7 S1, sm_R85_11 S1, ↓sm_v85_11 S1, sm_R85_12 S1, ↓sm_v85_12 S1, sm_R85_15 S1, ↓sm_v85_15 S1, sm_R85_16 S1, ↓sm_v85_16 S1, sm_R85_17 S1, ↓sm_v85_17 S1, sm_R85_26 S1, ↓sm_v85_26 S1, sm_R85_29 S1, ↓sm_v85_29 S1, sm_R85_30 S1, ↓sm_v85_30 S1, sm_R85_32 S1, ↓sm_v85_32 S1, sm_R85_33 S1, ↓sm_v85_33 S1, sm_R85_34 S1, ↓sm_v85_34 S1, sm_R85_35 S1, ↓sm_v85_35 S1, sm_R85_36 S1, ↓sm_v85_36 S1, sm_R85_37 S1, ↓sm_v85_37 S1, sm_R85_38 S1, ↓sm_v85_38 S1, sm_R85_40 S1, ↓sm_v85_40 S1, sm_R85_41 S1, ↓sm_v85_41 S1, sm_R85_48 S1, ↓sm_v85_48 S1, sm_R85_49 S1, ↓sm_v85_49 S1, sm_k86 S1, sm_n86 S1, sm_k87 S1, sm_n87 S1, sm_k88 S1, sm_n88 S1, sm_k89 S1, sm_n89 S1, sm_k90 S1, sm_n90 S1, sm_k91 S1, sm_n91 S1, sm_k92 S1, sm_n92 S1, sm_k93 S1, sm_n93 S1, sm_k94 S1, sm_n94 S1, sm_k95 S1, sm_n95 S1, sm_k96 S1, sm_n96 S1, sm_k97 S1, sm_n97 S1, sm_k98 S1, sm_n98 S1, sm_k99 S1, sm_n99 S1, sm_k100 S1, sm_n100 S1, sm_k101 S1, sm_n101 S1, sm_k102 S1, sm_n102 S1, sm_k103 S1, sm_n103 S1, sm_k104 S1, sm_n104 S1, sm_k105 S1, sm_n105 S1, sm_k106 S1, sm_n106 S1, sm_k107 S1, sm_n107 S1, sm_k108 S1, sm_n108 S1, sm_k109 S1, sm_n109 S1, sm_k110 S1, sm_n110 S1]
def dT7 : Nat → Nat → Prop := fun a i => (a = 85 ∧ i = 39) ∨ a = 104
theorem WR.f7 {h h' : jH} {k : Nat → Nat} (C : WR h k) (x : jX dT7 jN h h') : WR h' k := ⟨C.1.fr x (fun _ _ z => z), C.2.1.fr x (fun a i z => by unfold dT7 at z; omega), C.2.2.fr x (fun z => by unfold dT7 at z; omega)⟩
def dTa : Nat → Nat → Prop := fun a i => dSt a i ∨ dT7 a i ∨ a = 105 ∨ a = 106
theorem M_ly_7 {F : Nat × Nat} (hF : FF F) {k : Nat → Nat} (W : WK k) {w : Nat} (hw : w < k 177) {D : Nat → Nat} (hD : tD nR (cnt (tP k w) 25) (tSn (tP k w) (vsG k (k 180) w)) (prW k (k 180) w 33554431) D) : ∀ r c f h, c + r = 25 → r < f → WR h k → RWn h (fun i => wat (tP k w) i 25) (cnt (tP k w) c) → ∃ h', m_M_laysTours_7 F f 85 (nI w) (nI c) h = some (none, h') ∧ jX dTa jN h h' ∧ SB h' ∧ SRn h' (prW k (k 180) w 33554431) 125 ∧ RWn h' (fun i => wat (tP k w) i 25) (cnt (tP k w) 25) ∧ RS h' 105 (tSn (tP k w) (vsG k (k 180) w)) ∧ RQ h' D (2 ^ cnt (tP k w) 25)
  | 0, c, f, h, e, hf, C, Rw => by
    obtain ⟨g, rfl⟩ : ∃ g, f = g + 1 := ⟨f - 1, by omega⟩
    have : c = 25 := by omega
    subst this
    have bm := W.many
    have hp := tP_c W (w := w) (by omega)
    have p6 := pw6 hp
    obtain ⟨h1, e1, x1, B1, P1⟩ := M_lstep hF W C hw (set := 33554431) (by omega)
    have C1 := C.st x1 B1
    have Rw1 := Rw.fr x1 (fun z => by unfold dSt dT at z; omega) (fun i z => by unfold dSt dT at z; omega)
    obtain ⟨h2, e2, x2, B2, Q2, R2⟩ := M_ly_78 hF W hw (fun c y => prW_le k (k 180) w 33554431 c y) (fun c y e => prW_n e) hp hD 25 0 F.1 h1 rfl (by have := hF.1; omega) C1 P1 Rw1 (fun t ht => by omega) (fun c' u' a1 a2 a3 => by omega)
    refine ⟨h2, ?_, (x1.tr x2).up (fun a i d => by simp only [dTl, dTa, dSt, dT7, dT] at d ⊢; omega) (fun a i d => d.elim id id), B2, P1.fr x2 (fun i z => by unfold dTl dT at z; omega), Rw1.fr x2 (fun z => by unfold dTl dT at z; omega) (fun i z => by unfold dTl dT at z; omega), Q2, R2⟩
    rw [q_M_laysTours_7, if_neg (by decide), q_M_allCells]
    show (if j_k h 85 = 17 then _ else _) = _
    rw [if_pos (sm_k85 C.1), bV_of e1, if_pos (sm_k85 C1.1)]
    show m_M_laysTours_78 F F.1 85 (nI w) ((nI 1 <<< (j_I h1 85 39 &&& nI 31)) - nI 1) (nI 0) h1 = _
    rw [Rw1.1]
    have sh : (nI 1 <<< (nI (cnt (tP k w) 25) &&& nI 31)) - nI 1 = nI (2 ^ cnt (tP k w) 25 - 1) := by
      have : ∀ n, n ≤ 6 → (nI 1 <<< (nI n &&& nI 31)) - nI 1 = nI (2 ^ n - 1) := by decide
      exact this _ hp
    rw [sh]
    exact e2
  | r + 1, c, f, h, e, hf, C, Rw => by
    obtain ⟨g, rfl⟩ : ∃ g, f = g + 1 := ⟨f - 1, by omega⟩
    have bm := W.many
    have hp := tP_c W (w := w) (by omega)
    have S := C.1
    have kb := W.b (159 + w)
    have i2 := km C.2.1 (i := 159 + w) (by omega) (by omega)
    have b1 := bI_of (M_isIn (F := F) (h := h) (s := k (159 + w)) (c := c) (by omega) (by omega))
    have r1 := Rw.1
    cases px : (k (159 + w)).testBit c with
    | false =>
      have cs : cnt (tP k w) (c + 1) = cnt (tP k w) c := by rw [cnt_s, show tP k w c = false from px, ft_zf, Nat.add_zero]
      obtain ⟨h', e', x', R'⟩ := M_ly_7 hF W hw hD r (c + 1) g h (by omega) (by omega) C (by rw [cs]; exact Rw)
      refine ⟨h', ?_, x', R'⟩
      rw [px] at b1
      rw [← e', q_M_laysTours_7]
      simp (disch := first | exact sR_rfl _ _ rfl | omega) only [ft_lit, ft_m1, ft_m2, ft_m3, ft_m5, ft_m6, ft_cl, ft_lt, ft_le, ft_eq, ft_mlt, ft_ltm, ft_mltm, ft_meq, ft_eqm, ft_meqm, ft_add, ft_mul, ft_sub, ft_nm, ft_m1p, ft_and, ft_or, ft_31, ft_shl, ft_shr, ft_bz, ft_z0, ft_z1, ft_z01, ft_bb, ft_zt, ft_zf, ft_or0, ft_rv, ft_rvr, ft_rf, ft_rfn, ft_bI, ft_bJ, ft_bV, ft_bR, ft_bRn, ft_isr, ft_isn, ft_ifn, ft_ifr, ft_ov, ft_ovn, ft_in, k_sI, n_sI, R_sI, J_sI, c_sI, z_sI, k_sJ, n_sJ, R_sJ, I_sJ, c_sJ, z_sJ, k_sR, n_sR, I_sR, J_sR, c_sR, z_sR, k_wI, n_wI, R_wI, J_wI, I_wIe, k_wJ, n_wJ, R_wJ, I_wJ, J_wJe, I_wIn, J_wJn, I_sIe, J_sJe, R_sRe, I_sIn, I_sIk, J_sJn, J_sJk, R_sRn, R_sRk, eq_self, if_true, if_false, ↓reduceIte, cond_true, cond_false, ↓cond_eq_ite, and_true, true_and, and_false, false_and, or_true, true_or, or_false, false_or, not_true_eq_false, not_false_eq_true, ft_ltT, ft_ltF, ft_eqT, ft_eqF, Bool.false_eq_true, Bool.true_eq_false, Bool.not_true, Bool.not_false, Bool.and_true, Bool.true_and, Bool.and_false, Bool.false_and, decide_true, decide_false, Nat.reduceAdd, Nat.reduceMul, Nat.reduceSub, Nat.reduceEqDiff, Nat.reduceLT, Nat.zero_add, Nat.add_zero, Nat.reduceDiv, Nat.reduceMod, sm_k85 S, sm_R85_1 S, ↓sm_v85_1 S, sm_R85_2 S, ↓sm_v85_2 S, sm_R85_3 S, ↓sm_v85_3 S, sm_R85_4 S, ↓sm_v85_4 S, sm_R85_5 S, ↓sm_v85_5 S, sm_R85_7 S, ↓sm_v85_7 S, sm_R85_11 S, ↓sm_v85_11 S, sm_R85_12 S, ↓sm_v85_12 S, sm_R85_15 S, ↓sm_v85_15 S, sm_R85_16 S, ↓sm_v85_16 S, sm_R85_17 S, ↓sm_v85_17 S, sm_R85_26 S, ↓sm_v85_26 S, sm_R85_29 S, ↓sm_v85_29 S, sm_R85_30 S, ↓sm_v85_30 S, sm_R85_32 S, ↓sm_v85_32 S, sm_R85_33 S, ↓sm_v85_33 S, sm_R85_34 S, ↓sm_v85_34 S, sm_R85_35 S, ↓sm_v85_35 S, sm_R85_36 S, ↓sm_v85_36 S, sm_R85_37 S, ↓sm_v85_37 S, sm_R85_38 S, ↓sm_v85_38 S, sm_R85_40 S, ↓sm_v85_40 S, sm_R85_41 S, ↓sm_v85_41 S, sm_R85_48 S, ↓sm_v85_48 S, sm_R85_49 S, ↓sm_v85_49 S, sm_k86 S, sm_n86 S, sm_k87 S, sm_n87 S, sm_k88 S, sm_n88 S, sm_k89 S, sm_n89 S, sm_k90 S, sm_n90 S, sm_k91 S, sm_n91 S, sm_k92 S, sm_n92 S, sm_k93 S, sm_n93 S, sm_k94 S, sm_n94 S, sm_k95 S, sm_n95 S, sm_k96 S, sm_n96 S, sm_k97 S, sm_n97 S, sm_k98 S, sm_n98 S, sm_k99 S, sm_n99 S, sm_k100 S, sm_n100 S, sm_k101 S, sm_n101 S, sm_k102 S, sm_n102 S, sm_k103 S, sm_n103 S, sm_k104 S, sm_n104 S, sm_k105 S, sm_n105 S, sm_k106 S, sm_n106 S, sm_k107 S, sm_n107 S, sm_k108 S, sm_n108 S, sm_k109 S, sm_n109 S, sm_k110 S, sm_n110 S, i2, ↓b1]
    | true =>
      have pc : tP k w c = true := px
      have cs : cnt (tP k w) (c + 1) = cnt (tP k w) c + 1 := by rw [cnt_s, pc, ft_zt]
      have cl := cnt_st (p := tP k w) (x := c) (y := 25) pc (by omega)
      have wc := wat_c pc 25 (by omega)
      have x1 : jX dT7 jN h (j_sI (j_sI h 104 (cnt (tP k w) c) (nI c)) 85 39 (nI (cnt (tP k w) c + 1))) := ((jX.rf (D := dT7)).sI (Or.inr rfl)).sI (Or.inl ⟨rfl, rfl⟩)
      obtain ⟨h', e', x', R'⟩ := M_ly_7 hF W hw hD r (c + 1) g _ (by omega) (by omega) (C.f7 x1) (by
        rw [cs]
        refine ⟨I_sIe, fun i hi => ?_⟩
        rw [I_sIn (by omega)]
        by_cases z : i = cnt (tP k w) c
        · rw [z, I_sIe]; exact congrArg nI wc.symm
        · rw [I_sIk z]; exact Rw.2 i (by omega))
      refine ⟨h', ?_, (x1.tr x').up (fun a i d => by simp only [dTa, dSt, dT7, dT] at d ⊢; omega) (fun a i d => d.elim id id), R'⟩
      rw [px] at b1
      rw [← e', q_M_laysTours_7]
      simp (disch := first | exact sR_rfl _ _ rfl | omega) only [ft_lit, ft_m1, ft_m2, ft_m3, ft_m5, ft_m6, ft_cl, ft_lt, ft_le, ft_eq, ft_mlt, ft_ltm, ft_mltm, ft_meq, ft_eqm, ft_meqm, ft_add, ft_mul, ft_sub, ft_nm, ft_m1p, ft_and, ft_or, ft_31, ft_shl, ft_shr, ft_bz, ft_z0, ft_z1, ft_z01, ft_bb, ft_zt, ft_zf, ft_or0, ft_rv, ft_rvr, ft_rf, ft_rfn, ft_bI, ft_bJ, ft_bV, ft_bR, ft_bRn, ft_isr, ft_isn, ft_ifn, ft_ifr, ft_ov, ft_ovn, ft_in, k_sI, n_sI, R_sI, J_sI, c_sI, z_sI, k_sJ, n_sJ, R_sJ, I_sJ, c_sJ, z_sJ, k_sR, n_sR, I_sR, J_sR, c_sR, z_sR, k_wI, n_wI, R_wI, J_wI, I_wIe, k_wJ, n_wJ, R_wJ, I_wJ, J_wJe, I_wIn, J_wJn, I_sIe, J_sJe, R_sRe, I_sIn, I_sIk, J_sJn, J_sJk, R_sRn, R_sRk, eq_self, if_true, if_false, ↓reduceIte, cond_true, cond_false, ↓cond_eq_ite, and_true, true_and, and_false, false_and, or_true, true_or, or_false, false_or, not_true_eq_false, not_false_eq_true, ft_ltT, ft_ltF, ft_eqT, ft_eqF, Bool.false_eq_true, Bool.true_eq_false, Bool.not_true, Bool.not_false, Bool.and_true, Bool.true_and, Bool.and_false, Bool.false_and, decide_true, decide_false, Nat.reduceAdd, Nat.reduceMul, Nat.reduceSub, Nat.reduceEqDiff, Nat.reduceLT, Nat.zero_add, Nat.add_zero, Nat.reduceDiv, Nat.reduceMod, sm_k85 S, sm_R85_1 S, ↓sm_v85_1 S, sm_R85_2 S, ↓sm_v85_2 S, sm_R85_3 S, ↓sm_v85_3 S, sm_R85_4 S, ↓sm_v85_4 S, sm_R85_5 S, ↓sm_v85_5 S, sm_R85_7 S, ↓sm_v85_7 S, sm_R85_11 S, ↓sm_v85_11 S, sm_R85_12 S, ↓sm_v85_12 S, sm_R85_15 S, ↓sm_v85_15 S, sm_R85_16 S, ↓sm_v85_16 S, sm_R85_17 S, ↓sm_v85_17 S, sm_R85_26 S, ↓sm_v85_26 S, sm_R85_29 S, ↓sm_v85_29 S, sm_R85_30 S, ↓sm_v85_30 S, sm_R85_32 S, ↓sm_v85_32 S, sm_R85_33 S, ↓sm_v85_33 S, sm_R85_34 S, ↓sm_v85_34 S, sm_R85_35 S, ↓sm_v85_35 S, sm_R85_36 S, ↓sm_v85_36 S, sm_R85_37 S, ↓sm_v85_37 S, sm_R85_38 S, ↓sm_v85_38 S, sm_R85_40 S, ↓sm_v85_40 S, sm_R85_41 S, ↓sm_v85_41 S, sm_R85_48 S, ↓sm_v85_48 S, sm_R85_49 S, ↓sm_v85_49 S, sm_k86 S, sm_n86 S, sm_k87 S, sm_n87 S, sm_k88 S, sm_n88 S, sm_k89 S, sm_n89 S, sm_k90 S, sm_n90 S, sm_k91 S, sm_n91 S, sm_k92 S, sm_n92 S, sm_k93 S, sm_n93 S, sm_k94 S, sm_n94 S, sm_k95 S, sm_n95 S, sm_k96 S, sm_n96 S, sm_k97 S, sm_n97 S, sm_k98 S, sm_n98 S, sm_k99 S, sm_n99 S, sm_k100 S, sm_n100 S, sm_k101 S, sm_n101 S, sm_k102 S, sm_n102 S, sm_k103 S, sm_n103 S, sm_k104 S, sm_n104 S, sm_k105 S, sm_n105 S, sm_k106 S, sm_n106 S, sm_k107 S, sm_n107 S, sm_k108 S, sm_n108 S, sm_k109 S, sm_n109 S, sm_k110 S, sm_n110 S, i2, ↓b1, r1]
theorem M_lyT {F : Nat × Nat} (hF : FF F) {h : jH} {k : Nat → Nat} (W : WK k) (C : WR h k) {w : Nat} (hw : w < k 177) {D : Nat → Nat} (hD : tD nR (cnt (tP k w) 25) (tSn (tP k w) (vsG k (k 180) w)) (prW k (k 180) w 33554431) D) : ∃ h', m_M_laysTours F 85 (nI w) h = some (none, h') ∧ jX dTa jN h h' ∧ SB h' ∧ SRn h' (prW k (k 180) w 33554431) 125 ∧ RWn h' (fun i => wat (tP k w) i 25) (cnt (tP k w) 25) ∧ RS h' 105 (tSn (tP k w) (vsG k (k 180) w)) ∧ RQ h' D (2 ^ cnt (tP k w) 25) := by
  have x1 : jX dT7 jN h (j_sI h 85 39 (nI 0)) := jX.rf.sI (Or.inl ⟨rfl, rfl⟩)
  obtain ⟨h', e', x', R'⟩ := M_ly_7 hF W hw hD 25 0 F.1 _ rfl (by have := hF.1; omega) (C.f7 x1) ⟨I_sIe, fun i hi => by
    have : cnt (tP k w) 0 = 0 := rfl
    omega⟩
  refine ⟨h', ?_, (x1.tr x').up (fun a i d => by simp only [dTa, dSt, dT7, dT] at d ⊢; omega) (fun a i d => d.elim id id), R'⟩
  rw [q_M_laysTours, if_pos (sm_k85 C.1)]
  exact e'
