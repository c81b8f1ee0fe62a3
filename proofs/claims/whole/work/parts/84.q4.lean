/-! THE REFERENCE COUNTS -/
def dRo (r : Nat) : Nat → Nat → Prop := fun a _ => a = r
def RD (h : jH) (r : Nat) (d : Nat → Nat) : Prop := ∀ a, a < 25 → j_I h r a = nI (d a)
theorem RD.up {h : jH} {r : Nat} {d : Nat → Nat} (R : RD h r d) (a x : Nat) : RD (j_sI h r a (nI x)) r (va_up d a x) := fun b hb => by
  by_cases e : b = a
  · rw [e, I_sIe, va_e]
  · rw [I_sIk e, va_n e]; exact R b hb
theorem SRn.fr {D : Nat → Nat → Prop} {h h' : jH} {pr : Nat → Nat → Nat} {n : Nat} (P : SRn h pr n) (x : jX D jN h h') (d : ∀ i, ¬ D 100 i) : SRn h' pr n := fun c y a1 a2 a3 a4 => by rw [x.I (d _)]; exact P c y a1 a2 a3 a4
theorem wst_00 {bw : Bool} {pr : Nat → Nat → Nat} {c y : Nat} {s : (Nat → Nat) × Bool} (p : pr c y = 0) : wst bw pr c y s = s := by
  cases nb : ft_nb c y with
  | none => exact wst_n nb
  | some t => exact wst_0 nb p
theorem prI_0 : prI 0 = 1000000 := rfl
theorem prI_1 {v : Nat} (h : 0 < v) : prI v = v := if_neg (by omega)
theorem M_lf1 {F : Nat × Nat} {h : jH} (S : ShM h) {pr : Nat → Nat → Nat} (P : SRn h pr 125) (pb : ∀ c y, pr c y ≤ 9) (pn : ∀ c y, ft_nb c y = none → pr c y = 0) {c y : Nat} (hc : c < 25) (h1 : 1 ≤ y) (h2 : y ≤ 4) {s : (Nat → Nat) × Bool} (R : RD h 101 s.1) (sb : ∀ a, a < 25 → s.1 a ≤ 1000000) (k33 : Nat → Int32 → jH → Option jO) (k41 : Nat → Int32 → Int32 → jH → Option jO) (f : Nat) : ∃ h', m_M_laysLeft_50 F k33 k41 (f + 1) 85 (nI (ft_z s.2)) (nI c) (nI y) h = m_M_laysLeft_50 F k33 k41 f 85 (nI (ft_z (wst true pr c y s).2)) (nI c) (nI (y + 1)) h' ∧ jX (dRo 101) jN h h' ∧ RD h' 101 (wst true pr c y s).1 := by
  obtain ⟨d, ch⟩ := s
  have ca := bI_of (M_cellAt (F := F) (h := h) (c := c) (w := y) hc (by omega))
  replace R : RD h 101 d := R
  replace sb : ∀ a, a < 25 → d a ≤ 1000000 := sb
  have rc := R c hc
  have bc := sb c hc
  have bp := pb c y
  have p0 := P c y hc h1 h2 (by omega)
  rcases Nat.eq_zero_or_pos (pr c y) with p | p
  · refine ⟨h, ?_, jX.rf, by rw [wst_00 p]; exact R⟩
    rw [p, prI_0] at p0
    rw [q_M_laysLeft_50, wst_00 p]
    simp (disch := first | exact sR_rfl _ _ rfl | omega) only [ft_lit, ft_m1, ft_m2, ft_m3, ft_m5, ft_m6, ft_cl, ft_lt, ft_le, ft_eq, ft_mlt, ft_ltm, ft_mltm, ft_meq, ft_eqm, ft_meqm, ft_add, ft_mul, ft_sub, ft_nm, ft_m1p, ft_and, ft_or, ft_31, ft_shl, ft_shr, ft_bz, ft_z0, ft_z1, ft_z01, ft_bb, ft_zt, ft_zf, ft_or0, ft_rv, ft_rvr, ft_rf, ft_rfn, ft_bI, ft_bJ, ft_bV, ft_bR, ft_bRn, ft_isr, ft_isn, ft_ifn, ft_ifr, ft_ov, ft_ovn, ft_in, k_sI, n_sI, R_sI, J_sI, c_sI, z_sI, k_sJ, n_sJ, R_sJ, I_sJ, c_sJ, z_sJ, k_sR, n_sR, I_sR, J_sR, c_sR, z_sR, k_wI, n_wI, R_wI, J_wI, I_wIe, k_wJ, n_wJ, R_wJ, I_wJ, J_wJe, I_wIn, J_wJn, I_sIe, J_sJe, R_sRe, I_sIn, I_sIk, J_sJn, J_sJk, R_sRn, R_sRk, eq_self, if_true, if_false, ↓reduceIte, cond_true, cond_false, ↓cond_eq_ite, and_true, true_and, and_false, false_and, or_true, true_or, or_false, false_or, not_true_eq_false, not_false_eq_true, ft_ltT, ft_ltF, ft_eqT, ft_eqF, Bool.false_eq_true, Bool.true_eq_false, Bool.not_true, Bool.not_false, Bool.and_true, Bool.true_and, Bool.and_false, Bool.false_and, decide_true, decide_false, Nat.reduceAdd, Nat.reduceMul, Nat.reduceSub, Nat.reduceEqDiff, Nat.reduceLT, Nat.zero_add, Nat.add_zero, Nat.reduceDiv, Nat.reduceMod, sm_k85 S, sm_R85_1 S, ↓sm_v85_1 S, sm_R85_2 S, ↓sm_v85_2 S, sm_R85_3 S, ↓sm_v85_3 S, sm_R85_4 S, ↓sm_v85_4 S, sm_R85_5 S, ↓sm_v85_5 S, sm_R85_7 S, ↓sm_v85_7 S, sm_R85_11 S, ↓sm_v85_11 S, sm_R85_12 S, ↓sm_v85_12 S, sm_R85_15 S, ↓sm_v85_15 S, sm_R85_16 S, ↓sm_v85_16 S, sm_R85_17 S, ↓sm_v85_17 S, sm_R85_26 S, ↓sm_v85_26 S, sm_R85_29 S, ↓sm_v85_29 S, sm_R85_30 S, ↓sm_v85_30 S, sm_R85_32 S, ↓sm_v85_32 S, sm_R85_33 S, ↓sm_v85_33 S, sm_R85_34 S, ↓sm_v85_34 S, sm_R85_35 S, ↓sm_v85_35 S, sm_R85_36 S, ↓sm_v85_36 S, sm_R85_37 S, ↓sm_v85_37 S, sm_R85_38 S, ↓sm_v85_38 S, sm_R85_40 S, ↓sm_v85_40 S, sm_R85_41 S, ↓sm_v85_41 S, sm_R85_48 S, ↓sm_v85_48 S, sm_R85_49 S, ↓sm_v85_49 S, sm_k86 S, sm_n86 S, sm_k87 S, sm_n87 S, sm_k88 S, sm_n88 S, sm_k89 S, sm_n89 S, sm_k90 S, sm_n90 S, sm_k91 S, sm_n91 S, sm_k92 S, sm_n92 S, sm_k93 S, sm_n93 S, sm_k94 S, sm_n94 S, sm_k95 S, sm_n95 S, sm_k96 S, sm_n96 S, sm_k97 S, sm_n97 S, sm_k98 S, sm_n98 S, sm_k99 S, sm_n99 S, sm_k100 S, sm_n100 S, sm_k101 S, sm_n101 S, sm_k102 S, sm_n102 S, sm_k103 S, sm_n103 S, sm_k104 S, sm_n104 S, sm_k105 S, sm_n105 S, sm_k106 S, sm_n106 S, sm_k107 S, sm_n107 S, sm_k108 S, sm_n108 S, sm_k109 S, sm_n109 S, sm_k110 S, sm_n110 S, p0]
  · cases nb : ft_nb c y with
    | none => have := pn c y nb; omega
    | some t =>
      have ht := ft_nb_lt hc nb
      have eo : oI (some t) = nI t := rfl
      rw [nb, eo] at ca
      have rt := R t ht
      have bt := sb t ht
      rw [prI_1 p] at p0
      by_cases l : pr c y + d t < d c
      · have e := wst_1 (bw := true) (s := (d, ch)) nb p l
        simp only [if_true] at e
        rw [e]
        refine ⟨j_sI h 101 c (nI (pr c y + d t)), ?_, jX.rf.sI rfl, R.up _ _⟩
        rw [q_M_laysLeft_50]
        cases ch <;> simp (disch := first | exact sR_rfl _ _ rfl | omega) only [ft_lit, ft_m1, ft_m2, ft_m3, ft_m5, ft_m6, ft_cl, ft_lt, ft_le, ft_eq, ft_mlt, ft_ltm, ft_mltm, ft_meq, ft_eqm, ft_meqm, ft_add, ft_mul, ft_sub, ft_nm, ft_m1p, ft_and, ft_or, ft_31, ft_shl, ft_shr, ft_bz, ft_z0, ft_z1, ft_z01, ft_bb, ft_zt, ft_zf, ft_or0, ft_rv, ft_rvr, ft_rf, ft_rfn, ft_bI, ft_bJ, ft_bV, ft_bR, ft_bRn, ft_isr, ft_isn, ft_ifn, ft_ifr, ft_ov, ft_ovn, ft_in, k_sI, n_sI, R_sI, J_sI, c_sI, z_sI, k_sJ, n_sJ, R_sJ, I_sJ, c_sJ, z_sJ, k_sR, n_sR, I_sR, J_sR, c_sR, z_sR, k_wI, n_wI, R_wI, J_wI, I_wIe, k_wJ, n_wJ, R_wJ, I_wJ, J_wJe, I_wIn, J_wJn, I_sIe, J_sJe, R_sRe, I_sIn, I_sIk, J_sJn, J_sJk, R_sRn, R_sRk, eq_self, if_true, if_false, ↓reduceIte, cond_true, cond_false, ↓cond_eq_ite, and_true, true_and, and_false, false_and, or_true, true_or, or_false, false_or, not_true_eq_false, not_false_eq_true, ft_ltT, ft_ltF, ft_eqT, ft_eqF, Bool.false_eq_true, Bool.true_eq_false, Bool.not_true, Bool.not_false, Bool.and_true, Bool.true_and, Bool.and_false, Bool.false_and, decide_true, decide_false, Nat.reduceAdd, Nat.reduceMul, Nat.reduceSub, Nat.reduceEqDiff, Nat.reduceLT, Nat.zero_add, Nat.add_zero, Nat.reduceDiv, Nat.reduceMod, sm_k85 S, sm_R85_1 S, ↓sm_v85_1 S, sm_R85_2 S, ↓sm_v85_2 S, sm_R85_3 S, ↓sm_v85_3 S, sm_R85_4 S, ↓sm_v85_4 S, sm_R85_5 S, ↓sm_v85_5 S, sm_R85_7 S, ↓sm_v85_7 S, sm_R85_11 S, ↓sm_v85_11 S, sm_R85_12 S, ↓sm_v85_12 S, sm_R85_15 S, ↓sm_v85_15 S, sm_R85_16 S, ↓sm_v85_16 S, sm_R85_17 S, ↓sm_v85_17 S, sm_R85_26 S, ↓sm_v85_26 S, sm_R85_29 S, ↓sm_v85_29 S, sm_R85_30 S, ↓sm_v85_30 S, sm_R85_32 S, ↓sm_v85_32 S, sm_R85_33 S, ↓sm_v85_33 S, sm_R85_34 S, ↓sm_v85_34 S, sm_R85_35 S, ↓sm_v85_35 S, sm_R85_36 S, ↓sm_v85_36 S, sm_R85_37 S, ↓sm_v85_37 S, sm_R85_38 S, ↓sm_v85_38 S, sm_R85_40 S, ↓sm_v85_40 S, sm_R85_41 S, ↓sm_v85_41 S, sm_R85_48 S, ↓sm_v85_48 S, sm_R85_49 S, ↓sm_v85_49 S, sm_k86 S, sm_n86 S, sm_k87 S, sm_n87 S, sm_k88 S, sm_n88 S, sm_k89 S, sm_n89 S, sm_k90 S, sm_n90 S, sm_k91 S, sm_n91 S, sm_k92 S, sm_n92 S, sm_k93 S, sm_n93 S, sm_k94 S, sm_n94 S, sm_k95 S, sm_n95 S, sm_k96 S, sm_n96 S, sm_k97 S, sm_n97 S, sm_k98 S, sm_n98 S, sm_k99 S, sm_n99 S, sm_k100 S, sm_n100 S, sm_k101 S, sm_n101 S, sm_k102 S, sm_n102 S, sm_k103 S, sm_n103 S, sm_k104 S, sm_n104 S, sm_k105 S, sm_n105 S, sm_k106 S, sm_n106 S, sm_k107 S, sm_n107 S, sm_k108 S, sm_n108 S, sm_k109 S, sm_n109 S, sm_k110 S, sm_n110 S, ↓ca, p0, rt, rc]
      · have e := wst_2 (bw := true) (s := (d, ch)) nb p l
        rw [e]
        refine ⟨h, ?_, jX.rf, R⟩
        rw [q_M_laysLeft_50]
        simp (disch := first | exact sR_rfl _ _ rfl | omega) only [ft_lit, ft_m1, ft_m2, ft_m3, ft_m5, ft_m6, ft_cl, ft_lt, ft_le, ft_eq, ft_mlt, ft_ltm, ft_mltm, ft_meq, ft_eqm, ft_meqm, ft_add, ft_mul, ft_sub, ft_nm, ft_m1p, ft_and, ft_or, ft_31, ft_shl, ft_shr, ft_bz, ft_z0, ft_z1, ft_z01, ft_bb, ft_zt, ft_zf, ft_or0, ft_rv, ft_rvr, ft_rf, ft_rfn, ft_bI, ft_bJ, ft_bV, ft_bR, ft_bRn, ft_isr, ft_isn, ft_ifn, ft_ifr, ft_ov, ft_ovn, ft_in, k_sI, n_sI, R_sI, J_sI, c_sI, z_sI, k_sJ, n_sJ, R_sJ, I_sJ, c_sJ, z_sJ, k_sR, n_sR, I_sR, J_sR, c_sR, z_sR, k_wI, n_wI, R_wI, J_wI, I_wIe, k_wJ, n_wJ, R_wJ, I_wJ, J_wJe, I_wIn, J_wJn, I_sIe, J_sJe, R_sRe, I_sIn, I_sIk, J_sJn, J_sJk, R_sRn, R_sRk, eq_self, if_true, if_false, ↓reduceIte, cond_true, cond_false, ↓cond_eq_ite, and_true, true_and, and_false, false_and, or_true, true_or, or_false, false_or, not_true_eq_false, not_false_eq_true, ft_ltT, ft_ltF, ft_eqT, ft_eqF, Bool.false_eq_true, Bool.true_eq_false, Bool.not_true, Bool.not_false, Bool.and_true, Bool.true_and, Bool.and_false, Bool.false_and, decide_true, decide_false, Nat.reduceAdd, Nat.reduceMul, Nat.reduceSub, Nat.reduceEqDiff, Nat.reduceLT, Nat.zero_add, Nat.add_zero, Nat.reduceDiv, Nat.reduceMod, sm_k85 S, sm_R85_1 S, ↓sm_v85_1 S, sm_R85_2 S, ↓sm_v85_2 S, sm_R85_3 S, ↓sm_v85_3 S, sm_R85_4 S, ↓sm_v85_4 S, sm_R85_5 S, ↓sm_v85_5 S, sm_R85_7 S, ↓sm_v85_7 S, sm_R85_11 S, ↓sm_v85_11 S, sm_R85_12 S, ↓sm_v85_12 S, sm_R85_15 S, ↓sm_v85_15 S, sm_R85_16 S, ↓sm_v85_16 S, sm_R85_17 S, ↓sm_v85_17 S, sm_R85_26 S, ↓sm_v85_26 S, sm_R85_29 S, ↓sm_v85_29 S, sm_R85_30 S, ↓sm_v85_30 S, sm_R85_32 S, ↓sm_v85_32 S, sm_R85_33 S, ↓sm_v85_33 S, sm_R85_34 S, ↓sm_v85_34 S, sm_R85_35 S, ↓sm_v85_35 S, sm_R85_36 S, ↓sm_v85_36 S, sm_R85_37 S, ↓sm_v85_37 S, sm_R85_38 S, ↓sm_v85_38 S, sm_R85_40 S, ↓sm_v85_40 S, sm_R85_41 S, ↓sm_v85_41 S, sm_R85_48 S, ↓sm_v85_48 S, sm_R85_49 S, ↓sm_v85_49 S, sm_k86 S, sm_n86 S, sm_k87 S, sm_n87 S, sm_k88 S, sm_n88 S, sm_k89 S, sm_n89 S, sm_k90 S, sm_n90 S, sm_k91 S, sm_n91 S, sm_k92 S, sm_n92 S, sm_k93 S, sm_n93 S, sm_k94 S, sm_n94 S, sm_k95 S, sm_n95 S, sm_k96 S, sm_n96 S, sm_k97 S, sm_n97 S, sm_k98 S, sm_n98 S, sm_k99 S, sm_n99 S, sm_k100 S, sm_n100 S, sm_k101 S, sm_n101 S, sm_k102 S, sm_n102 S, sm_k103 S, sm_n103 S, sm_k104 S, sm_n104 S, sm_k105 S, sm_n105 S, sm_k106 S, sm_n106 S, sm_k107 S, sm_n107 S, sm_k108 S, sm_n108 S, sm_k109 S, sm_n109 S, sm_k110 S, sm_n110 S, ↓ca, p0, rt, rc]
theorem M_lf_50 {F : Nat × Nat} {pr : Nat → Nat → Nat} (pb : ∀ c y, pr c y ≤ 9) (pn : ∀ c y, ft_nb c y = none → pr c y = 0) {c : Nat} (hc : c < 25) {s : (Nat → Nat) × Bool} (sb : ∀ a, a < 25 → s.1 a ≤ 1000000) (k33 : Nat → Int32 → jH → Option jO) (k41 : Nat → Int32 → Int32 → jH → Option jO) : ∀ r y f h, y + r = 4 → r + 1 < f → ShM h → SRn h pr 125 → RD h 101 (wce true pr c y s).1 → ∃ h', m_M_laysLeft_50 F k33 k41 f 85 (nI (ft_z (wce true pr c y s).2)) (nI c) (nI (y + 1)) h = k41 85 (nI (ft_z (wce true pr c 4 s).2)) (nI (c + 1)) h' ∧ jX (dRo 101) jN h h' ∧ RD h' 101 (wce true pr c 4 s).1
  | 0, y, f, h, e, hf, S, P, R => by
    obtain ⟨g, rfl⟩ : ∃ g, f = g + 1 := ⟨f - 1, by omega⟩
    have : y = 4 := by omega
    subst this
    refine ⟨h, ?_, jX.rf, R⟩
    rw [q_M_laysLeft_50]
    simp (disch := first | exact sR_rfl _ _ rfl | omega) only [ft_lit, ft_m1, ft_m2, ft_m3, ft_m5, ft_m6, ft_cl, ft_lt, ft_le, ft_eq, ft_mlt, ft_ltm, ft_mltm, ft_meq, ft_eqm, ft_meqm, ft_add, ft_mul, ft_sub, ft_nm, ft_m1p, ft_and, ft_or, ft_31, ft_shl, ft_shr, ft_bz, ft_z0, ft_z1, ft_z01, ft_bb, ft_zt, ft_zf, ft_or0, ft_rv, ft_rvr, ft_rf, ft_rfn, ft_bI, ft_bJ, ft_bV, ft_bR, ft_bRn, ft_isr, ft_isn, ft_ifn, ft_ifr, ft_ov, ft_ovn, ft_in, k_sI, n_sI, R_sI, J_sI, c_sI, z_sI, k_sJ, n_sJ, R_sJ, I_sJ, c_sJ, z_sJ, k_sR, n_sR, I_sR, J_sR, c_sR, z_sR, k_wI, n_wI, R_wI, J_wI, I_wIe, k_wJ, n_wJ, R_wJ, I_wJ, J_wJe, I_wIn, J_wJn, I_sIe, J_sJe, R_sRe, I_sIn, I_sIk, J_sJn, J_sJk, R_sRn, R_sRk, eq_self, if_true, if_false, ↓reduceIte, cond_true, cond_false, ↓cond_eq_ite, and_true, true_and, and_false, false_and, or_true, true_or, or_false, false_or, not_true_eq_false, not_false_eq_true, ft_ltT, ft_ltF, ft_eqT, ft_eqF, Bool.false_eq_true, Bool.true_eq_false, Bool.not_true, Bool.not_false, Bool.and_true, Bool.true_and, Bool.and_false, Bool.false_and, decide_true, decide_false, Nat.reduceAdd, Nat.reduceMul, Nat.reduceSub, Nat.reduceEqDiff, Nat.reduceLT, Nat.zero_add, Nat.add_zero, Nat.reduceDiv, Nat.reduceMod]
  | r + 1, y, f, h, e, hf, S, P, R => by
    obtain ⟨g, rfl⟩ : ∃ g, f = g + 1 := ⟨f - 1, by omega⟩
    have q := wce_Q (bw := true) (pr := pr) (z := fun _ => True) hc s y (by omega)
    obtain ⟨h1, e1, x1, R1⟩ := M_lf1 (F := F) S P pb pn hc (y := y + 1) (by omega) (by omega) R (fun a ha => Nat.le_trans (q.1 a) (sb a ha)) k33 k41 g
    obtain ⟨h', e', x', R'⟩ := M_lf_50 (F := F) pb pn hc sb k33 k41 r (y + 1) g h1 (by omega) (by omega) (S.fr x1 (fun _ _ z => z)) (P.fr x1 (fun i z => by unfold dRo at z; omega)) R1
    exact ⟨h', e1.trans e', (x1.tr x').up (fun a i d => d.elim id id) (fun a i d => d.elim id id), R'⟩
theorem M_lf_41 {F : Nat × Nat} (hF : FF F) {pr : Nat → Nat → Nat} (pb : ∀ c y, pr c y ≤ 9) (pn : ∀ c y, ft_nb c y = none → pr c y = 0) {s : (Nat → Nat) × Bool} (sb : ∀ a, a < 25 → s.1 a ≤ 1000000) (k33 : Nat → Int32 → jH → Option jO) : ∀ r c f h, c + r = 25 → r < f → ShM h → SRn h pr 125 → RD h 101 (wsw true pr c s).1 → ∃ h', m_M_laysLeft_41 F k33 f 85 (nI (ft_z (wsw true pr c s).2)) (nI c) h = k33 85 (nI (ft_z (wsw true pr 25 s).2)) h' ∧ jX (dRo 101) jN h h' ∧ RD h' 101 (wsw true pr 25 s).1
  | 0, c, f, h, e, hf, S, P, R => by
    obtain ⟨g, rfl⟩ : ∃ g, f = g + 1 := ⟨f - 1, by omega⟩
    have : c = 25 := by omega
    subst this
    refine ⟨h, ?_, jX.rf, R⟩
    rw [q_M_laysLeft_41]
    simp (disch := first | exact sR_rfl _ _ rfl | omega) only [ft_lit, ft_m1, ft_m2, ft_m3, ft_m5, ft_m6, ft_cl, ft_lt, ft_le, ft_eq, ft_mlt, ft_ltm, ft_mltm, ft_meq, ft_eqm, ft_meqm, ft_add, ft_mul, ft_sub, ft_nm, ft_m1p, ft_and, ft_or, ft_31, ft_shl, ft_shr, ft_bz, ft_z0, ft_z1, ft_z01, ft_bb, ft_zt, ft_zf, ft_or0, ft_rv, ft_rvr, ft_rf, ft_rfn, ft_bI, ft_bJ, ft_bV, ft_bR, ft_bRn, ft_isr, ft_isn, ft_ifn, ft_ifr, ft_ov, ft_ovn, ft_in, k_sI, n_sI, R_sI, J_sI, c_sI, z_sI, k_sJ, n_sJ, R_sJ, I_sJ, c_sJ, z_sJ, k_sR, n_sR, I_sR, J_sR, c_sR, z_sR, k_wI, n_wI, R_wI, J_wI, I_wIe, k_wJ, n_wJ, R_wJ, I_wJ, J_wJe, I_wIn, J_wJn, I_sIe, J_sJe, R_sRe, I_sIn, I_sIk, J_sJn, J_sJk, R_sRn, R_sRk, eq_self, if_true, if_false, ↓reduceIte, cond_true, cond_false, ↓cond_eq_ite, and_true, true_and, and_false, false_and, or_true, true_or, or_false, false_or, not_true_eq_false, not_false_eq_true, ft_ltT, ft_ltF, ft_eqT, ft_eqF, Bool.false_eq_true, Bool.true_eq_false, Bool.not_true, Bool.not_false, Bool.and_true, Bool.true_and, Bool.and_false, Bool.false_and, decide_true, decide_false, Nat.reduceAdd, Nat.reduceMul, Nat.reduceSub, Nat.reduceEqDiff, Nat.reduceLT, Nat.zero_add, Nat.add_zero, Nat.reduceDiv, Nat.reduceMod]
  | r + 1, c, f, h, e, hf, S, P, R => by
    obtain ⟨g, rfl⟩ : ∃ g, f = g + 1 := ⟨f - 1, by omega⟩
    have q := wsw_Q (bw := true) (pr := pr) (z := fun _ => True) s c (by omega)
    obtain ⟨h1, e1, x1, R1⟩ := M_lf_50 (F := F) pb pn (c := c) (by omega) (s := wsw true pr c s) (fun a ha => Nat.le_trans (q.1 a) (sb a ha)) k33 (m_M_laysLeft_41 F k33 g) 4 0 F.1 h rfl (by have := hF.1; omega) S P R
    obtain ⟨h', e', x', R'⟩ := M_lf_41 hF pb pn sb k33 r (c + 1) g h1 (by omega) (by omega) (S.fr x1 (fun _ _ z => z)) (P.fr x1 (fun i z => by unfold dRo at z; omega)) R1
    refine ⟨h', ?_, (x1.tr x').up (fun a i d => d.elim id id) (fun a i d => d.elim id id), R'⟩
    rw [q_M_laysLeft_41, if_pos (by rw [ft_lt (by omega) (by omega)]; omega)]
    exact e1.trans e'
theorem M_lf_33 {F : Nat × Nat} (hF : FF F) {pr : Nat → Nat → Nat} (pb : ∀ c y, pr c y ≤ 9) (pn : ∀ c y, ft_nb c y = none → pr c y = 0) {g : Nat} {D : Nat → Nat} (hD : wD g true pr D) : ∀ r f h d ch, r + 1 < f → ShM h → SRn h pr 125 → RD h 101 d → wIn 25 (fun c => c = g) (wEg true pr) d → wUn d D (fun c => c) 25 ≤ r → (ch = false → ∀ c, c < 25 → d c = D c) → (r = 0 → ch = true → True) → ∃ h', m_M_laysLeft_33 F f 85 (nI (ft_z ch)) h = some (none, h') ∧ jX (dRo 101) jN h h' ∧ RD h' 101 D := by
  intro r
  induction r with
  | zero =>
    intro f h d ch hf S P R i u z _
    obtain ⟨g1, rfl⟩ : ∃ g, f = g + 1 := ⟨f - 1, by omega⟩
    cases ch with
    | false =>
      refine ⟨h, ?_, jX.rf, fun a ha => by rw [R a ha]; exact congrArg nI (z rfl a ha)⟩
      rw [q_M_laysLeft_33]
      exact if_pos rfl
    | true =>
      obtain ⟨g2, rfl⟩ : ∃ g, g1 = g + 1 := ⟨g1 - 1, by omega⟩
      obtain ⟨i', u', z', n'⟩ := wsw_1 hD i
      have n2 := n' (Nat.le_zero.mp u)
      obtain ⟨h1, e1, x1, R1⟩ := M_lf_41 hF pb pn (s := (d, false)) i.1 (m_M_laysLeft_33 F (g2 + 1)) 25 0 F.1 h rfl (by have := hF.1; omega) S P R
      refine ⟨h1, ?_, x1, fun a ha => by rw [R1 a ha]; exact congrArg nI (z' n2 a ha)⟩
      rw [q_M_laysLeft_33, if_neg (by decide)]
      refine e1.trans ?_
      rw [n2, q_M_laysLeft_33]
      exact if_pos rfl
  | succ r ih =>
    intro f h d ch hf S P R i u z _
    obtain ⟨g1, rfl⟩ : ∃ g, f = g + 1 := ⟨f - 1, by omega⟩
    cases ch with
    | false =>
      refine ⟨h, ?_, jX.rf, fun a ha => by rw [R a ha]; exact congrArg nI (z rfl a ha)⟩
      rw [q_M_laysLeft_33]
      exact if_pos rfl
    | true =>
      obtain ⟨i', u', z', _⟩ := wsw_1 hD i
      obtain ⟨h1, e1, x1, R1⟩ := M_lf_41 hF pb pn (s := (d, false)) i.1 (m_M_laysLeft_33 F g1) 25 0 F.1 h rfl (by have := hF.1; omega) S P R
      obtain ⟨h', e', x', R'⟩ := ih g1 h1 (wsw true pr 25 (d, false)).1 (wsw true pr 25 (d, false)).2 (by omega) (S.fr x1 (fun _ _ z => z)) (P.fr x1 (fun i z => by unfold dRo at z; omega)) R1 i' (by omega) z' (fun _ _ => trivial)
      refine ⟨h', ?_, (x1.tr x').up (fun a i d => d.elim id id) (fun a i d => d.elim id id), R'⟩
      rw [q_M_laysLeft_33, if_neg (by decide)]
      exact e1.trans e'
theorem M_lf_2 {F : Nat × Nat} (hF : FF F) {pr : Nat → Nat → Nat} (pb : ∀ c y, pr c y ≤ 9) (pn : ∀ c y, ft_nb c y = none → pr c y = 0) {g : Nat} (hg : g < 25) {D : Nat → Nat} (hD : wD g true pr D) : ∀ r n f h, n + r = 25 → r < f → ShM h → SRn h pr 125 → (∀ a, a < n → j_I h 101 a = nI (wd0 g a)) → ∃ h', m_M_laysLeft_2 F f 85 (nI g) (nI n) h = some (none, h') ∧ jX (dRo 101) jN h h' ∧ RD h' 101 D
  | 0, n, f, h, e, hf, S, P, R => by
    obtain ⟨g', rfl⟩ : ∃ g, f = g + 1 := ⟨f - 1, by omega⟩
    have : n = 25 := by omega
    subst this
    obtain ⟨h', e', x', R'⟩ := M_lf_33 hF pb pn hD 25 F.1 h (wd0 g) true (by have := hF.1; omega) S P R wd0_in (wUn_le _ _ _ _) (fun z => nomatch z) (fun _ _ => trivial)
    refine ⟨h', ?_, x', R'⟩
    rw [q_M_laysLeft_2, if_neg (by rw [ft_lt (by omega) (by omega)]; omega)]
    exact e'
  | r + 1, n, f, h, e, hf, S, P, R => by
    obtain ⟨g', rfl⟩ : ∃ g, f = g + 1 := ⟨f - 1, by omega⟩
    have x1 : jX (dRo 101) jN h (j_sI h 101 n (nI (wd0 g n))) := jX.rf.sI rfl
    obtain ⟨h', e', x', R'⟩ := M_lf_2 hF pb pn hg hD r (n + 1) g' _ (by omega) (by omega) (S.fr x1 (fun _ _ z => z)) (P.fr x1 (fun i z => by unfold dRo at z; omega)) (fun a ha => by
      by_cases q : a = n
      · rw [q, I_sIe]
      · rw [I_sIk q]; exact R a (by omega))
    refine ⟨h', ?_, (x1.tr x').up (fun a i d => d.elim id id) (fun a i d => d.elim id id), R'⟩
    rw [← e', q_M_laysLeft_2]
    by_cases q : n = g
    · have w0 : wd0 g n = 0 := if_pos q
      rw [w0]
      simp (disch := first | exact sR_rfl _ _ rfl | omega) only [ft_lit, ft_m1, ft_m2, ft_m3, ft_m5, ft_m6, ft_cl, ft_lt, ft_le, ft_eq, ft_mlt, ft_ltm, ft_mltm, ft_meq, ft_eqm, ft_meqm, ft_add, ft_mul, ft_sub, ft_nm, ft_m1p, ft_and, ft_or, ft_31, ft_shl, ft_shr, ft_bz, ft_z0, ft_z1, ft_z01, ft_bb, ft_zt, ft_zf, ft_or0, ft_rv, ft_rvr, ft_rf, ft_rfn, ft_bI, ft_bJ, ft_bV, ft_bR, ft_bRn, ft_isr, ft_isn, ft_ifn, ft_ifr, ft_ov, ft_ovn, ft_in, k_sI, n_sI, R_sI, J_sI, c_sI, z_sI, k_sJ, n_sJ, R_sJ, I_sJ, c_sJ, z_sJ, k_sR, n_sR, I_sR, J_sR, c_sR, z_sR, k_wI, n_wI, R_wI, J_wI, I_wIe, k_wJ, n_wJ, R_wJ, I_wJ, J_wJe, I_wIn, J_wJn, I_sIe, J_sJe, R_sRe, I_sIn, I_sIk, J_sJn, J_sJk, R_sRn, R_sRk, eq_self, if_true, if_false, ↓reduceIte, cond_true, cond_false, ↓cond_eq_ite, and_true, true_and, and_false, false_and, or_true, true_or, or_false, false_or, not_true_eq_false, not_false_eq_true, ft_ltT, ft_ltF, ft_eqT, ft_eqF, Bool.false_eq_true, Bool.true_eq_false, Bool.not_true, Bool.not_false, Bool.and_true, Bool.true_and, Bool.and_false, Bool.false_and, decide_true, decide_false, Nat.reduceAdd, Nat.reduceMul, Nat.reduceSub, Nat.reduceEqDiff, Nat.reduceLT, Nat.zero_add, Nat.add_zero, Nat.reduceDiv, Nat.reduceMod, sm_k85 S, sm_R85_1 S, ↓sm_v85_1 S, sm_R85_2 S, ↓sm_v85_2 S, sm_R85_3 S, ↓sm_v85_3 S, sm_R85_4 S, ↓sm_v85_4 S, sm_R85_5 S, ↓sm_v85_5 S, sm_R85_7 S, ↓sm_v85_7 S, sm_R85_11 S, ↓sm_v85_11 S, sm_R85_12 S, ↓sm_v85_12 S, sm_R85_15 S, ↓sm_v85_15 S, sm_R85_16 S, ↓sm_v85_16 S, sm_R85_17 S, ↓sm_v85_17 S, sm_R85_26 S, ↓sm_v85_26 S, sm_R85_29 S, ↓sm_v85_29 S, sm_R85_30 S, ↓sm_v85_30 S, sm_R85_32 S, ↓sm_v85_32 S, sm_R85_33 S, ↓sm_v85_33 S, sm_R85_34 S, ↓sm_v85_34 S, sm_R85_35 S, ↓sm_v85_35 S, sm_R85_36 S, ↓sm_v85_36 S, sm_R85_37 S, ↓sm_v85_37 S, sm_R85_38 S, ↓sm_v85_38 S, sm_R85_40 S, ↓sm_v85_40 S, sm_R85_41 S, ↓sm_v85_41 S, sm_R85_48 S, ↓sm_v85_48 S, sm_R85_49 S, ↓sm_v85_49 S, sm_k86 S, sm_n86 S, sm_k87 S, sm_n87 S, sm_k88 S, sm_n88 S, sm_k89 S, sm_n89 S, sm_k90 S, sm_n90 S, sm_k91 S, sm_n91 S, sm_k92 S, sm_n92 S, sm_k93 S, sm_n93 S, sm_k94 S, sm_n94 S, sm_k95 S, sm_n95 S, sm_k96 S, sm_n96 S, sm_k97 S, sm_n97 S, sm_k98 S, sm_n98 S, sm_k99 S, sm_n99 S, sm_k100 S, sm_n100 S, sm_k101 S, sm_n101 S, sm_k102 S, sm_n102 S, sm_k103 S, sm_n103 S, sm_k104 S, sm_n104 S, sm_k105 S, sm_n105 S, sm_k106 S, sm_n106 S, sm_k107 S, sm_n107 S, sm_k108 S, sm_n108 S, sm_k109 S, sm_n109 S, sm_k110 S, sm_n110 S]
    · have w0 : wd0 g n = 1000000 := if_neg q
      rw [w0]
      simp (disch := first | exact sR_rfl _ _ rfl | omega) only [ft_lit, ft_m1, ft_m2, ft_m3, ft_m5, ft_m6, ft_cl, ft_lt, ft_le, ft_eq, ft_mlt, ft_ltm, ft_mltm, ft_meq, ft_eqm, ft_meqm, ft_add, ft_mul, ft_sub, ft_nm, ft_m1p, ft_and, ft_or, ft_31, ft_shl, ft_shr, ft_bz, ft_z0, ft_z1, ft_z01, ft_bb, ft_zt, ft_zf, ft_or0, ft_rv, ft_rvr, ft_rf, ft_rfn, ft_bI, ft_bJ, ft_bV, ft_bR, ft_bRn, ft_isr, ft_isn, ft_ifn, ft_ifr, ft_ov, ft_ovn, ft_in, k_sI, n_sI, R_sI, J_sI, c_sI, z_sI, k_sJ, n_sJ, R_sJ, I_sJ, c_sJ, z_sJ, k_sR, n_sR, I_sR, J_sR, c_sR, z_sR, k_wI, n_wI, R_wI, J_wI, I_wIe, k_wJ, n_wJ, R_wJ, I_wJ, J_wJe, I_wIn, J_wJn, I_sIe, J_sJe, R_sRe, I_sIn, I_sIk, J_sJn, J_sJk, R_sRn, R_sRk, eq_self, if_true, if_false, ↓reduceIte, cond_true, cond_false, ↓cond_eq_ite, and_true, true_and, and_false, false_and, or_true, true_or, or_false, false_or, not_true_eq_false, not_false_eq_true, ft_ltT, ft_ltF, ft_eqT, ft_eqF, Bool.false_eq_true, Bool.true_eq_false, Bool.not_true, Bool.not_false, Bool.and_true, Bool.true_and, Bool.and_false, Bool.false_and, decide_true, decide_false, Nat.reduceAdd, Nat.reduceMul, Nat.reduceSub, Nat.reduceEqDiff, Nat.reduceLT, Nat.zero_add, Nat.add_zero, Nat.reduceDiv, Nat.reduceMod, sm_k85 S, sm_R85_1 S, ↓sm_v85_1 S, sm_R85_2 S, ↓sm_v85_2 S, sm_R85_3 S, ↓sm_v85_3 S, sm_R85_4 S, ↓sm_v85_4 S, sm_R85_5 S, ↓sm_v85_5 S, sm_R85_7 S, ↓sm_v85_7 S, sm_R85_11 S, ↓sm_v85_11 S, sm_R85_12 S, ↓sm_v85_12 S, sm_R85_15 S, ↓sm_v85_15 S, sm_R85_16 S, ↓sm_v85_16 S, sm_R85_17 S, ↓sm_v85_17 S, sm_R85_26 S, ↓sm_v85_26 S, sm_R85_29 S, ↓sm_v85_29 S, sm_R85_30 S, ↓sm_v85_30 S, sm_R85_32 S, ↓sm_v85_32 S, sm_R85_33 S, ↓sm_v85_33 S, sm_R85_34 S, ↓sm_v85_34 S, sm_R85_35 S, ↓sm_v85_35 S, sm_R85_36 S, ↓sm_v85_36 S, sm_R85_37 S, ↓sm_v85_37 S, sm_R85_38 S, ↓sm_v85_38 S, sm_R85_40 S, ↓sm_v85_40 S, sm_R85_41 S, ↓sm_v85_41 S, sm_R85_48 S, ↓sm_v85_48 S, sm_R85_49 S, ↓sm_v85_49 S, sm_k86 S, sm_n86 S, sm_k87 S, sm_n87 S, sm_k88 S, sm_n88 S, sm_k89 S, sm_n89 S, sm_k90 S, sm_n90 S, sm_k91 S, sm_n91 S, sm_k92 S, sm_n92 S, sm_k93 S, sm_n93 S, sm_k94 S, sm_n94 S, sm_k95 S, sm_n95 S, sm_k96 S, sm_n96 S, sm_k97 S, sm_n97 S, sm_k98 S, sm_n98 S, sm_k99 S, sm_n99 S, sm_k100 S, sm_n100 S, sm_k101 S, sm_n101 S, sm_k102 S, sm_n102 S, sm_k103 S, sm_n103 S, sm_k104 S, sm_n104 S, sm_k105 S, sm_n105 S, sm_k106 S, sm_n106 S, sm_k107 S, sm_n107 S, sm_k108 S, sm_n108 S, sm_k109 S, sm_n109 S, sm_k110 S, sm_n110 S]
/-- what is left to the goal -/
theorem M_left {F : Nat × Nat} (hF : FF F) {h : jH} (S : ShM h) {pr : Nat → Nat → Nat} (P : SRn h pr 125) (pb : ∀ c y, pr c y ≤ 9) (pn : ∀ c y, ft_nb c y = none → pr c y = 0) {g : Nat} (hg : g < 25) {D : Nat → Nat} (hD : wD g true pr D) : ∃ h', m_M_laysLeft F 85 (nI g) h = some (none, h') ∧ jX (dRo 101) jN h h' ∧ RD h' 101 D := by
  obtain ⟨h', e', x', R'⟩ := M_lf_2 hF pb pn hg hD 25 0 F.1 h rfl (by have := hF.1; omega) S P (fun a ha => by omega)
  exact ⟨h', by rw [q_M_laysLeft]; exact e', x', R'⟩
