/-! A WHOLE TEXT IS READ: the reference -/
theorem hS_o {h : jH} {c : Nat} {A B C : Nat → Int32} {i : Nat} (e : i ≠ 18) : j_I (hS h c A B C) 85 i = j_I h 85 i := by
  unfold hS
  rw [I_wIn (by omega), I_wIn (by omega), I_wIn (by omega), I_wIe, if_neg e]
theorem hS_94 (h : jH) (c : Nat) (A B C : Nat → Int32) (i : Nat) : j_I (hS h c A B C) 94 i = A i := by
  unfold hS
  rw [I_wIn (by omega), I_wIn (by omega), I_wIe]
theorem hS_96 (h : jH) (c : Nat) (A B C : Nat → Int32) (i : Nat) : j_I (hS h c A B C) 96 i = C i := by
  unfold hS
  rw [I_wIe]
def hRd (h : jH) (tp : Nat → Nat) (tl : Nat) : jH := j_sI (j_sI (j_sI (j_sI (hSp h tp tl) 85 13 (nI 0)) 85 19 (nI 0)) 85 20 (nI 0)) 85 21 (mI 0)
theorem hRd_I {h : jH} {tp : Nat → Nat} {tl a i : Nat} (e : a < 85 ∨ (85 < a ∧ a < 94) ∨ 96 < a) : j_I (hRd h tp tl) a i = j_I h a i := by
  unfold hRd hSp
  rw [I_sIn (by omega), I_sIn (by omega), I_sIn (by omega), I_sIn (by omega), hS_I e]
theorem hRd_o {h : jH} {tp : Nat → Nat} {tl i : Nat} (e : i < 13 ∨ (13 < i ∧ i < 18) ∨ 21 < i) : j_I (hRd h tp tl) 85 i = j_I h 85 i := by
  unfold hRd hSp
  rw [I_sIk (by omega), I_sIk (by omega), I_sIk (by omega), I_sIk (by omega), hS_o (by omega)]
theorem hRd_PM {h : jH} (S : ShM h) {tp : Nat → Nat} {tl : Nat} (Q : TQ h tp tl) {od : Bool} (h8 : j_I h 85 8 = nI (h_fw od)) (h9 : j_I h 85 9 = nI (h_lw od)) (h10 : j_I h 85 10 = nI (ft_z od)) : PM (hRd h tp tl) (tT tp tl) (tPl tp tl) (tN tp tl) od := by
  refine ⟨S, tTM (A := j_I h 94) (B := j_I h 95) (C := j_I h 96) (fun i hi => (Q.2 i hi).2) Q.1 (fun i _ => ?_) (fun i _ => ?_) (fun i _ => ?_), ?_, ?_, ?_⟩
  · unfold hRd hSp
    rw [I_sIn (by omega), I_sIn (by omega), I_sIn (by omega), I_sIn (by omega), hS_94]
  · unfold hRd hSp
    rw [I_sIn (by omega), I_sIn (by omega), I_sIn (by omega), I_sIn (by omega), hS_95]
  · unfold hRd hSp
    rw [I_sIn (by omega), I_sIn (by omega), I_sIn (by omega), I_sIn (by omega), hS_96]
  · rw [hRd_o (by omega)]; exact h8
  · rw [hRd_o (by omega)]; exact h9
  · rw [hRd_o (by omega)]; exact h10
theorem hRd_18 (h : jH) (tp : Nat → Nat) (tl : Nat) : j_I (hRd h tp tl) 85 18 = nI (tN tp tl) := by
  unfold hRd hSp
  rw [I_sIk (by omega), I_sIk (by omega), I_sIk (by omega), I_sIk (by omega), hS_18]
theorem hRd_in (h : jH) (tp : Nat → Nat) (tl : Nat) : hP (hRd h tp tl) (tPl tp tl) (true, 0, 0) = hRd h tp tl := by
  apply hP_in
  · unfold hRd; rw [I_sIk (by omega), I_sIk (by omega), I_sIe]
  · unfold hRd; rw [I_sIk (by omega), I_sIe]
  · unfold hRd; rw [I_sIe]
/-- what a text says: fine or not, and where -/
def tX (tp : Nat → Nat) (tl : Nat) (od : Bool) : Ps × List Cz := h_text (tT tp tl) od (tN tp tl)
theorem M_reads {F : Nat × Nat} (hF : FF F) {h : jH} (S : ShM h) (W : WM h) {tp : Nat → Nat} {tl : Nat} (Q : TQ h tp tl) {od : Bool} (h8 : j_I h 85 8 = nI (h_fw od)) (h9 : j_I h 85 9 = nI (h_lw od)) (h10 : j_I h 85 10 = nI (ft_z od)) (h13 : j_I h 85 13 = nI tl) : m_M_reads F 85 h = some (some (.int (nI (ft_z (tX tp tl od).1.1))), hPe (hRd h tp tl) (tPl tp tl) (tX tp tl od).1) := by
  have hF1 := hF.1
  have H := hRd_PM S Q h8 h9 h10
  have hT := H.2.1.2.2.1
  have hn := H.2.1.2.1
  have o1 := P_one hF H (true, 0, 0) (Nat.zero_le _) ⟨by decide, fun _ => by decide⟩
  rw [hRd_in] at o1
  have o1 := bV_of o1
  have ok := h_one_ok hT (od := od) (s := (true, 0, 0)) (Nat.zero_le _) ⟨by decide, fun _ => by decide⟩
  have xl := P_xl hF H (hRd_18 h tp tl) hN F.1 1 ((h_one (tT tp tl) od (true, 0, 0)).1, [(h_one (tT tp tl) od (true, 0, 0)).2]) ok.1.1 ok.2 (by unfold hN; omega) (by omega) (by omega) (by omega)
  have sp := M_splits hF S W Q
  rw [← h13] at sp
  have sp := bV_of sp
  unfold hRd at o1
  rw [q_M_reads]
  have k85 : ∀ h2 : jH, j_k (hSp h2 tp tl) 85 = j_k h2 85 := fun _ => rfl
  simp (disch := first | exact sR_rfl _ _ rfl | omega) only [ft_lit, ft_m1, ft_m2, ft_m3, ft_m5, ft_m6, ft_cl, ft_lt, ft_le, ft_eq, ft_mlt, ft_ltm, ft_mltm, ft_meq, ft_eqm, ft_meqm, ft_add, ft_mul, ft_sub, ft_nm, ft_m1p, ft_and, ft_or, ft_31, ft_shl, ft_shr, ft_bz, ft_z0, ft_z1, ft_z01, ft_bb, ft_zt, ft_zf, ft_or0, ft_rv, ft_rvr, ft_rf, ft_rfn, ft_bI, ft_bJ, ft_bV, ft_bR, ft_bRn, ft_isr, ft_isn, ft_ifn, ft_ifr, ft_ov, ft_ovn, ft_in, k_sI, n_sI, R_sI, J_sI, c_sI, z_sI, k_sJ, n_sJ, R_sJ, I_sJ, c_sJ, z_sJ, k_sR, n_sR, I_sR, J_sR, c_sR, z_sR, k_wI, n_wI, R_wI, J_wI, I_wIe, k_wJ, n_wJ, R_wJ, I_wJ, J_wJe, I_wIn, J_wJn, I_sIe, J_sJe, R_sRe, I_sIn, I_sIk, J_sJn, J_sJk, R_sRn, R_sRk, eq_self, if_true, if_false, ↓reduceIte, cond_true, cond_false, ↓cond_eq_ite, and_true, true_and, and_false, false_and, or_true, true_or, or_false, false_or, not_true_eq_false, not_false_eq_true, ft_ltT, ft_ltF, ft_eqT, ft_eqF, Bool.false_eq_true, Bool.true_eq_false, Bool.not_true, Bool.not_false, Bool.and_true, Bool.true_and, Bool.and_false, Bool.false_and, decide_true, decide_false, Nat.reduceAdd, Nat.reduceMul, Nat.reduceSub, Nat.reduceEqDiff, Nat.reduceLT, Nat.zero_add, Nat.add_zero, Nat.reduceDiv, Nat.reduceMod, sm_k85 S, ↓sp, k85, ↓o1]
  exact xl
theorem M_reads_b {F : Nat × Nat} (hF : FF F) {h : jH} (S : ShM h) (W : WM h) {tp : Nat → Nat} {tl : Nat} (Q : TQ h tp tl) {od : Bool} (h8 : j_I h 85 8 = nI (h_fw od)) (h9 : j_I h 85 9 = nI (h_lw od)) (h10 : j_I h 85 10 = nI (ft_z od)) (h13 : j_I h 85 13 = nI tl) (ff : Int32 → jH → Option jO) : jbI (m_M_reads F 85 h) ff = ff ((nI (ft_z (tX tp tl od).1.1))) (hPe (hRd h tp tl) (tPl tp tl) (tX tp tl od).1) := bI_of (M_reads (F := F) (hF := hF) (h := h) (S := S) (W := W) (tp := tp) (tl := tl) (Q := Q) (od := od) (h8 := h8) (h9 := h9) (h10 := h10) (h13 := h13)) ff
theorem M_readsAs {F : Nat × Nat} (hF : FF F) {h : jH} (S : ShM h) (W : WM h) {tp : Nat → Nat} {tl : Nat} (Q : TQ h tp tl) (od : Bool) (h13 : j_I h 85 13 = nI tl) : ∃ h0, jX (fun a i => a = 85 ∧ 8 ≤ i ∧ i ≤ 10) jN h h0 ∧ m_M_readsAs F 85 (nI (ft_z od)) h = some (some (.int (nI (ft_z (tX tp tl od).1.1))), hPe (hRd h0 tp tl) (tPl tp tl) (tX tp tl od).1) := by
  let h0 := j_sI (j_sI (j_sI h 85 10 (nI (ft_z od))) 85 8 (nI (h_fw od))) 85 9 (nI (h_lw od))
  have X : jX (fun a i => a = 85 ∧ 8 ≤ i ∧ i ≤ 10) jN h h0 := ((jX.rf.sI ⟨rfl, by omega, by omega⟩).sI ⟨rfl, by omega, by omega⟩).sI ⟨rfl, by omega, by omega⟩
  refine ⟨h0, X, ?_⟩
  have r := M_reads hF (h := h0) S (fun i hi => by rw [X.I (by omega)]; exact W i hi) (tp := tp) (tl := tl) ⟨Q.1, fun i hi => by rw [X.I (by omega)]; exact Q.2 i hi⟩ (od := od) (by show j_I (j_sI _ 85 9 _) 85 8 = _; rw [I_sIk (by omega), I_sIe]) (by show j_I (j_sI _ 85 9 _) 85 9 = _; rw [I_sIe]) (by show j_I (j_sI _ 85 9 _) 85 10 = _; rw [I_sIk (by omega), I_sIk (by omega), I_sIe]) (by rw [X.I (by omega)]; exact h13)
  have r := bI_of r
  rw [q_M_readsAs]
  have z := ft_z01 ((tX tp tl od).1.1)
  cases od
  · simp only [h0, h_fw, h_lw, ft_zf, ft_zt, Bool.false_eq_true, if_false] at r
    simp (disch := first | exact sR_rfl _ _ rfl | omega) only [ft_lit, ft_m1, ft_m2, ft_m3, ft_m5, ft_m6, ft_cl, ft_lt, ft_le, ft_eq, ft_mlt, ft_ltm, ft_mltm, ft_meq, ft_eqm, ft_meqm, ft_add, ft_mul, ft_sub, ft_nm, ft_m1p, ft_and, ft_or, ft_31, ft_shl, ft_shr, ft_bz, ft_z0, ft_z1, ft_z01, ft_bb, ft_zt, ft_zf, ft_or0, ft_rv, ft_rvr, ft_rf, ft_rfn, ft_bI, ft_bJ, ft_bV, ft_bR, ft_bRn, ft_isr, ft_isn, ft_ifn, ft_ifr, ft_ov, ft_ovn, ft_in, k_sI, n_sI, R_sI, J_sI, c_sI, z_sI, k_sJ, n_sJ, R_sJ, I_sJ, c_sJ, z_sJ, k_sR, n_sR, I_sR, J_sR, c_sR, z_sR, k_wI, n_wI, R_wI, J_wI, I_wIe, k_wJ, n_wJ, R_wJ, I_wJ, J_wJe, I_wIn, J_wJn, I_sIe, J_sJe, R_sRe, I_sIn, I_sIk, J_sJn, J_sJk, R_sRn, R_sRk, eq_self, if_true, if_false, ↓reduceIte, cond_true, cond_false, ↓cond_eq_ite, and_true, true_and, and_false, false_and, or_true, true_or, or_false, false_or, not_true_eq_false, not_false_eq_true, ft_ltT, ft_ltF, ft_eqT, ft_eqF, Bool.false_eq_true, Bool.true_eq_false, Bool.not_true, Bool.not_false, Bool.and_true, Bool.true_and, Bool.and_false, Bool.false_and, decide_true, decide_false, Nat.reduceAdd, Nat.reduceMul, Nat.reduceSub, Nat.reduceEqDiff, Nat.reduceLT, Nat.zero_add, Nat.add_zero, Nat.reduceDiv, Nat.reduceMod, sm_k85 S, ↓r, z]
    rfl
  · simp only [h0, h_fw, h_lw, ft_zf, ft_zt, if_true] at r
    simp (disch := first | exact sR_rfl _ _ rfl | omega) only [ft_lit, ft_m1, ft_m2, ft_m3, ft_m5, ft_m6, ft_cl, ft_lt, ft_le, ft_eq, ft_mlt, ft_ltm, ft_mltm, ft_meq, ft_eqm, ft_meqm, ft_add, ft_mul, ft_sub, ft_nm, ft_m1p, ft_and, ft_or, ft_31, ft_shl, ft_shr, ft_bz, ft_z0, ft_z1, ft_z01, ft_bb, ft_zt, ft_zf, ft_or0, ft_rv, ft_rvr, ft_rf, ft_rfn, ft_bI, ft_bJ, ft_bV, ft_bR, ft_bRn, ft_isr, ft_isn, ft_ifn, ft_ifr, ft_ov, ft_ovn, ft_in, k_sI, n_sI, R_sI, J_sI, c_sI, z_sI, k_sJ, n_sJ, R_sJ, I_sJ, c_sJ, z_sJ, k_sR, n_sR, I_sR, J_sR, c_sR, z_sR, k_wI, n_wI, R_wI, J_wI, I_wIe, k_wJ, n_wJ, R_wJ, I_wJ, J_wJe, I_wIn, J_wJn, I_sIe, J_sJe, R_sRe, I_sIn, I_sIk, J_sJn, J_sJk, R_sRn, R_sRk, eq_self, if_true, if_false, ↓reduceIte, cond_true, cond_false, ↓cond_eq_ite, and_true, true_and, and_false, false_and, or_true, true_or, or_false, false_or, not_true_eq_false, not_false_eq_true, ft_ltT, ft_ltF, ft_eqT, ft_eqF, Bool.false_eq_true, Bool.true_eq_false, Bool.not_true, Bool.not_false, Bool.and_true, Bool.true_and, Bool.and_false, Bool.false_and, decide_true, decide_false, Nat.reduceAdd, Nat.reduceMul, Nat.reduceSub, Nat.reduceEqDiff, Nat.reduceLT, Nat.zero_add, Nat.add_zero, Nat.reduceDiv, Nat.reduceMod, sm_k85 S, ↓r, z]
    rfl
