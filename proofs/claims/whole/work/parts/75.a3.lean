/-! THE WORDS OF A LAW ARE TOLD -/
theorem U_kn {F : Nat × Nat} {h : jH} {o : Nat} {k : Nat → Nat} (A : LA h o) {w c : Nat} (hw : w < 4) (i6 : j_I h (o + 6) w = nI (ft_bs (ft_sh k w) 25)) (hc : c < 25) : m_L_knows F o (nI w) (nI c) h = some (some (.int (nI (ft_z (ft_sh k w c)))), h) := by
  have lt := ft_bs_lt (ft_sh k w) 25
  have tb : (ft_bs (ft_sh k w) 25).testBit c = ft_sh k w c := by rw [ft_bs_t, decide_eq_true hc, Bool.true_and]
  have e31 : c &&& 31 = c := ft_31 (by omega)
  have r6 : ∀ ff : Nat → Option jO, j_rv (va_rf (j_R h o 6)) ff = ff (o + 6) := fun ff => by rw [A.2.1.2.2.2.2.2.1]; rfl
  cases q : ft_sh k w c with
  | true =>
    rw [q] at tb
    simp (disch := first | exact sR_rfl _ _ rfl | omega) only [q_L_knows, ft_lit, ft_m1, ft_m2, ft_m3, ft_m5, ft_m6, ft_cl, ft_lt, ft_le, ft_eq, ft_mlt, ft_ltm, ft_mltm, ft_meq, ft_eqm, ft_meqm, ft_add, ft_mul, ft_sub, ft_nm, ft_m1p, ft_and, ft_or, ft_31, ft_shl, ft_shr, ft_bz, ft_z0, ft_z1, ft_z01, ft_bb, ft_zt, ft_zf, ft_or0, ft_rv, ft_rvr, ft_rf, ft_rfn, ft_bI, ft_bJ, ft_bV, ft_bR, ft_bRn, ft_isr, ft_isn, ft_ifn, ft_ifr, ft_ov, ft_ovn, ft_in, k_sI, n_sI, R_sI, J_sI, c_sI, z_sI, k_sJ, n_sJ, R_sJ, I_sJ, c_sJ, z_sJ, k_sR, n_sR, I_sR, J_sR, c_sR, z_sR, k_wI, n_wI, R_wI, J_wI, I_wIe, k_wJ, n_wJ, R_wJ, I_wJ, J_wJe, I_wIn, J_wJn, I_sIe, J_sJe, R_sRe, I_sIn, I_sIk, J_sJn, J_sJk, R_sRn, R_sRk, eq_self, if_true, if_false, ↓reduceIte, cond_true, cond_false, ↓cond_eq_ite, and_true, true_and, and_false, false_and, or_true, true_or, or_false, false_or, not_true_eq_false, not_false_eq_true, ft_ltT, ft_ltF, ft_eqT, ft_eqF, Bool.false_eq_true, Bool.true_eq_false, Bool.not_true, Bool.not_false, Bool.and_true, Bool.true_and, Bool.and_false, Bool.false_and, decide_true, decide_false, Nat.reduceAdd, Nat.reduceMul, Nat.reduceSub, Nat.reduceEqDiff, Nat.reduceLT, Nat.zero_add, Nat.add_zero, Nat.reduceDiv, Nat.reduceMod, A.1, ↓r6, A.2.2.2.2.2.2.2.1.1, A.2.2.2.2.2.2.2.1.2, i6, e31, tb]
  | false =>
    rw [q] at tb
    simp (disch := first | exact sR_rfl _ _ rfl | omega) only [q_L_knows, ft_lit, ft_m1, ft_m2, ft_m3, ft_m5, ft_m6, ft_cl, ft_lt, ft_le, ft_eq, ft_mlt, ft_ltm, ft_mltm, ft_meq, ft_eqm, ft_meqm, ft_add, ft_mul, ft_sub, ft_nm, ft_m1p, ft_and, ft_or, ft_31, ft_shl, ft_shr, ft_bz, ft_z0, ft_z1, ft_z01, ft_bb, ft_zt, ft_zf, ft_or0, ft_rv, ft_rvr, ft_rf, ft_rfn, ft_bI, ft_bJ, ft_bV, ft_bR, ft_bRn, ft_isr, ft_isn, ft_ifn, ft_ifr, ft_ov, ft_ovn, ft_in, k_sI, n_sI, R_sI, J_sI, c_sI, z_sI, k_sJ, n_sJ, R_sJ, I_sJ, c_sJ, z_sJ, k_sR, n_sR, I_sR, J_sR, c_sR, z_sR, k_wI, n_wI, R_wI, J_wI, I_wIe, k_wJ, n_wJ, R_wJ, I_wJ, J_wJe, I_wIn, J_wJn, I_sIe, J_sJe, R_sRe, I_sIn, I_sIk, J_sJn, J_sJk, R_sRn, R_sRk, eq_self, if_true, if_false, ↓reduceIte, cond_true, cond_false, ↓cond_eq_ite, and_true, true_and, and_false, false_and, or_true, true_or, or_false, false_or, not_true_eq_false, not_false_eq_true, ft_ltT, ft_ltF, ft_eqT, ft_eqF, Bool.false_eq_true, Bool.true_eq_false, Bool.not_true, Bool.not_false, Bool.and_true, Bool.true_and, Bool.and_false, Bool.false_and, decide_true, decide_false, Nat.reduceAdd, Nat.reduceMul, Nat.reduceSub, Nat.reduceEqDiff, Nat.reduceLT, Nat.zero_add, Nat.add_zero, Nat.reduceDiv, Nat.reduceMod, A.1, ↓r6, A.2.2.2.2.2.2.2.1.1, A.2.2.2.2.2.2.2.1.2, i6, e31, tb]
theorem U_kn_b {F : Nat × Nat} {h : jH} {o : Nat} {k : Nat → Nat} (A : LA h o) {w c : Nat} (hw : w < 4) (i6 : j_I h (o + 6) w = nI (ft_bs (ft_sh k w) 25)) (hc : c < 25) (ff : Int32 → jH → Option jO) : jbI (m_L_knows F o (nI w) (nI c) h) ff = ff ((nI (ft_z (ft_sh k w c)))) (h) := bI_of (U_kn (F := F) (h := h) (o := o) (k := k) (A := A) (w := w) (c := c) (hw := hw) (i6 := i6) (hc := hc)) ff
def kS (h2 h : jH) : Prop := h2.1 = h.1 ∧ sR h2 h ∧ h2.2.1 = h.2.1
theorem kS_rfl (h2 h : jH) (e1 : h2.1 = h.1) (e2 : h2.2.2.2.1 = h.2.2.2.1) (e3 : h2.2.1 = h.2.1) : kS h2 h := ⟨e1, e2, e3⟩
def d73 : Nat → Nat → Prop := fun a _ => a = 73
theorem d73_y (i : Nat) : d73 73 i := rfl
def lwd (k : Nat → Nat) (w fr to : Nat) : Nat → Int := fun i => if i = 0 then w else if i = 1 then k (105 + to) else if i = 2 then k (130 + to) else if i = 3 then (k (130 + to) : Int) - k (130 + fr) else if i = 4 then (if 0 < k (4 + 25 * w + to) then 1 else 0) else if i = 5 then k (155 + w) else if i = 6 then k 104 else k 176
theorem U_words {F : Nat × Nat} {h : jH} (S : ShF h) {o : Nat} {k : Nat → Nat} (A : LA h o) (I : LI h o k) (W : WK k) {w fr to : Nat} (hw : w < k 177) (hf : fr < 25) (ht : to < 25) : ∃ h', m_U_tellLawWords F 72 o (nI w) (nI fr) (nI to) h = some (none, h') ∧ jX d73 jN h h' ∧ ∀ i, i < 8 → j_J h' 73 i = iL (lwd k w fr to i) := by
  have b := W.many
  have i1 := I.1 to ht
  have i2 := I.2.1 to ht
  have i3 := I.2.1 fr hf
  have i4 := (I.2.2.2.1 w hw).2.1
  have i5 := I.2.2.2.2.2.2.1
  have i6 := I.2.2.2.2.2.2.2.2.1
  have b1 := W.kind ht
  have b2 := W.hgt ht
  have b3 := W.hgt hf
  have b4 := W.pace (w := w) (by omega)
  have b5 := W.min
  have b6 := W.mood
  have r0 : ∀ h2, sR h2 h → ∀ ff : Nat → Option jO, j_rv (va_rf (j_R h2 o 0)) ff = ff (o + 1) := fun h2 e ff => rv_of A.2.1.1 e ff
  have r1 : ∀ h2, sR h2 h → ∀ ff : Nat → Option jO, j_rv (va_rf (j_R h2 o 1)) ff = ff (o + 2) := fun h2 e ff => rv_of A.2.1.2.1 e ff
  have r4 : ∀ h2, sR h2 h → ∀ ff : Nat → Option jO, j_rv (va_rf (j_R h2 o 4)) ff = ff (o + 4) := fun h2 e ff => rv_of A.2.1.2.2.2.1 e ff
  have r11 : ∀ h2, sR h2 h → ∀ ff : Nat → Option jO, j_rv (va_rf (j_R h2 o 11)) ff = ff (o + 10) := fun h2 e ff => rv_of A.2.1.2.2.2.2.2.2.2.2.2.1 e ff
  have i7 := (I.2.2.2.1 w hw).2.2.2.1
  have kn : ∀ h2 : jH, kS h2 h → ∀ ff : Int32 → jH → Option jO, jbI (m_L_knows F o (nI w) (nI to) h2) ff = ff (nI (ft_z (ft_sh k w to))) h2 := fun h2 ⟨e1, e2, e3⟩ ff => by
    have A2 : LA h2 o := by
      unfold LA j_k j_n j_R at A ⊢
      rw [e1, e2]; exact A
    have i72 : j_I h2 (o + 6) w = nI (ft_bs (ft_sh k w) 25) := by
      unfold j_I at i7 ⊢
      rw [e3]; exact i7
    rw [U_kn A2 (by omega) i72 ht]
    rfl
  have e9 : ((nI (k (130 + to)) - nI (k (130 + fr))).toInt64) = iL ((k (130 + to) : Int) - k (130 + fr)) := by
    rw [iI_sub, iI_L (by omega) (by omega)]
  have l1 : ∀ n, n < 2147483648 → (nI n).toInt64 = iL n := fun n h => nI_L h
  rw [q_U_tellLawWords]
  cases q : ft_sh k w to with
  | true =>
    rw [q] at kn
    have kk : (0 < k (4 + 25 * w + to)) = True := eq_true (of_decide_eq_true q)
    refine ⟨_, by
      simp (disch := first | exact sR_rfl _ _ rfl | exact kS_rfl _ _ rfl rfl rfl | omega) only [q_U_tellLawWords_77, ft_lit, ft_m1, ft_m2, ft_m3, ft_m5, ft_m6, ft_cl, ft_lt, ft_le, ft_eq, ft_mlt, ft_ltm, ft_mltm, ft_meq, ft_eqm, ft_meqm, ft_add, ft_mul, ft_sub, ft_nm, ft_m1p, ft_and, ft_or, ft_31, ft_shl, ft_shr, ft_bz, ft_z0, ft_z1, ft_z01, ft_bb, ft_zt, ft_zf, ft_or0, ft_rv, ft_rvr, ft_rf, ft_rfn, ft_bI, ft_bJ, ft_bV, ft_bR, ft_bRn, ft_isr, ft_isn, ft_ifn, ft_ifr, ft_ov, ft_ovn, ft_in, k_sI, n_sI, R_sI, J_sI, c_sI, z_sI, k_sJ, n_sJ, R_sJ, I_sJ, c_sJ, z_sJ, k_sR, n_sR, I_sR, J_sR, c_sR, z_sR, k_wI, n_wI, R_wI, J_wI, I_wIe, k_wJ, n_wJ, R_wJ, I_wJ, J_wJe, I_wIn, J_wJn, I_sIe, J_sJe, R_sRe, I_sIn, I_sIk, J_sJn, J_sJk, R_sRn, R_sRk, eq_self, if_true, if_false, ↓reduceIte, cond_true, cond_false, ↓cond_eq_ite, and_true, true_and, and_false, false_and, or_true, true_or, or_false, false_or, not_true_eq_false, not_false_eq_true, ft_ltT, ft_ltF, ft_eqT, ft_eqF, Bool.false_eq_true, Bool.true_eq_false, Bool.not_true, Bool.not_false, Bool.and_true, Bool.true_and, Bool.and_false, Bool.false_and, decide_true, decide_false, Nat.reduceAdd, Nat.reduceMul, Nat.reduceSub, Nat.reduceEqDiff, Nat.reduceLT, Nat.zero_add, Nat.add_zero, Nat.reduceDiv, Nat.reduceMod, ↓r0, ↓r1, ↓r4, ↓r11, ↓kn, sf_k72 S, ↓sf_v72_0 S, sf_k73 S, sf_n73 S, A.1, A.2.2.1.1, A.2.2.1.2, A.2.2.2.1.1, A.2.2.2.1.2, A.2.2.2.2.2.1.1, A.2.2.2.2.2.1.2, A.2.2.2.2.2.2.2.2.2.2.2.1.1, A.2.2.2.2.2.2.2.2.2.2.2.1.2, I_sJ, i1, i2, i3, i4, i5, i6]
      rfl, ((((((((jX.rf (D := d73)).sJ (d73_y _)).sJ (d73_y _)).sJ (d73_y _)).sJ (d73_y _)).sJ (d73_y _)).sJ (d73_y _)).sJ (d73_y _)).sJ (d73_y _), fun i hi => ?_⟩
    have c8 : i = 0 ∨ i = 1 ∨ i = 2 ∨ i = 3 ∨ i = 4 ∨ i = 5 ∨ i = 6 ∨ i = 7 := by omega
    rcases c8 with e | e | e | e | e | e | e | e <;> subst e <;> simp (disch := first | exact sR_rfl _ _ rfl | omega) only [ft_lit, ft_m1, ft_m2, ft_m3, ft_m5, ft_m6, ft_cl, ft_lt, ft_le, ft_eq, ft_mlt, ft_ltm, ft_mltm, ft_meq, ft_eqm, ft_meqm, ft_add, ft_mul, ft_sub, ft_nm, ft_m1p, ft_and, ft_or, ft_31, ft_shl, ft_shr, ft_bz, ft_z0, ft_z1, ft_z01, ft_bb, ft_zt, ft_zf, ft_or0, ft_rv, ft_rvr, ft_rf, ft_rfn, ft_bI, ft_bJ, ft_bV, ft_bR, ft_bRn, ft_isr, ft_isn, ft_ifn, ft_ifr, ft_ov, ft_ovn, ft_in, k_sI, n_sI, R_sI, J_sI, c_sI, z_sI, k_sJ, n_sJ, R_sJ, I_sJ, c_sJ, z_sJ, k_sR, n_sR, I_sR, J_sR, c_sR, z_sR, k_wI, n_wI, R_wI, J_wI, I_wIe, k_wJ, n_wJ, R_wJ, I_wJ, J_wJe, I_wIn, J_wJn, I_sIe, J_sJe, R_sRe, I_sIn, I_sIk, J_sJn, J_sJk, R_sRn, R_sRk, eq_self, if_true, if_false, ↓reduceIte, cond_true, cond_false, ↓cond_eq_ite, and_true, true_and, and_false, false_and, or_true, true_or, or_false, false_or, not_true_eq_false, not_false_eq_true, ft_ltT, ft_ltF, ft_eqT, ft_eqF, Bool.false_eq_true, Bool.true_eq_false, Bool.not_true, Bool.not_false, Bool.and_true, Bool.true_and, Bool.and_false, Bool.false_and, decide_true, decide_false, Nat.reduceAdd, Nat.reduceMul, Nat.reduceSub, Nat.reduceEqDiff, Nat.reduceLT, Nat.zero_add, Nat.add_zero, Nat.reduceDiv, Nat.reduceMod, l1, e9, i2, i3, lwd, kk] <;> rfl
  | false =>
    rw [q] at kn
    have kk : (0 < k (4 + 25 * w + to)) = False := eq_false (of_decide_eq_false q)
    refine ⟨_, by
      simp (disch := first | exact sR_rfl _ _ rfl | exact kS_rfl _ _ rfl rfl rfl | omega) only [q_U_tellLawWords_77, ft_lit, ft_m1, ft_m2, ft_m3, ft_m5, ft_m6, ft_cl, ft_lt, ft_le, ft_eq, ft_mlt, ft_ltm, ft_mltm, ft_meq, ft_eqm, ft_meqm, ft_add, ft_mul, ft_sub, ft_nm, ft_m1p, ft_and, ft_or, ft_31, ft_shl, ft_shr, ft_bz, ft_z0, ft_z1, ft_z01, ft_bb, ft_zt, ft_zf, ft_or0, ft_rv, ft_rvr, ft_rf, ft_rfn, ft_bI, ft_bJ, ft_bV, ft_bR, ft_bRn, ft_isr, ft_isn, ft_ifn, ft_ifr, ft_ov, ft_ovn, ft_in, k_sI, n_sI, R_sI, J_sI, c_sI, z_sI, k_sJ, n_sJ, R_sJ, I_sJ, c_sJ, z_sJ, k_sR, n_sR, I_sR, J_sR, c_sR, z_sR, k_wI, n_wI, R_wI, J_wI, I_wIe, k_wJ, n_wJ, R_wJ, I_wJ, J_wJe, I_wIn, J_wJn, I_sIe, J_sJe, R_sRe, I_sIn, I_sIk, J_sJn, J_sJk, R_sRn, R_sRk, eq_self, if_true, if_false, ↓reduceIte, cond_true, cond_false, ↓cond_eq_ite, and_true, true_and, and_false, false_and, or_true, true_or, or_false, false_or, not_true_eq_false, not_false_eq_true, ft_ltT, ft_ltF, ft_eqT, ft_eqF, Bool.false_eq_true, Bool.true_eq_false, Bool.not_true, Bool.not_false, Bool.and_true, Bool.true_and, Bool.and_false, Bool.false_and, decide_true, decide_false, Nat.reduceAdd, Nat.reduceMul, Nat.reduceSub, Nat.reduceEqDiff, Nat.reduceLT, Nat.zero_add, Nat.add_zero, Nat.reduceDiv, Nat.reduceMod, ↓r0, ↓r1, ↓r4, ↓r11, ↓kn, sf_k72 S, ↓sf_v72_0 S, sf_k73 S, sf_n73 S, A.1, A.2.2.1.1, A.2.2.1.2, A.2.2.2.1.1, A.2.2.2.1.2, A.2.2.2.2.2.1.1, A.2.2.2.2.2.1.2, A.2.2.2.2.2.2.2.2.2.2.2.1.1, A.2.2.2.2.2.2.2.2.2.2.2.1.2, I_sJ, i1, i2, i3, i4, i5, i6]
      rfl, ((((((((jX.rf (D := d73)).sJ (d73_y _)).sJ (d73_y _)).sJ (d73_y _)).sJ (d73_y _)).sJ (d73_y _)).sJ (d73_y _)).sJ (d73_y _)).sJ (d73_y _), fun i hi => ?_⟩
    have c8 : i = 0 ∨ i = 1 ∨ i = 2 ∨ i = 3 ∨ i = 4 ∨ i = 5 ∨ i = 6 ∨ i = 7 := by omega
    rcases c8 with e | e | e | e | e | e | e | e <;> subst e <;> simp (disch := first | exact sR_rfl _ _ rfl | omega) only [ft_lit, ft_m1, ft_m2, ft_m3, ft_m5, ft_m6, ft_cl, ft_lt, ft_le, ft_eq, ft_mlt, ft_ltm, ft_mltm, ft_meq, ft_eqm, ft_meqm, ft_add, ft_mul, ft_sub, ft_nm, ft_m1p, ft_and, ft_or, ft_31, ft_shl, ft_shr, ft_bz, ft_z0, ft_z1, ft_z01, ft_bb, ft_zt, ft_zf, ft_or0, ft_rv, ft_rvr, ft_rf, ft_rfn, ft_bI, ft_bJ, ft_bV, ft_bR, ft_bRn, ft_isr, ft_isn, ft_ifn, ft_ifr, ft_ov, ft_ovn, ft_in, k_sI, n_sI, R_sI, J_sI, c_sI, z_sI, k_sJ, n_sJ, R_sJ, I_sJ, c_sJ, z_sJ, k_sR, n_sR, I_sR, J_sR, c_sR, z_sR, k_wI, n_wI, R_wI, J_wI, I_wIe, k_wJ, n_wJ, R_wJ, I_wJ, J_wJe, I_wIn, J_wJn, I_sIe, J_sJe, R_sRe, I_sIn, I_sIk, J_sJn, J_sJk, R_sRn, R_sRk, eq_self, if_true, if_false, ↓reduceIte, cond_true, cond_false, ↓cond_eq_ite, and_true, true_and, and_false, false_and, or_true, true_or, or_false, false_or, not_true_eq_false, not_false_eq_true, ft_ltT, ft_ltF, ft_eqT, ft_eqF, Bool.false_eq_true, Bool.true_eq_false, Bool.not_true, Bool.not_false, Bool.and_true, Bool.true_and, Bool.and_false, Bool.false_and, decide_true, decide_false, Nat.reduceAdd, Nat.reduceMul, Nat.reduceSub, Nat.reduceEqDiff, Nat.reduceLT, Nat.zero_add, Nat.add_zero, Nat.reduceDiv, Nat.reduceMod, l1, e9, i2, i3, lwd, kk] <;> rfl
