/-! A LAND IS COPIED -/
theorem k_cpI (h : jH) (a s b d n x : Nat) : j_k (j_cpI h a s b d n) x = j_k h x := rfl
theorem n_cpI (h : jH) (a s b d n x : Nat) : j_n (j_cpI h a s b d n) x = j_n h x := rfl
theorem R_cpI (h : jH) (a s b d n x i : Nat) : j_R (j_cpI h a s b d n) x i = j_R h x i := rfl
theorem J_cpI (h : jH) (a s b d n x i : Nat) : j_J (j_cpI h a s b d n) x i = j_J h x i := rfl
theorem I_cpIn {h : jH} {a s b d n x i : Nat} (e : x ≠ b) : j_I (j_cpI h a s b d n) x i = j_I h x i := by unfold j_I j_cpI va_up; simp [e]
theorem I_cpIe {h : jH} {a b n i : Nat} (hi : i < n) : j_I (j_cpI h a 0 b 0 n) b i = j_I h a i := by
  unfold j_I j_cpI va_up va_cpy
  simp [hi]
theorem k_cpJ (h : jH) (a s b d n x : Nat) : j_k (j_cpJ h a s b d n) x = j_k h x := rfl
theorem n_cpJ (h : jH) (a s b d n x : Nat) : j_n (j_cpJ h a s b d n) x = j_n h x := rfl
theorem R_cpJ (h : jH) (a s b d n x i : Nat) : j_R (j_cpJ h a s b d n) x i = j_R h x i := rfl
theorem I_cpJ (h : jH) (a s b d n x i : Nat) : j_I (j_cpJ h a s b d n) x i = j_I h x i := rfl
theorem J_cpJn {h : jH} {a s b d n x i : Nat} (e : x ≠ b) : j_J (j_cpJ h a s b d n) x i = j_J h x i := by unfold j_J j_cpJ va_up; simp [e]
theorem J_cpJe {h : jH} {a b n i : Nat} (hi : i < n) : j_J (j_cpJ h a 0 b 0 n) b i = j_J h a i := by
  unfold j_J j_cpJ va_up va_cpy
  simp [hi]
theorem jX.cI {D E : Nat → Nat → Prop} {h h' : jH} {a b n : Nat} (x : jX D E h h') (d : ∀ i, D b i) : jX D E h (j_cpI h' a 0 b 0 n) := by
  obtain ⟨x1, x2, x3, x4⟩ := x
  refine ⟨x1, x2, x3, fun y i => ⟨fun nd => ?_, (x4 y i).2⟩⟩
  have : y ≠ b := fun z => nd (by rw [z]; exact d i)
  exact ⟨(I_cpIn this).trans ((x4 y i).1 nd).1, ((x4 y i).1 nd).2⟩
theorem jX.cJ {D E : Nat → Nat → Prop} {h h' : jH} {a b n : Nat} (x : jX D E h h') (d : ∀ i, D b i) : jX D E h (j_cpJ h' a 0 b 0 n) := by
  obtain ⟨x1, x2, x3, x4⟩ := x
  refine ⟨x1, x2, x3, fun y i => ⟨fun nd => ?_, (x4 y i).2⟩⟩
  have : y ≠ b := fun z => nd (by rw [z]; exact d i)
  exact ⟨((x4 y i).1 nd).1, (J_cpJn this).trans ((x4 y i).1 nd).2⟩
def dO (o : Nat) : Nat → Nat → Prop := fun x _ => o ≤ x ∧ x ≤ o + 10
def eO (o : Nat) : Nat → Nat → Prop := fun x i => x = o + 11 ∧ i < 6
theorem U_copy_162 {F : Nat × Nat} {o a : Nat} (hd : o + 11 < a ∨ a + 11 < o) : ∀ d j f h, j + d = 6 → d < f → LA h o → LA h a → (∀ t i, j_R h (a + 11) i = some t → j_k h t = 15) → ∃ h', m_L_copyFrom_162 F f o a (nI j) h = some (none, h') ∧ jX (fun x i => x = o ∧ (i = 13 ∨ i = 14)) (eO o) h h' ∧ (∀ i, j ≤ i → i < 6 → j_R h' (o + 11) i = j_R h (a + 11) i) ∧ (∀ i, i < j → j_R h' (o + 11) i = j_R h (o + 11) i) ∧ j_I h' o 13 = j_I h a 13 ∧ j_I h' o 14 = j_I h a 14
  | 0, j, f + 1, h, e, _, A, B, Q => by
    have : j = 6 := by omega
    subst this
    refine ⟨j_sI (j_sI h o 13 (j_I h a 13)) o 14 (j_I h a 14), ?_, (jX.rf.sI (by omega)).sI (by omega), fun i h1 h2 => absurd h2 (by omega), fun i hi => rfl, by rw [I_sIk (by omega), I_sIe], I_sIe⟩
    rw [q_L_copyFrom_162]
    simp (disch := first | exact sR_rfl _ _ rfl | omega) only [ft_lit, ft_m1, ft_m2, ft_m3, ft_m5, ft_m6, ft_cl, ft_lt, ft_le, ft_eq, ft_mlt, ft_ltm, ft_mltm, ft_meq, ft_eqm, ft_meqm, ft_add, ft_mul, ft_sub, ft_nm, ft_m1p, ft_and, ft_or, ft_31, ft_shl, ft_shr, ft_bz, ft_z0, ft_z1, ft_z01, ft_bb, ft_zt, ft_zf, ft_or0, ft_rv, ft_rvr, ft_rf, ft_rfn, ft_bI, ft_bJ, ft_bV, ft_bR, ft_bRn, ft_isr, ft_isn, ft_ifn, ft_ifr, ft_ov, ft_ovn, ft_in, k_sI, n_sI, R_sI, J_sI, c_sI, z_sI, k_sJ, n_sJ, R_sJ, I_sJ, c_sJ, z_sJ, k_sR, n_sR, I_sR, J_sR, c_sR, z_sR, k_wI, n_wI, R_wI, J_wI, I_wIe, k_wJ, n_wJ, R_wJ, I_wJ, J_wJe, I_wIn, J_wJn, I_sIe, J_sJe, R_sRe, I_sIn, I_sIk, J_sJn, J_sJk, R_sRn, R_sRk, eq_self, if_true, if_false, ↓reduceIte, cond_true, cond_false, ↓cond_eq_ite, and_true, true_and, and_false, false_and, or_true, true_or, or_false, false_or, not_true_eq_false, not_false_eq_true, ft_ltT, ft_ltF, ft_eqT, ft_eqF, Bool.false_eq_true, Bool.true_eq_false, Bool.not_true, Bool.not_false, Bool.and_true, Bool.true_and, Bool.and_false, Bool.false_and, decide_true, decide_false, Nat.reduceAdd, Nat.reduceMul, Nat.reduceSub, Nat.reduceEqDiff, Nat.reduceLT, Nat.zero_add, Nat.add_zero, Nat.reduceDiv, Nat.reduceMod, A.1, B.1]
  | d + 1, j, f + 1, h, e, hf, A, B, Q => by
    have x0 : jX (fun x i => x = o ∧ (i = 13 ∨ i = 14)) (eO o) h (j_sR h (o + 11) j (j_R h (a + 11) j)) := jX.rf.sR (by unfold eO; omega)
    have ne : ∀ i, ¬ eO o o i := fun i z => by unfold eO at z; omega
    have ne2 : ∀ i, ¬ eO o a i := fun i z => by unfold eO at z; omega
    obtain ⟨h', e1, x1, p1, p2, p3, p4⟩ := U_copy_162 (F := F) hd d (j + 1) f (j_sR h (o + 11) j (j_R h (a + 11) j)) (by omega) (by omega) (A.fr x0 ne) (B.fr x0 ne2) (fun t i q => by
      rw [R_sRn (by omega)] at q
      rw [k_sR]; exact Q t i q)
    refine ⟨h', ?_, x0.t x1, fun i h1 h2 => ?_, fun i hi => ?_, p3, p4⟩
    · rw [← e1, q_L_copyFrom_162]
      cases q : j_R h (a + 11) j with
      | none =>
        have qj : j_R h (a + 11) (nI j).toNatClampNeg = none := by rw [ft_cl (by omega)]; exact q
        rw [if_pos (by rw [ft_lt (by omega) (by omega)]; omega), if_pos A.1, if_pos B.1, la_v12 B (sR_rfl _ _ rfl), if_pos ⟨Or.inl (la_k11 B), by rw [ft_in (by omega), la_n11 B]; omega⟩, la_v12 A (sR_rfl _ _ rfl)]
        simp (disch := first | exact sR_rfl _ _ rfl | omega) only [qj, q, ft_lit, ft_m1, ft_m2, ft_m3, ft_m5, ft_m6, ft_cl, ft_lt, ft_le, ft_eq, ft_mlt, ft_ltm, ft_mltm, ft_meq, ft_eqm, ft_meqm, ft_add, ft_mul, ft_sub, ft_nm, ft_m1p, ft_and, ft_or, ft_31, ft_shl, ft_shr, ft_bz, ft_z0, ft_z1, ft_z01, ft_bb, ft_zt, ft_zf, ft_or0, ft_rv, ft_rvr, ft_rf, ft_rfn, ft_bI, ft_bJ, ft_bV, ft_bR, ft_bRn, ft_isr, ft_isn, ft_ifn, ft_ifr, ft_ov, ft_ovn, ft_in, k_sI, n_sI, R_sI, J_sI, c_sI, z_sI, k_sJ, n_sJ, R_sJ, I_sJ, c_sJ, z_sJ, k_sR, n_sR, I_sR, J_sR, c_sR, z_sR, k_wI, n_wI, R_wI, J_wI, I_wIe, k_wJ, n_wJ, R_wJ, I_wJ, J_wJe, I_wIn, J_wJn, I_sIe, J_sJe, R_sRe, I_sIn, I_sIk, J_sJn, J_sJk, R_sRn, R_sRk, eq_self, if_true, if_false, ↓reduceIte, cond_true, cond_false, ↓cond_eq_ite, and_true, true_and, and_false, false_and, or_true, true_or, or_false, false_or, not_true_eq_false, not_false_eq_true, ft_ltT, ft_ltF, ft_eqT, ft_eqF, Bool.false_eq_true, Bool.true_eq_false, Bool.not_true, Bool.not_false, Bool.and_true, Bool.true_and, Bool.and_false, Bool.false_and, decide_true, decide_false, Nat.reduceAdd, Nat.reduceMul, Nat.reduceSub, Nat.reduceEqDiff, Nat.reduceLT, Nat.zero_add, Nat.add_zero, Nat.reduceDiv, Nat.reduceMod, la_k11 A, la_n11 A, Option.all_none]
      | some t =>
        have kt := Q t j q
        have qj : j_R h (a + 11) (nI j).toNatClampNeg = some t := by rw [ft_cl (by omega)]; exact q
        have k5 : (j_k h t == 15) = true := by rw [kt]; rfl
        rw [if_pos (by rw [ft_lt (by omega) (by omega)]; omega), if_pos A.1, if_pos B.1, la_v12 B (sR_rfl _ _ rfl), if_pos ⟨Or.inl (la_k11 B), by rw [ft_in (by omega), la_n11 B]; omega⟩, la_v12 A (sR_rfl _ _ rfl)]
        simp (disch := first | exact sR_rfl _ _ rfl | omega) only [qj, q, ft_lit, ft_m1, ft_m2, ft_m3, ft_m5, ft_m6, ft_cl, ft_lt, ft_le, ft_eq, ft_mlt, ft_ltm, ft_mltm, ft_meq, ft_eqm, ft_meqm, ft_add, ft_mul, ft_sub, ft_nm, ft_m1p, ft_and, ft_or, ft_31, ft_shl, ft_shr, ft_bz, ft_z0, ft_z1, ft_z01, ft_bb, ft_zt, ft_zf, ft_or0, ft_rv, ft_rvr, ft_rf, ft_rfn, ft_bI, ft_bJ, ft_bV, ft_bR, ft_bRn, ft_isr, ft_isn, ft_ifn, ft_ifr, ft_ov, ft_ovn, ft_in, k_sI, n_sI, R_sI, J_sI, c_sI, z_sI, k_sJ, n_sJ, R_sJ, I_sJ, c_sJ, z_sJ, k_sR, n_sR, I_sR, J_sR, c_sR, z_sR, k_wI, n_wI, R_wI, J_wI, I_wIe, k_wJ, n_wJ, R_wJ, I_wJ, J_wJe, I_wIn, J_wJn, I_sIe, J_sJe, R_sRe, I_sIn, I_sIk, J_sJn, J_sJk, R_sRn, R_sRk, eq_self, if_true, if_false, ↓reduceIte, cond_true, cond_false, ↓cond_eq_ite, and_true, true_and, and_false, false_and, or_true, true_or, or_false, false_or, not_true_eq_false, not_false_eq_true, ft_ltT, ft_ltF, ft_eqT, ft_eqF, Bool.false_eq_true, Bool.true_eq_false, Bool.not_true, Bool.not_false, Bool.and_true, Bool.true_and, Bool.and_false, Bool.false_and, decide_true, decide_false, Nat.reduceAdd, Nat.reduceMul, Nat.reduceSub, Nat.reduceEqDiff, Nat.reduceLT, Nat.zero_add, Nat.add_zero, Nat.reduceDiv, Nat.reduceMod, la_k11 A, la_n11 A, Option.all_some, k5]
    · by_cases w : i = j
      · rw [w, p2 j (by omega), R_sRe]
      · rw [p1 i (by omega) h2, R_sRn (by omega)]
    · rw [p2 i (by omega), R_sRk (by omega)]
theorem U_copy {F : Nat × Nat} (hF : FF F) {h : jH} {o a : Nat} {k : Nat → Nat} (A : LA h o) (B : LA h a) (I : LI h a k) (W : WK k) (hd : o + 11 < a ∨ a + 11 < o) (Q : ∀ t i, j_R h (a + 11) i = some t → j_k h t = 15) : ∃ h', m_L_copyFrom F o a h = some (none, h') ∧ jX (dO o) (eO o) h h' ∧ LI h' o k ∧ ∀ i, i < 6 → j_R h' (o + 11) i = j_R h (a + 11) i := by
  have hF1 := hF.1
  have bm := W.many
  have bg := W.glm
  let h1 := j_cpI (j_cpI h (a + 1) 0 (o + 1) 0 25) (a + 2) 0 (o + 2) 0 25
  let h2 := j_sI h1 o 2 (j_I h a 2)
  let h3 := j_cpI (j_cpI (j_cpI (j_cpI h2 (a + 3) 0 (o + 3) 0 4) (a + 4) 0 (o + 4) 0 4) (a + 5) 0 (o + 5) 0 4) (a + 6) 0 (o + 6) 0 4
  let h4 := j_cpJ h3 (a + 7) 0 (o + 7) 0 4
  let h5 := j_sI h4 o 8 (j_I h a 8)
  let h6 := j_cpI (j_cpI (j_cpI h5 (a + 8) 0 (o + 8) 0 6) (a + 9) 0 (o + 9) 0 6) (a + 10) 0 (o + 10) 0 3
  have x1 : jX (dO o) (eO o) h h1 := (jX.rf.cI (fun i => by unfold dO; omega)).cI (fun i => by unfold dO; omega)
  have x2 : jX (dO o) (eO o) h h2 := x1.sI (by unfold dO; omega)
  have x3 : jX (dO o) (eO o) h h3 := (((x2.cI (fun i => by unfold dO; omega)).cI (fun i => by unfold dO; omega)).cI (fun i => by unfold dO; omega)).cI (fun i => by unfold dO; omega)
  have x4 : jX (dO o) (eO o) h h4 := x3.cJ (fun i => by unfold dO; omega)
  have x5 : jX (dO o) (eO o) h h5 := x4.sI (by unfold dO; omega)
  have x6 : jX (dO o) (eO o) h h6 := ((x5.cI (fun i => by unfold dO; omega)).cI (fun i => by unfold dO; omega)).cI (fun i => by unfold dO; omega)
  have A6 := A.fr x6 (fun i z => by unfold eO at z; omega)
  have B6 := B.fr x6 (fun i z => by unfold eO at z; omega)
  obtain ⟨h', e, x, p1, p2, p3, p4⟩ := U_copy_162 (F := F) hd 6 0 F.1 h6 rfl (by omega) A6 B6 (fun t i q => by rw [x6.k]; exact Q t i q)
  have xx : jX (dO o) (eO o) h h' := x6.t (x.up (fun a i d => by unfold dO; omega) (fun _ _ z => z))
  refine ⟨h', ?_, xx, ?_, fun i hi => p1 i (by omega) hi⟩
  · rw [← e, q_L_copyFrom]
    simp (config := { maxSteps := 2000000 }) (disch := first | exact sR_rfl _ _ rfl | omega) only [ft_lit, ft_m1, ft_m2, ft_m3, ft_m5, ft_m6, ft_cl, ft_lt, ft_le, ft_eq, ft_mlt, ft_ltm, ft_mltm, ft_meq, ft_eqm, ft_meqm, ft_add, ft_mul, ft_sub, ft_nm, ft_m1p, ft_and, ft_or, ft_31, ft_shl, ft_shr, ft_bz, ft_z0, ft_z1, ft_z01, ft_bb, ft_zt, ft_zf, ft_or0, ft_rv, ft_rvr, ft_rf, ft_rfn, ft_bI, ft_bJ, ft_bV, ft_bR, ft_bRn, ft_isr, ft_isn, ft_ifn, ft_ifr, ft_ov, ft_ovn, ft_in, k_sI, n_sI, R_sI, J_sI, c_sI, z_sI, k_sJ, n_sJ, R_sJ, I_sJ, c_sJ, z_sJ, k_sR, n_sR, I_sR, J_sR, c_sR, z_sR, k_wI, n_wI, R_wI, J_wI, I_wIe, k_wJ, n_wJ, R_wJ, I_wJ, J_wJe, I_wIn, J_wJn, I_sIe, J_sJe, R_sRe, I_sIn, I_sIk, J_sJn, J_sJk, R_sRn, R_sRk, eq_self, if_true, if_false, ↓reduceIte, cond_true, cond_false, ↓cond_eq_ite, and_true, true_and, and_false, false_and, or_true, true_or, or_false, false_or, not_true_eq_false, not_false_eq_true, ft_ltT, ft_ltF, ft_eqT, ft_eqF, Bool.false_eq_true, Bool.true_eq_false, Bool.not_true, Bool.not_false, Bool.and_true, Bool.true_and, Bool.and_false, Bool.false_and, decide_true, decide_false, Nat.reduceAdd, Nat.reduceMul, Nat.reduceSub, Nat.reduceEqDiff, Nat.reduceLT, Nat.zero_add, Nat.add_zero, Nat.reduceDiv, Nat.reduceMod, A.1, ↓la_v0 A, ↓la_v1 A, ↓la_v3 A, ↓la_v4 A, ↓la_v5 A, ↓la_v6 A, ↓la_v7 A, ↓la_v9 A, ↓la_v10 A, ↓la_v11 A, ↓la_v12 A, la_k1 A, la_n1 A, la_k2 A, la_n2 A, la_k3 A, la_n3 A, la_k4 A, la_n4 A, la_k5 A, la_n5 A, la_k6 A, la_n6 A, la_k7 A, la_n7 A, la_k8 A, la_n8 A, la_k9 A, la_n9 A, la_k10 A, la_n10 A, la_k11 A, la_n11 A, B.1, ↓la_v0 B, ↓la_v1 B, ↓la_v3 B, ↓la_v4 B, ↓la_v5 B, ↓la_v6 B, ↓la_v7 B, ↓la_v9 B, ↓la_v10 B, ↓la_v11 B, ↓la_v12 B, la_k1 B, la_n1 B, la_k2 B, la_n2 B, la_k3 B, la_n3 B, la_k4 B, la_n4 B, la_k5 B, la_n5 B, la_k6 B, la_n6 B, la_k7 B, la_n7 B, la_k8 B, la_n8 B, la_k9 B, la_n9 B, la_k10 B, la_n10 B, la_k11 B, la_n11 B, k_cpI, n_cpI, R_cpI, k_cpJ, n_cpJ, R_cpJ, I_cpIn, I_cpJ, Nat.le_refl, and_self, h1, h2, h3, h4, h5, h6]
  · obtain ⟨i1, i2, i3, i4, i5, i6, i7, i8, i9, i10, i11⟩ := I
    have hI : ∀ y i, ¬ (y = o ∧ (i = 13 ∨ i = 14)) → j_I h' y i = j_I h6 y i := fun y i q => x.I q
    have hJ : ∀ y i, y ≠ o → j_J h' y i = j_J h6 y i := fun y i q => x.J (fun z => q z.1)
    refine ⟨fun c hc => ?_, fun c hc => ?_, ?_, fun w hw => ?_, ?_, fun g hg => ?_, ?_, ?_, ?_, ?_, ?_⟩
    · rw [hI _ _ (by omega)]
      simp (disch := omega) only [h6, h5, h4, h3, h2, h1, I_cpIn, I_cpIe, I_sIn, I_cpJ]
      exact i1 c hc
    · rw [hI _ _ (by omega)]
      simp (disch := omega) only [h6, h5, h4, h3, h2, h1, I_cpIn, I_cpIe, I_sIn, I_cpJ]
      exact i2 c hc
    · rw [hI _ _ (by omega)]
      simp (disch := omega) only [h6, h5, h4, h3, h2, h1, I_cpIn, I_cpIe, I_sIn, I_sIk, I_sIe, I_cpJ]
      exact i3
    · obtain ⟨j1, j2, j3, j4, j5⟩ := i4 w hw
      refine ⟨?_, ?_, ?_, ?_, ?_⟩
      · rw [hI _ _ (by omega)]
        simp (disch := omega) only [h6, h5, h4, h3, h2, h1, I_cpIn, I_cpIe, I_sIn, I_cpJ]
        exact j1
      · rw [hI _ _ (by omega)]
        simp (disch := omega) only [h6, h5, h4, h3, h2, h1, I_cpIn, I_cpIe, I_sIn, I_cpJ]
        exact j2
      · rw [hI _ _ (by omega)]
        simp (disch := omega) only [h6, h5, h4, h3, h2, h1, I_cpIn, I_cpIe, I_sIn, I_cpJ]
        exact j3
      · rw [hI _ _ (by omega)]
        simp (disch := omega) only [h6, h5, h4, h3, h2, h1, I_cpIn, I_cpIe, I_sIn, I_cpJ]
        exact j4
      · rw [hJ _ _ (by omega)]
        simp (disch := omega) only [h6, h5, h4, h3, h2, h1, J_cpI, J_sI, J_cpJe]
        exact j5
    · rw [hI _ _ (by omega)]
      simp (disch := omega) only [h6, h5, h4, h3, h2, h1, I_cpIn, I_cpIe, I_sIn, I_sIk, I_sIe, I_cpJ]
      exact i5
    · refine ⟨?_, ?_⟩
      · rw [hI _ _ (by omega)]
        simp (disch := omega) only [h6, h5, h4, h3, h2, h1, I_cpIn, I_cpIe, I_sIn, I_cpJ]
        exact (i6 g hg).1
      · rw [hI _ _ (by omega)]
        simp (disch := omega) only [h6, h5, h4, h3, h2, h1, I_cpIn, I_cpIe, I_sIn, I_cpJ]
        exact (i6 g hg).2
    · rw [hI _ _ (by omega)]
      simp (disch := omega) only [h6, h5, h4, h3, h2, h1, I_cpIn, I_cpIe, I_sIn, I_cpJ]
      exact i7
    · rw [hI _ _ (by omega)]
      simp (disch := omega) only [h6, h5, h4, h3, h2, h1, I_cpIn, I_cpIe, I_sIn, I_cpJ]
      exact i8
    · rw [hI _ _ (by omega)]
      simp (disch := omega) only [h6, h5, h4, h3, h2, h1, I_cpIn, I_cpIe, I_sIn, I_cpJ]
      exact i9
    · rw [p3, x6.I (by unfold dO; omega)]; exact i10
    · rw [p4, x6.I (by unfold dO; omega)]; exact i11
theorem ShF.fr2 {D E : Nat → Nat → Prop} {h h' : jH} (S : ShF h) (x : jX D E h h') (e : ∀ a i, E a i → a = 16 ∨ a = 28 ∨ a = 40 ∨ a = 41 ∨ 110 < a) : ShF h' := by
  have xR : ∀ a i, a ≠ 16 → a ≠ 28 → a ≠ 40 → a ≠ 41 → a ≤ 110 → j_R h' a i = j_R h a i := fun a i h1 h2 h3 h4 h5 => x.R (fun z => by have := e a i z; omega)
  unfold ShF at S ⊢
  simp (disch := omega) only [x.k, x.n, xR]
  exact S
