/-! CALLS: one state, two answers alike -/
abbrev St : Type := (Nat → Nat) × (Nat → Option (Nat → Nat)) × List Ue × (Nat → Nat) × Nat × Sc × (Nat → Nat)
def MJ (h : jH) (s : St) : Prop := MI h s.1 s.2.1 s.2.2.1 s.2.2.2.1 s.2.2.2.2.1 s.2.2.2.2.2.1 s.2.2.2.2.2.2
def CJ (h : jH) (s : St) : Prop := CI h s.1 s.2.1 s.2.2.1 s.2.2.2.1 s.2.2.2.2.1 s.2.2.2.2.2.1 s.2.2.2.2.2.2
def WJ (s : St) : Prop := WS s.1 s.2.1 s.2.2.1
def Mst (m : jH → Option jO) (s : St) (r : Value) (s' : St) : Prop := ∀ h, MJ h s → ∃ h', m h = some (some r, h') ∧ MJ h' s' ∧ jX dMM jN h h'
def Cst (m : jH → Option jO) (s : St) (r : Value) (s' : St) : Prop := ∀ h, CJ h s → ∃ h', m h = some (some r, h') ∧ CJ h' s' ∧ jY h h'
/-- a call is answered alike -/
def Alk (m c : jH → Option jO) (s : St) : Prop := ∃ (r : Int32) (s' : St), WJ s' ∧ Mst m s (.int r) s' ∧ Cst c s (.int r) s'
/-- the reference's working cells -/
def dW : Nat → Nat → Prop := fun a i => 85 ≤ a ∧ a ≤ 110 ∧ a ≠ 86 ∧ a ≠ 88 ∧ a ≠ 89 ∧ a ≠ 91 ∧ a ≠ 92 ∧ a ≠ 98 ∧ a ≠ 110 ∧ (a = 85 → i ≠ 0 ∧ i ≠ 6 ∧ i ≠ 13 ∧ i ≠ 14 ∧ i ≠ 31 ∧ i ≠ 42 ∧ i ≠ 50)
theorem MI.w {h h' : jH} {k k' : Nat → Nat} {im : Nat → Option (Nat → Nat)} {u : List Ue} {tp : Nat → Nat} {tl : Nat} {sc : Sc} {kd : Nat → Nat} (M : MI h k im u tp tl sc kd) (x : jX dW jN h h') (B : SB h') (K : KM h' k') : MI h' k' im u tp tl sc kd := by
  obtain ⟨m1, m2, m3, m4, m5, m6, m7, m8, m9⟩ := M
  have n : ∀ a i, (a = 88 ∨ a = 89 ∨ a = 91 ∨ a = 92 ∨ a = 98 ∨ a = 86 ∨ a = 110 ∨ (a = 85 ∧ (i = 0 ∨ i = 6 ∨ i = 13 ∨ i = 14 ∨ i = 31 ∨ i = 42 ∨ i = 50))) → j_I h' a i = j_I h a i := fun a i q => x.I (fun z => by unfold dW at z; omega)
  refine ⟨m1.fr x (fun _ _ z => z), ?_, B, K, ?_, ?_, ?_, ?_, ?_⟩
  · unfold WM at m2 ⊢
    simp (disch := omega) only [n]
    exact m2
  · unfold MIm at m5 ⊢
    simp (disch := omega) only [n]
    exact m5
  · unfold MU at m6 ⊢
    simp (disch := omega) only [n]
    exact m6
  · unfold MT TQ at m7 ⊢
    simp (disch := omega) only [n]
    exact m7
  · unfold MS at m8 ⊢
    simp (disch := omega) only [n]
    exact m8
  · unfold MD at m9 ⊢
    simp (disch := omega) only [n]
    exact m9
theorem MI.k1 {h h' : jH} {k k' : Nat → Nat} {im : Nat → Option (Nat → Nat)} {u : List Ue} {tp : Nat → Nat} {tl : Nat} {sc : Sc} {kd : Nat → Nat} (M : MI h k im u tp tl sc kd) (x : jX d87 jN h h') (K : KM h' k') : MI h' k' im u tp tl sc kd := M.w (x.up (fun a i d => by unfold d87 at d; unfold dW; omega) (fun _ _ z => z)) (M.2.2.1.fr x (fun z => nomatch (show (85 : Nat) = 87 from z))) K
theorem d87_MM {h h' : jH} (x : jX d87 jN h h') : jX dMM jN h h' := x.up (fun a i d => by unfold d87 at d; unfold dMM; omega) (fun _ _ z => z)
theorem dW_MM {h h' : jH} (x : jX dW jN h h') : jX dMM jN h h' := x.up (fun a i d => by unfold dW at d; unfold dMM; omega) (fun _ _ z => z)
theorem dT_W {h h' : jH} (x : jX dT jN h h') : jX dW jN h h' := x.up (fun a i d => by unfold dT at d; unfold dW; omega) (fun _ _ z => z)
theorem dTk_W {h h' : jH} (x : jX dTk jN h h') : jX dW jN h h' := x.up (fun a i d => by unfold dTk dT at d; unfold dW; omega) (fun _ _ z => z)
/-- status, one more refusal -/
def rfC (sc : Sc) (q : Nat) : Sc := (mI q, fun i => if i = q + 1 then sc.2.1 i + nI 1 else sc.2.1 i, sc.2.2)
def gdC (sc : Sc) : Sc := (nI 0, sc.2)
theorem MI.sc {h h' : jH} {k : Nat → Nat} {im : Nat → Option (Nat → Nat)} {u : List Ue} {tp : Nat → Nat} {tl : Nat} {sc sc' : Sc} {kd : Nat → Nat} (M : MI h k im u tp tl sc kd) (x : jX (fun a i => (a = 85 ∧ (i = 0 ∨ i = 6 ∨ i = 14 ∨ i = 42)) ∨ a = 86) jN h h') (s : MS h' sc') : MI h' k im u tp tl sc' kd := by
  obtain ⟨m1, m2, m3, m4, m5, m6, m7, m8, m9⟩ := M
  have n : ∀ a i, (85 < a ∧ a ≠ 86) ∨ (a = 85 ∧ (i = 24 ∨ i = 13 ∨ i = 31 ∨ i = 50)) → j_I h' a i = j_I h a i := fun a i q => x.I (fun z => by omega)
  refine ⟨m1.fr x (fun _ _ z => z), ?_, ?_, ?_, ?_, ?_, ?_, s, ?_⟩
  · unfold WM at m2 ⊢
    simp (disch := omega) only [n]
    exact m2
  · unfold SB at m3 ⊢
    simp (disch := omega) only [n]
    exact m3
  · unfold KM at m4 ⊢
    simp (disch := omega) only [n]
    exact m4
  · unfold MIm at m5 ⊢
    simp (disch := omega) only [n]
    exact m5
  · unfold MU at m6 ⊢
    simp (disch := omega) only [n]
    exact m6
  · unfold MT TQ at m7 ⊢
    simp (disch := omega) only [n]
    exact m7
  · unfold MD at m9 ⊢
    simp (disch := omega) only [n]
    exact m9
theorem M_ref {F : Nat × Nat} {k : Nat → Nat} {im : Nat → Option (Nat → Nat)} {u : List Ue} {tp : Nat → Nat} {tl : Nat} {sc : Sc} {kd : Nat → Nat} {q : Nat} (hq : q < 6) : Mst (m_M_refuses F 85 (mI q)) (k, im, u, tp, tl, sc, kd) (.int (mI q)) (k, im, u, tp, tl, rfC sc q, kd) := by
  intro h M
  have M' : MI h k im u tp tl sc kd := M
  have x : jX (fun a i => (a = 85 ∧ (i = 0 ∨ i = 6 ∨ i = 14 ∨ i = 42)) ∨ a = 86) jN h (j_sI (j_sI h 85 0 (mI q)) 86 (q + 1) (j_I h 86 (q + 1) + nI 1)) := (jX.rf.sI (by omega)).sI (by omega)
  refine ⟨_, M_refuses M'.1 hq, M'.sc x ?_, x.up (fun a i d => by unfold dMM; omega) (fun _ _ z => z)⟩
  obtain ⟨s1, s2, s3, s4, s5⟩ := M'.2.2.2.2.2.2.2.1
  refine ⟨by rw [I_sIn (by omega), I_sIe]; rfl, fun i hi => ?_, by rw [I_sIn (by omega), I_sIk (by omega)]; exact s3, by rw [I_sIn (by omega), I_sIk (by omega)]; exact s4, by rw [I_sIn (by omega), I_sIk (by omega)]; exact s5⟩
  show _ = if i = q + 1 then _ else _
  by_cases e : i = q + 1
  · rw [if_pos e, e, I_sIe, s2 _ (by omega)]
  · rw [if_neg e, I_sIk e, I_sIn (by omega), s2 i hi]
theorem M_gd {F : Nat × Nat} {k : Nat → Nat} {im : Nat → Option (Nat → Nat)} {u : List Ue} {tp : Nat → Nat} {tl : Nat} {sc : Sc} {kd : Nat → Nat} (r : Int32) : Mst (m_M_good F 85 r) (k, im, u, tp, tl, sc, kd) (.int r) (k, im, u, tp, tl, gdC sc, kd) := by
  intro h M
  have M' : MI h k im u tp tl sc kd := M
  have x : jX (fun a i => (a = 85 ∧ (i = 0 ∨ i = 6 ∨ i = 14 ∨ i = 42)) ∨ a = 86) jN h (j_sI h 85 0 (nI 0)) := jX.rf.sI (by omega)
  refine ⟨_, M_good M'.1 r, M'.sc x ?_, x.up (fun a i d => by unfold dMM; omega) (fun _ _ z => z)⟩
  obtain ⟨s1, s2, s3, s4, s5⟩ := M'.2.2.2.2.2.2.2.1
  exact ⟨I_sIe, fun i hi => by rw [I_sIn (by omega)]; exact s2 i hi, by rw [I_sIk (by omega)]; exact s3, by rw [I_sIk (by omega)]; exact s4, by rw [I_sIk (by omega)]; exact s5⟩
theorem MI.u0 {h : jH} {k : Nat → Nat} {im : Nat → Option (Nat → Nat)} {u : List Ue} {tp : Nat → Nat} {tl : Nat} {sc : Sc} {kd : Nat → Nat} (M : MI h k im u tp tl sc kd) : MI (j_sI h 85 31 (nI 0)) k im [] tp tl sc kd := by
  obtain ⟨m1, m2, m3, m4, m5, m6, m7, m8, m9⟩ := M
  have n : ∀ a i, a ≠ 85 ∨ i ≠ 31 → j_I (j_sI h 85 31 (nI 0)) a i = j_I h a i := fun a i q => by
    rcases Decidable.em (a = 85) with e | e
    · subst e; exact I_sIk (by omega)
    · exact I_sIn e
  refine ⟨m1, ?_, ?_, ?_, ?_, ⟨I_sIe, by decide, fun j e q => by simp at q⟩, ?_, ?_, ?_⟩
  · unfold WM at m2 ⊢
    simp (disch := omega) only [n]
    exact m2
  · unfold SB at m3 ⊢
    simp (disch := omega) only [n]
    exact m3
  · unfold KM at m4 ⊢
    simp (disch := omega) only [n]
    exact m4
  · unfold MIm at m5 ⊢
    simp (disch := omega) only [n]
    exact m5
  · unfold MT TQ at m7 ⊢
    simp (disch := omega) only [n]
    exact m7
  · unfold MS at m8 ⊢
    simp (disch := omega) only [n]
    exact m8
  · unfold MD at m9 ⊢
    simp (disch := omega) only [n]
    exact m9
theorem M_stl {F : Nat × Nat} {k : Nat → Nat} {im : Nat → Option (Nat → Nat)} {u : List Ue} {tp : Nat → Nat} {tl : Nat} {sc : Sc} {kd : Nat → Nat} (r : Int32) : Mst (m_M_settled F 85 r) (k, im, u, tp, tl, sc, kd) (.int r) (k, im, [], tp, tl, gdC sc, kd) := by
  intro h M
  have M' : MI h k im u tp tl sc kd := M
  obtain ⟨h', e, M2, x⟩ := M_gd (F := F) r (j_sI h 85 31 (nI 0)) (show MJ _ (k, im, [], tp, tl, sc, kd) from M'.u0)
  have e2 := M_good (F := F) (h := j_sI h 85 31 (nI 0)) M'.1 r
  rw [e2] at e
  have x1 : jX dMM jN h (j_sI h 85 31 (nI 0)) := jX.rf.sI (by unfold dMM; omega)
  exact ⟨h', (M_settled M'.1 r).trans e, M2, x1.t x⟩
/-- the class's working cells -/
def dV : Nat → Nat → Prop := fun a i => (29 ≤ a ∧ a ≤ 40) ∨ (51 ≤ a ∧ a ≤ 59) ∨ (a = 60 ∧ i ≠ 1 ∧ i ≠ 2) ∨ (62 ≤ a ∧ a ≤ 83)
/-- the state of now -/
theorem LL.k {D : Nat → Nat → Prop} {h h' : jH} {o : Nat} {k k' : Nat → Nat} (L : LL h o k) (x : jX D jN h h') (d : ∀ a i, 110 < a → ¬ D a i) (I : LI h' o k') (e1 : k' 179 = k 179) (e2 : ∀ i, 181 ≤ i → k' i = k i) : LL h' o k' := by
  obtain ⟨A, -, W1, W2⟩ := L
  refine ⟨A.fr x (fun i z => z), I, fun j hj => ?_, fun j t ht => ?_⟩
  · rw [e1] at hj
    obtain ⟨t, h1, X⟩ := W1 j hj
    have f := (W2 j t h1).1.1
    refine ⟨t, by rw [x.R (fun z => z)]; exact h1, ?_⟩
    rw [(kOK_e e2 j).2.1]
    exact X.fr x (fun j i _ => d _ i (by omega)) (fun i z => z)
  · rw [x.R (fun z => z)] at ht
    exact ⟨(W2 j t ht).1.fr x (fun i z => z), by rw [x.k]; exact (W2 j t ht).2⟩
theorem CI.n {h h' : jH} {k k' : Nat → Nat} {im : Nat → Option (Nat → Nat)} {u : List Ue} {tp : Nat → Nat} {tl : Nat} {sc : Sc} {kd : Nat → Nat} (C : CI h k im u tp tl sc kd) (x : jX (fun a i => dV a i ∨ (5 ≤ a ∧ a ≤ 15)) jN h h') (L : LL h' 5 k') : CI h' k' im u tp tl sc kd := by
  obtain ⟨c1, c2, c3, c4, c5, c6, c7, c8, c9⟩ := C
  have n : ∀ a i, (110 < a ∨ (16 ≤ a ∧ a ≤ 28) ∨ (41 ≤ a ∧ a ≤ 50) ∨ (a = 60 ∧ (i = 1 ∨ i = 2)) ∨ a = 61 ∨ a = 84 ∨ a ≤ 4) → ¬ (dV a i ∨ (5 ≤ a ∧ a ≤ 15)) := fun a i q z => by unfold dV at z; omega
  refine ⟨c1.fr x (fun _ _ z => z), by rw [x.2.1]; exact c2, L, c4.fr x (fun a i q => n a i (by omega)) (fun _ _ _ z => z), c5.fr x (fun a i q1 q2 => n a i (by omega)), c6.fr x (n _ _ (by omega)) (fun i => n _ _ (by omega)), ?_, c8.fr x (fun a i q1 q2 => n a i (by omega)), c9.fr x (fun a i q => n a i (by omega))⟩
  have e4 : ∀ i, j_I h' 4 i = j_I h 4 i := fun i => x.I (n 4 i (by omega))
  have e84 : ∀ i, j_I h' 84 i = j_I h 84 i := fun i => x.I (n 84 i (by omega))
  unfold CS at c7 ⊢
  simp only [e4, e84, x.I (n 60 2 (by omega))]
  exact c7
theorem CI.w {h h' : jH} {k : Nat → Nat} {im : Nat → Option (Nat → Nat)} {u : List Ue} {tp : Nat → Nat} {tl : Nat} {sc : Sc} {kd : Nat → Nat} (C : CI h k im u tp tl sc kd) (x : jX dV jN h h') : CI h' k im u tp tl sc kd :=
  C.n (x.up (fun a i d => Or.inl d) (fun _ _ z => z)) (C.2.2.1.fr x (fun a i q z => by unfold dV at z; omega) (fun _ _ _ z => z))
theorem dV_Y {h h' : jH} (x : jX dV jN h h') : jY h h' := jY.of x (fun a i d => by unfold dV at d; omega) (fun _ _ z => nomatch (show False from z))
theorem jY.rf {h : jH} : jY h h := jY.of (D := jN) (E := jN) jX.rf (fun _ _ z => nomatch (show False from z)) (fun _ _ z => nomatch (show False from z))
theorem CI.sc {h h' : jH} {k : Nat → Nat} {im : Nat → Option (Nat → Nat)} {u : List Ue} {tp : Nat → Nat} {tl : Nat} {sc sc' : Sc} {kd : Nat → Nat} (C : CI h k im u tp tl sc kd) (x : jX (fun a i => a = 4 ∨ a = 84 ∨ (a = 60 ∧ i = 2)) jN h h') (s : CS h' sc') : CI h' k im u tp tl sc' kd := by
  obtain ⟨c1, c2, c3, c4, c5, c6, c7, c8, c9⟩ := C
  exact ⟨c1.fr x (fun _ _ z => z), by rw [x.2.1]; exact c2, c3.fr x (fun a i q z => by omega) (fun _ _ _ z => z), c4.fr x (fun a i q z => by omega) (fun _ _ _ z => z), c5.fr x (fun a i q1 q2 z => by omega), c6.fr x (fun z => by omega) (fun i z => by omega), s, c8.fr x (fun a i q1 q2 z => by omega), c9.fr x (fun a i q z => by omega)⟩
theorem C_refuse {F : Nat × Nat} {h : jH} (S : ShF h) {q : Nat} (hq : q < 6) : m_F_refuse F 4 (mI q) h = some (some (.int (mI q)), j_sI (j_sI h 4 13 (mI q)) 84 (q + 1) (j_I h 84 (q + 1) + nI 1)) := by
  rw [q_F_refuse]
  simp (disch := first | exact sR_rfl _ _ rfl | omega) only [ft_lit, ft_m1, ft_m2, ft_m3, ft_m5, ft_m6, ft_cl, ft_lt, ft_le, ft_eq, ft_mlt, ft_ltm, ft_mltm, ft_meq, ft_eqm, ft_meqm, ft_add, ft_mul, ft_sub, ft_nm, ft_m1p, ft_and, ft_or, ft_31, ft_shl, ft_shr, ft_bz, ft_z0, ft_z1, ft_z01, ft_bb, ft_zt, ft_zf, ft_or0, ft_rv, ft_rvr, ft_rf, ft_rfn, ft_bI, ft_bJ, ft_bV, ft_bR, ft_bRn, ft_isr, ft_isn, ft_ifn, ft_ifr, ft_ov, ft_ovn, ft_in, k_sI, n_sI, R_sI, J_sI, c_sI, z_sI, k_sJ, n_sJ, R_sJ, I_sJ, c_sJ, z_sJ, k_sR, n_sR, I_sR, J_sR, c_sR, z_sR, k_wI, n_wI, R_wI, J_wI, I_wIe, k_wJ, n_wJ, R_wJ, I_wJ, J_wJe, I_wIn, J_wJn, I_sIe, J_sJe, R_sRe, I_sIn, I_sIk, J_sJn, J_sJk, R_sRn, R_sRk, eq_self, if_true, if_false, ↓reduceIte, cond_true, cond_false, ↓cond_eq_ite, and_true, true_and, and_false, false_and, or_true, true_or, or_false, false_or, not_true_eq_false, not_false_eq_true, ft_ltT, ft_ltF, ft_eqT, ft_eqF, Bool.false_eq_true, Bool.true_eq_false, Bool.not_true, Bool.not_false, Bool.and_true, Bool.true_and, Bool.and_false, Bool.false_and, decide_true, decide_false, Nat.reduceAdd, Nat.reduceMul, Nat.reduceSub, Nat.reduceEqDiff, Nat.reduceLT, Nat.zero_add, Nat.add_zero, Nat.reduceDiv, Nat.reduceMod, sf_k4 S, sf_R4_0 S, ↓sf_v4_0 S, sf_R4_1 S, ↓sf_v4_1 S, sf_R4_2 S, ↓sf_v4_2 S, sf_R4_3 S, ↓sf_v4_3 S, sf_R4_4 S, ↓sf_v4_4 S, sf_R4_5 S, ↓sf_v4_5 S, sf_R4_6 S, ↓sf_v4_6 S, sf_R4_7 S, ↓sf_v4_7 S, sf_R4_8 S, ↓sf_v4_8 S, sf_R4_9 S, ↓sf_v4_9 S, sf_R4_10 S, ↓sf_v4_10 S, sf_R4_11 S, ↓sf_v4_11 S, sf_R4_12 S, ↓sf_v4_12 S, sf_k5 S, sf_R5_0 S, ↓sf_v5_0 S, sf_R5_1 S, ↓sf_v5_1 S, sf_R5_3 S, ↓sf_v5_3 S, sf_R5_4 S, ↓sf_v5_4 S, sf_R5_5 S, ↓sf_v5_5 S, sf_R5_6 S, ↓sf_v5_6 S, sf_R5_7 S, ↓sf_v5_7 S, sf_R5_9 S, ↓sf_v5_9 S, sf_R5_10 S, ↓sf_v5_10 S, sf_R5_11 S, ↓sf_v5_11 S, sf_R5_12 S, ↓sf_v5_12 S, sf_k17 S, sf_R17_0 S, ↓sf_v17_0 S, sf_R17_1 S, ↓sf_v17_1 S, sf_R17_3 S, ↓sf_v17_3 S, sf_R17_4 S, ↓sf_v17_4 S, sf_R17_5 S, ↓sf_v17_5 S, sf_R17_6 S, ↓sf_v17_6 S, sf_R17_7 S, ↓sf_v17_7 S, sf_R17_9 S, ↓sf_v17_9 S, sf_R17_10 S, ↓sf_v17_10 S, sf_R17_11 S, ↓sf_v17_11 S, sf_R17_12 S, ↓sf_v17_12 S, sf_k29 S, sf_R29_0 S, ↓sf_v29_0 S, sf_R29_1 S, ↓sf_v29_1 S, sf_R29_3 S, ↓sf_v29_3 S, sf_R29_4 S, ↓sf_v29_4 S, sf_R29_5 S, ↓sf_v29_5 S, sf_R29_6 S, ↓sf_v29_6 S, sf_R29_7 S, ↓sf_v29_7 S, sf_R29_9 S, ↓sf_v29_9 S, sf_R29_10 S, ↓sf_v29_10 S, sf_R29_11 S, ↓sf_v29_11 S, sf_R29_12 S, ↓sf_v29_12 S, sf_k41 S, sf_n41 S, sf_k42 S, sf_R42_0 S, ↓sf_v42_0 S, sf_R42_1 S, ↓sf_v42_1 S, sf_R42_2 S, ↓sf_v42_2 S, sf_R42_3 S, ↓sf_v42_3 S, sf_R42_4 S, ↓sf_v42_4 S, sf_R42_5 S, ↓sf_v42_5 S, sf_R42_6 S, ↓sf_v42_6 S, sf_R42_7 S, ↓sf_v42_7 S, sf_k51 S, sf_R51_0 S, ↓sf_v51_0 S, sf_R51_1 S, ↓sf_v51_1 S, sf_R51_2 S, ↓sf_v51_2 S, sf_R51_3 S, ↓sf_v51_3 S, sf_R51_4 S, ↓sf_v51_4 S, sf_R51_5 S, ↓sf_v51_5 S, sf_R51_6 S, ↓sf_v51_6 S, sf_R51_7 S, ↓sf_v51_7 S, sf_k60 S, sf_R60_0 S, ↓sf_v60_0 S, sf_R60_3 S, ↓sf_v60_3 S, sf_R60_4 S, ↓sf_v60_4 S, sf_R60_5 S, ↓sf_v60_5 S, sf_R60_6 S, ↓sf_v60_6 S, sf_k72 S, sf_R72_0 S, ↓sf_v72_0 S, sf_R72_1 S, ↓sf_v72_1 S, sf_k75 S, sf_R75_0 S, ↓sf_v75_0 S, sf_R75_1 S, ↓sf_v75_1 S, sf_R75_2 S, ↓sf_v75_2 S, sf_R75_3 S, ↓sf_v75_3 S, sf_R75_4 S, ↓sf_v75_4 S, sf_k81 S, sf_n81 S, sf_k82 S, sf_n82 S, sf_k83 S, sf_n83 S, sf_k84 S, sf_n84 S, sf_k6 S, sf_n6 S, sf_k7 S, sf_n7 S, sf_k8 S, sf_n8 S, sf_k9 S, sf_n9 S, sf_k10 S, sf_n10 S, sf_k11 S, sf_n11 S, sf_k12 S, sf_n12 S, sf_k13 S, sf_n13 S, sf_k14 S, sf_n14 S, sf_k15 S, sf_n15 S, sf_k16 S, sf_n16 S, sf_k18 S, sf_n18 S, sf_k19 S, sf_n19 S, sf_k20 S, sf_n20 S, sf_k21 S, sf_n21 S, sf_k22 S, sf_n22 S, sf_k23 S, sf_n23 S, sf_k24 S, sf_n24 S, sf_k25 S, sf_n25 S, sf_k26 S, sf_n26 S, sf_k27 S, sf_n27 S, sf_k28 S, sf_n28 S, sf_k30 S, sf_n30 S, sf_k31 S, sf_n31 S, sf_k32 S, sf_n32 S, sf_k33 S, sf_n33 S, sf_k34 S, sf_n34 S, sf_k35 S, sf_n35 S, sf_k36 S, sf_n36 S, sf_k37 S, sf_n37 S, sf_k38 S, sf_n38 S, sf_k39 S, sf_n39 S, sf_k40 S, sf_n40 S, sf_k43 S, sf_n43 S, sf_k44 S, sf_n44 S, sf_k45 S, sf_n45 S, sf_k46 S, sf_n46 S, sf_k47 S, sf_n47 S, sf_k48 S, sf_n48 S, sf_k49 S, sf_n49 S, sf_k50 S, sf_n50 S, sf_k52 S, sf_n52 S, sf_k53 S, sf_n53 S, sf_k54 S, sf_n54 S, sf_k55 S, sf_n55 S, sf_k56 S, sf_n56 S, sf_k57 S, sf_n57 S, sf_k58 S, sf_n58 S, sf_k59 S, sf_n59 S, sf_k61 S, sf_n61 S, sf_k62 S, sf_R62_0 S, ↓sf_v62_0 S, sf_R62_1 S, ↓sf_v62_1 S, sf_R62_2 S, ↓sf_v62_2 S, sf_R62_3 S, ↓sf_v62_3 S, sf_R62_4 S, ↓sf_v62_4 S, sf_R62_5 S, ↓sf_v62_5 S, sf_k69 S, sf_n69 S, sf_k70 S, sf_n70 S, sf_k71 S, sf_n71 S, sf_k73 S, sf_n73 S, sf_k74 S, sf_n74 S, sf_k76 S, sf_n76 S, sf_k77 S, sf_n77 S, sf_k78 S, sf_n78 S, sf_k79 S, sf_n79 S, sf_k80 S, sf_n80 S, sf_k63 S, sf_n63 S, sf_k64 S, sf_n64 S, sf_k65 S, sf_n65 S, sf_k66 S, sf_n66 S, sf_k67 S, sf_n67 S, sf_k68 S, sf_n68 S]
theorem C_refuse_b {F : Nat × Nat} {h : jH} (S : ShF h) {q : Nat} (hq : q < 6) (ff : Int32 → jH → Option jO) : jbI (m_F_refuse F 4 (mI q) h) ff = ff ((mI q)) (j_sI (j_sI h 4 13 (mI q)) 84 (q + 1) (j_I h 84 (q + 1) + nI 1)) := bI_of (C_refuse (F := F) (h := h) (S := S) (q := q) (hq := hq)) ff
theorem C_accept {F : Nat × Nat} {h : jH} (S : ShF h) (r : Int32) : m_F_accept F 4 r h = some (some (.int r), j_sI h 4 13 (nI 0)) := by
  rw [q_F_accept]
  simp (disch := first | exact sR_rfl _ _ rfl | omega) only [ft_lit, ft_m1, ft_m2, ft_m3, ft_m5, ft_m6, ft_cl, ft_lt, ft_le, ft_eq, ft_mlt, ft_ltm, ft_mltm, ft_meq, ft_eqm, ft_meqm, ft_add, ft_mul, ft_sub, ft_nm, ft_m1p, ft_and, ft_or, ft_31, ft_shl, ft_shr, ft_bz, ft_z0, ft_z1, ft_z01, ft_bb, ft_zt, ft_zf, ft_or0, ft_rv, ft_rvr, ft_rf, ft_rfn, ft_bI, ft_bJ, ft_bV, ft_bR, ft_bRn, ft_isr, ft_isn, ft_ifn, ft_ifr, ft_ov, ft_ovn, ft_in, k_sI, n_sI, R_sI, J_sI, c_sI, z_sI, k_sJ, n_sJ, R_sJ, I_sJ, c_sJ, z_sJ, k_sR, n_sR, I_sR, J_sR, c_sR, z_sR, k_wI, n_wI, R_wI, J_wI, I_wIe, k_wJ, n_wJ, R_wJ, I_wJ, J_wJe, I_wIn, J_wJn, I_sIe, J_sJe, R_sRe, I_sIn, I_sIk, J_sJn, J_sJk, R_sRn, R_sRk, eq_self, if_true, if_false, ↓reduceIte, cond_true, cond_false, ↓cond_eq_ite, and_true, true_and, and_false, false_and, or_true, true_or, or_false, false_or, not_true_eq_false, not_false_eq_true, ft_ltT, ft_ltF, ft_eqT, ft_eqF, Bool.false_eq_true, Bool.true_eq_false, Bool.not_true, Bool.not_false, Bool.and_true, Bool.true_and, Bool.and_false, Bool.false_and, decide_true, decide_false, Nat.reduceAdd, Nat.reduceMul, Nat.reduceSub, Nat.reduceEqDiff, Nat.reduceLT, Nat.zero_add, Nat.add_zero, Nat.reduceDiv, Nat.reduceMod, sf_k4 S, sf_R4_0 S, ↓sf_v4_0 S, sf_R4_1 S, ↓sf_v4_1 S, sf_R4_2 S, ↓sf_v4_2 S, sf_R4_3 S, ↓sf_v4_3 S, sf_R4_4 S, ↓sf_v4_4 S, sf_R4_5 S, ↓sf_v4_5 S, sf_R4_6 S, ↓sf_v4_6 S, sf_R4_7 S, ↓sf_v4_7 S, sf_R4_8 S, ↓sf_v4_8 S, sf_R4_9 S, ↓sf_v4_9 S, sf_R4_10 S, ↓sf_v4_10 S, sf_R4_11 S, ↓sf_v4_11 S, sf_R4_12 S, ↓sf_v4_12 S, sf_k5 S, sf_R5_0 S, ↓sf_v5_0 S, sf_R5_1 S, ↓sf_v5_1 S, sf_R5_3 S, ↓sf_v5_3 S, sf_R5_4 S, ↓sf_v5_4 S, sf_R5_5 S, ↓sf_v5_5 S, sf_R5_6 S, ↓sf_v5_6 S, sf_R5_7 S, ↓sf_v5_7 S, sf_R5_9 S, ↓sf_v5_9 S, sf_R5_10 S, ↓sf_v5_10 S, sf_R5_11 S, ↓sf_v5_11 S, sf_R5_12 S, ↓sf_v5_12 S, sf_k17 S, sf_R17_0 S, ↓sf_v17_0 S, sf_R17_1 S, ↓sf_v17_1 S, sf_R17_3 S, ↓sf_v17_3 S, sf_R17_4 S, ↓sf_v17_4 S, sf_R17_5 S, ↓sf_v17_5 S, sf_R17_6 S, ↓sf_v17_6 S, sf_R17_7 S, ↓sf_v17_7 S, sf_R17_9 S, ↓sf_v17_9 S, sf_R17_10 S, ↓sf_v17_10 S, sf_R17_11 S, ↓sf_v17_11 S, sf_R17_12 S, ↓sf_v17_12 S, sf_k29 S, sf_R29_0 S, ↓sf_v29_0 S, sf_R29_1 S, ↓sf_v29_1 S, sf_R29_3 S, ↓sf_v29_3 S, sf_R29_4 S, ↓sf_v29_4 S, sf_R29_5 S, ↓sf_v29_5 S, sf_R29_6 S, ↓sf_v29_6 S, sf_R29_7 S, ↓sf_v29_7 S, sf_R29_9 S, ↓sf_v29_9 S, sf_R29_10 S, ↓sf_v29_10 S, sf_R29_11 S, ↓sf_v29_11 S, sf_R29_12 S, ↓sf_v29_12 S, sf_k41 S, sf_n41 S, sf_k42 S, sf_R42_0 S, ↓sf_v42_0 S, sf_R42_1 S, ↓sf_v42_1 S, sf_R42_2 S, ↓sf_v42_2 S, sf_R42_3 S, ↓sf_v42_3 S, sf_R42_4 S, ↓sf_v42_4 S, sf_R42_5 S, ↓sf_v42_5 S, sf_R42_6 S, ↓sf_v42_6 S, sf_R42_7 S, ↓sf_v42_7 S, sf_k51 S, sf_R51_0 S, ↓sf_v51_0 S, sf_R51_1 S, ↓sf_v51_1 S, sf_R51_2 S, ↓sf_v51_2 S, sf_R51_3 S, ↓sf_v51_3 S, sf_R51_4 S, ↓sf_v51_4 S, sf_R51_5 S, ↓sf_v51_5 S, sf_R51_6 S, ↓sf_v51_6 S, sf_R51_7 S, ↓sf_v51_7 S, sf_k60 S, sf_R60_0 S, ↓sf_v60_0 S, sf_R60_3 S, ↓sf_v60_3 S, sf_R60_4 S, ↓sf_v60_4 S, sf_R60_5 S, ↓sf_v60_5 S, sf_R60_6 S, ↓sf_v60_6 S, sf_k72 S, sf_R72_0 S, ↓sf_v72_0 S, sf_R72_1 S, ↓sf_v72_1 S, sf_k75 S, sf_R75_0 S, ↓sf_v75_0 S, sf_R75_1 S, ↓sf_v75_1 S, sf_R75_2 S, ↓sf_v75_2 S, sf_R75_3 S, ↓sf_v75_3 S, sf_R75_4 S, ↓sf_v75_4 S, sf_k81 S, sf_n81 S, sf_k82 S, sf_n82 S, sf_k83 S, sf_n83 S, sf_k84 S, sf_n84 S, sf_k6 S, sf_n6 S, sf_k7 S, sf_n7 S, sf_k8 S, sf_n8 S, sf_k9 S, sf_n9 S, sf_k10 S, sf_n10 S, sf_k11 S, sf_n11 S, sf_k12 S, sf_n12 S, sf_k13 S, sf_n13 S, sf_k14 S, sf_n14 S, sf_k15 S, sf_n15 S, sf_k16 S, sf_n16 S, sf_k18 S, sf_n18 S, sf_k19 S, sf_n19 S, sf_k20 S, sf_n20 S, sf_k21 S, sf_n21 S, sf_k22 S, sf_n22 S, sf_k23 S, sf_n23 S, sf_k24 S, sf_n24 S, sf_k25 S, sf_n25 S, sf_k26 S, sf_n26 S, sf_k27 S, sf_n27 S, sf_k28 S, sf_n28 S, sf_k30 S, sf_n30 S, sf_k31 S, sf_n31 S, sf_k32 S, sf_n32 S, sf_k33 S, sf_n33 S, sf_k34 S, sf_n34 S, sf_k35 S, sf_n35 S, sf_k36 S, sf_n36 S, sf_k37 S, sf_n37 S, sf_k38 S, sf_n38 S, sf_k39 S, sf_n39 S, sf_k40 S, sf_n40 S, sf_k43 S, sf_n43 S, sf_k44 S, sf_n44 S, sf_k45 S, sf_n45 S, sf_k46 S, sf_n46 S, sf_k47 S, sf_n47 S, sf_k48 S, sf_n48 S, sf_k49 S, sf_n49 S, sf_k50 S, sf_n50 S, sf_k52 S, sf_n52 S, sf_k53 S, sf_n53 S, sf_k54 S, sf_n54 S, sf_k55 S, sf_n55 S, sf_k56 S, sf_n56 S, sf_k57 S, sf_n57 S, sf_k58 S, sf_n58 S, sf_k59 S, sf_n59 S, sf_k61 S, sf_n61 S, sf_k62 S, sf_R62_0 S, ↓sf_v62_0 S, sf_R62_1 S, ↓sf_v62_1 S, sf_R62_2 S, ↓sf_v62_2 S, sf_R62_3 S, ↓sf_v62_3 S, sf_R62_4 S, ↓sf_v62_4 S, sf_R62_5 S, ↓sf_v62_5 S, sf_k69 S, sf_n69 S, sf_k70 S, sf_n70 S, sf_k71 S, sf_n71 S, sf_k73 S, sf_n73 S, sf_k74 S, sf_n74 S, sf_k76 S, sf_n76 S, sf_k77 S, sf_n77 S, sf_k78 S, sf_n78 S, sf_k79 S, sf_n79 S, sf_k80 S, sf_n80 S, sf_k63 S, sf_n63 S, sf_k64 S, sf_n64 S, sf_k65 S, sf_n65 S, sf_k66 S, sf_n66 S, sf_k67 S, sf_n67 S, sf_k68 S, sf_n68 S]
theorem C_accept_b {F : Nat × Nat} {h : jH} (S : ShF h) (r : Int32) (ff : Int32 → jH → Option jO) : jbI (m_F_accept F 4 r h) ff = ff (r) (j_sI h 4 13 (nI 0)) := bI_of (C_accept (F := F) (h := h) (S := S) (r := r)) ff
theorem C_ref {F : Nat × Nat} {k : Nat → Nat} {im : Nat → Option (Nat → Nat)} {u : List Ue} {tp : Nat → Nat} {tl : Nat} {sc : Sc} {kd : Nat → Nat} {q : Nat} (hq : q < 6) : Cst (m_F_refuse F 4 (mI q)) (k, im, u, tp, tl, sc, kd) (.int (mI q)) (k, im, u, tp, tl, rfC sc q, kd) := by
  intro h M
  have M' : CI h k im u tp tl sc kd := M
  have x : jX (fun a i => a = 4 ∨ a = 84 ∨ (a = 60 ∧ i = 2)) jN h (j_sI (j_sI h 4 13 (mI q)) 84 (q + 1) (j_I h 84 (q + 1) + nI 1)) := (jX.rf.sI (by omega)).sI (by omega)
  refine ⟨_, C_refuse M'.1 hq, M'.sc x ?_, jY.of x (fun a i d => by omega) (fun _ _ z => nomatch (show False from z))⟩
  obtain ⟨s1, s2, s3, s4, s5⟩ := M'.2.2.2.2.2.2.1
  refine ⟨by rw [I_sIn (by omega), I_sIe]; rfl, fun i hi => ?_, by rw [I_sIn (by omega), I_sIk (by omega)]; exact s3, by rw [I_sIn (by omega), I_sIn (by omega)]; exact s4, by rw [I_sIn (by omega), I_sIk (by omega)]; exact s5⟩
  show _ = if i = q + 1 then _ else _
  by_cases e : i = q + 1
  · rw [if_pos e, e, I_sIe, s2 _ (by omega)]
  · rw [if_neg e, I_sIk e, I_sIn (by omega), s2 i hi]
theorem C_gd {F : Nat × Nat} {k : Nat → Nat} {im : Nat → Option (Nat → Nat)} {u : List Ue} {tp : Nat → Nat} {tl : Nat} {sc : Sc} {kd : Nat → Nat} (r : Int32) : Cst (m_F_accept F 4 r) (k, im, u, tp, tl, sc, kd) (.int r) (k, im, u, tp, tl, gdC sc, kd) := by
  intro h M
  have M' : CI h k im u tp tl sc kd := M
  have x : jX (fun a i => a = 4 ∨ a = 84 ∨ (a = 60 ∧ i = 2)) jN h (j_sI h 4 13 (nI 0)) := jX.rf.sI (by omega)
  refine ⟨_, C_accept M'.1 r, M'.sc x ?_, jY.of x (fun a i d => by omega) (fun _ _ z => nomatch (show False from z))⟩
  obtain ⟨s1, s2, s3, s4, s5⟩ := M'.2.2.2.2.2.2.1
  exact ⟨I_sIe, fun i hi => by rw [I_sIn (by omega)]; exact s2 i hi, by rw [I_sIk (by omega)]; exact s3, by rw [I_sIn (by omega)]; exact s4, by rw [I_sIk (by omega)]; exact s5⟩
/-- the deeds are let go -/
theorem CI.u0 {h : jH} {k : Nat → Nat} {im : Nat → Option (Nat → Nat)} {u : List Ue} {tp : Nat → Nat} {tl : Nat} {sc : Sc} {kd : Nat → Nat} (C : CI h k im u tp tl sc kd) : CI (j_sI h 42 9 (nI 0)) k im [] tp tl sc kd := by
  obtain ⟨c1, c2, c3, c4, c5, c6, c7, c8, c9⟩ := C
  have x : jX (fun a i => a = 42 ∧ i = 9) jN h (j_sI h 42 9 (nI 0)) := jX.rf.sI (by omega)
  obtain ⟨u1, u2, s, u3, u4, u5⟩ := c5
  refine ⟨c1.fr x (fun _ _ z => z), c2, c3.fr x (fun a i q z => by omega) (fun _ _ _ z => z), c4.fr x (fun a i q z => by omega) (fun _ _ _ z => z), ⟨I_sIe, by decide, (s + u.length) % 16, Nat.mod_lt _ (by omega), ?_, fun j e q => by simp at q⟩, c6.fr x (fun z => by omega) (fun i z => by omega), ?_, c8.fr x (fun a i q1 q2 z => by omega), c9.fr x (fun a i q z => by omega)⟩
  · rw [I_sIk (by omega), u4]
    congr 1
    show _ = ((s + u.length) % 16 + 0) % 16
    omega
  · unfold CS at c7 ⊢
    simp (disch := omega) only [I_sIn]
    exact c7
