/-! DAYS: THE REFERENCE, DONE -/
def dZ : Nat → Nat → Prop := fun a i => dW a i ∨ a = 110 ∨ (a = 85 ∧ i = 50)
theorem MI.dy {h h' : jH} {k k' : Nat → Nat} {im : Nat → Option (Nat → Nat)} {u : List Ue} {tp : Nat → Nat} {tl : Nat} {sc : Sc} {kd kd' : Nat → Nat} (M : MI h k im u tp tl sc kd) (x : jX dZ jN h h') (B : SB h') (K : KM h' k') (D : MD h' kd') : MI h' k' im u tp tl sc kd' := by
  obtain ⟨m1, m2, m3, m4, m5, m6, m7, m8, m9⟩ := M
  have n : ∀ a i, (a = 88 ∨ a = 89 ∨ a = 91 ∨ a = 92 ∨ a = 98 ∨ a = 86 ∨ (a = 85 ∧ (i = 0 ∨ i = 6 ∨ i = 13 ∨ i = 14 ∨ i = 31 ∨ i = 42))) → j_I h' a i = j_I h a i := fun a i q => x.I (fun z => by unfold dZ dW at z; omega)
  refine ⟨m1.fr x (fun _ _ z => z), ?_, B, K, ?_, ?_, ?_, ?_, D⟩
  · unfold WM at m2 ⊢
    simp (disch := omega) only [n]
    exact m2
  · unfold MIm at m5 ⊢
    simp (disch := omega) only [n]
    exact m5
  · unfold MU at m6 ⊢
    simp (disch := omega) only [n]
    exact m6
  · unfold MT TQ at m7 ⊢
    simp (disch := omega) only [n]
    exact m7
  · unfold MS at m8 ⊢
    simp (disch := omega) only [n]
    exact m8
theorem M_daysOk {F : Nat × Nat} (hF : FF F) {k : Nat → Nat} {im : Nat → Option (Nat → Nat)} {u : List Ue} {tp : Nat → Nat} {tl : Nat} {sc : Sc} {kd : Nat → Nat} (W : WK k) {sd n : Nat} (hs : sd ≤ 1000000) (hn1 : 1 ≤ n) (hn : n ≤ 60) (hm : 0 < k 177) : Mst (m_M_days F 85 (nI sd) (nI n)) (k, im, u, tp, tl, sc, kd) (.int (nI (dyL n (k, sd, 0)).2.2)) (k, im, u, tp, tl, gdC sc, (dyL n (k, sd, 0)).1) := by
  have hF1 := hF.1
  have bm := W.many
  obtain ⟨lo, lW⟩ := dyL_o n (k, sd, 0) W hm
  refine Mst.pre (s1 := (k, im, u, tp, tl, sc, (dyL n (k, sd, 0)).1)) (fun h M => ?_) (M_gd (F := F) _)
  have M' : MI h k im u tp tl sc kd := M
  have S := M'.1
  have K := M'.2.2.2.1
  have x1 : jX dZ jN h (j_sI (j_sI h 85 51 (nI sd)) 85 50 (nI (k 177))) := (jX.rf.sI (D := dZ) (by unfold dZ dW; omega)).sI (by unfold dZ dW; omega)
  have S1 := S.fr x1 (fun _ _ z => z)
  have K1 : KM (j_sI (j_sI h 85 51 (nI sd)) 85 50 (nI (k 177))) k := (K.oth (by omega)).oth (by omega)
  obtain ⟨h2, e2, x2, V2⟩ := M_aside (F := F) (k := k) (q := 0) (by omega) 105 0 F.1 (j_sI (j_sI h 85 51 (nI sd)) 85 50 (nI (k 177))) rfl (by omega) S1 K1 (fun i hi => absurd hi (by omega))
  have S2 := S1.fr x2 (fun _ _ z => z)
  have K2 : KM h2 k := K1.fr x2 (fun a i d => by omega)
  have B2 : SB h2 := by
    obtain ⟨b, hb⟩ := M'.2.2.1
    exact ⟨b, by rw [x2.I (by omega), I_sIk (by omega), I_sIk (by omega)]; exact hb⟩
  have j51 : j_I h2 85 51 = nI sd := by rw [x2.I (by omega), I_sIk (by omega), I_sIe]
  have j50 : j_I h2 85 50 = nI (k 177) := by rw [x2.I (by omega), I_sIe]
  obtain ⟨h3, e3, x3, B3, K3⟩ := M_days_63 (F := F) hF hn n 0 F.1 h2 k sd 0 (by omega) (by omega) S2 K2 W B2 j51 (by omega) hm
  have S3 := S2.fr x3 (fun _ _ z => z)
  have A3 : ∀ i, i < 105 → j_I h3 90 i = nI (k i) := fun i hi => by
    rw [x3.I (by unfold dDy dTk dT; omega)]
    have := V2 i hi
    rw [Nat.mul_zero, Nat.zero_add] at this
    exact this
  obtain ⟨h4, e4, x4, K4, V4⟩ := M_days_98 (F := F) hF (k := (dyL n (k, sd, 0)).1) (r := k) (all := (dyL n (k, sd, 0)).2.2) 105 0 F.1 h3 rfl (by omega) S3 K3 A3 (fun i hi => absurd hi (by omega))
  have zk : bkK (dyL n (k, sd, 0)).1 k = k := by
    funext i
    unfold bkK
    by_cases q : i < 105
    · rw [if_pos q]
    · rw [if_neg q]; exact lo i (by omega)
  rw [zk] at K4
  have B4 := B3.fr x4 (by omega)
  have xx : jX dZ jN h h4 := ((x1.t (x2.up (fun a i d => by unfold dZ dW; omega) (fun _ _ z => z))).t (x3.up (fun a i d => by unfold dDy dTk dT at d; unfold dZ dW; omega) (fun _ _ z => z))).t (x4.up (fun a i d => by unfold dZ dW; omega) (fun _ _ z => z))
  have f50 : j_I h4 85 50 = nI (k 177) := by rw [x4.I (by omega), x3.I (by unfold dDy dTk dT; omega)]; exact j50
  have D4 : MD h4 (dyL n (k, sd, 0)).1 := ⟨Or.inl (by rw [lo 177 (by omega)]; exact f50), V4, by rw [lo 177 (by omega)]; exact bm, fun i _ => lW.b i⟩
  refine ⟨h4, ?_, M'.dy xx B4 K4 D4, xx.up (fun a i d => by unfold dZ dW at d; unfold dMM; omega) (fun _ _ z => z)⟩
  have S0 : ShM (j_sI h 85 51 (nI sd)) := S
  have K0 : KM (j_sI h 85 51 (nI sd)) k := K.oth (by omega)
  have la : m_M_laysAside F 85 (nI 0) (j_sI (j_sI h 85 51 (nI sd)) 85 50 (nI (k 177))) = some (none, h2) := e2
  rw [← e4, ← e3, q_M_days, bI_of (lie1 (Nat.zero_le _) hs (by omega)), if_neg (by decide), bI_of (lie1 hn1 hn (by omega)), if_neg (by decide), if_pos (sm_k85 S), bI_of (M_many S K), if_neg (by rw [ft_eq (by omega) (by omega)]; omega), if_pos (sm_k85 S)]
  show (if j_k (j_sI h 85 51 (nI sd)) 85 = 17 then _ else _) = _
  rw [if_pos (sm_k85 S0), bI_of (M_many S0 K0), if_pos (sm_k85 S0)]
  show (if j_k (j_sI (j_sI h 85 51 (nI sd)) 85 50 (nI (k 177))) 85 = 17 then _ else _) = _
  rw [if_pos (sm_k85 S1), bV_of la]
