/-! A MINUTE IS DRAWN: THE REFERENCE -/
def dyA (k : Nat → Nat) (w y : Nat) : (Nat → Nat) × Nat := match ft_nb (k w) y with
  | none => (k, 0)
  | some to => if lwB k (k 180) w (k w) to = true then (k, 0) else (stN k w to, cst k (k 180) w (k w) to)
def dyK (k : Nat → Nat) (w y : Nat) : Nat → Nat := va_up (mtK (dyA k w y).1 w (mtS (dyA k w y).1 w (k 177))) 104 (k 104 + 1)
theorem dyA_o {k : Nat → Nat} {w y i : Nat} (hw : w < 4) (h : 104 ≤ i) : (dyA k w y).1 i = k i := by
  unfold dyA
  split
  · rfl
  · split
    · rfl
    · exact stN_o (by omega) (by omega)
theorem dyA_W {k : Nat → Nat} (W : WK k) {w y : Nat} (hw : w < 4) : WK (dyA k w y).1 := by
  unfold dyA
  split
  · exact W
  · rename_i to q
    split
    · exact W
    · exact stN_W W hw (ft_nb_lt (W.spot hw) q)
theorem dyA_c (k : Nat → Nat) (w y : Nat) : (dyA k w y).2 ≤ 9 := by
  unfold dyA
  split
  · exact Nat.zero_le _
  · split
    · exact Nat.zero_le _
    · exact (cst_b _ _ _ _ _).2
theorem mtK_o {k : Nat → Nat} {w i : Nat} {o : Option Nat} (hw : w < 4) (ho : ∀ v, o = some v → v < 4) (h : 104 ≤ i) : mtK k w o i = k i := by
  cases o with
  | none => rfl
  | some v => have := ho v rfl; exact jnK_o 25 i (by omega) (by omega) (by omega)
theorem mtK_W {k : Nat → Nat} (W : WK k) {w : Nat} {o : Option Nat} (hw : w < 4) (ho : ∀ v, o = some v → v < 4) : WK (mtK k w o) := by
  cases o with
  | none => exact W
  | some v => exact jnK_W W hw (ho v rfl) (Nat.le_refl _)
theorem mt4 {k : Nat → Nat} (bm : k 177 ≤ 4) {k1 : Nat → Nat} {w : Nat} : ∀ v, mtS k1 w (k 177) = some v → v < 4 := fun v q => by have := (mtS_b _ q).1; omega
theorem dyK_o {k : Nat → Nat} (W : WK k) {w y i : Nat} (hw : w < 4) (h : 105 ≤ i) : dyK k w y i = k i := by
  unfold dyK
  rw [va_n (by omega), mtK_o hw (mt4 W.many) (by omega), dyA_o hw (by omega)]
theorem dyK_W {k : Nat → Nat} (W : WK k) {w y : Nat} (hw : w < 4) (h : k 104 < 999) : WK (dyK k w y) := by
  have W2 := mtK_W (dyA_W W (y := y) hw) hw (mt4 W.many (k1 := (dyA k w y).1) (w := w))
  unfold dyK
  exact W2.up (by omega) (by omega) (by omega) (fun _ => by omega) (fun _ _ => by omega) (fun _ _ => by omega) (fun _ _ => by omega) (fun _ _ => by omega) (fun _ _ => by omega) (fun _ => by omega) (fun _ => by omega) (fun _ => by omega) (fun _ => by omega) (by omega) (fun _ => by omega)
def dDy : Nat → Nat → Prop := fun a i => dTk a i ∨ (a = 85 ∧ i = 51)
theorem M_minute {F : Nat × Nat} (hF : FF F) {h : jH} {k : Nat → Nat} (S : ShM h) (K : KM h k) (W : WK k) (B : SB h) {la : Nat} (hl : la < 2000000) (hm : 0 < k 177) (h104 : k 104 < 999) (i1 : j_I h 85 51 = nI la) : ∃ h', m_M_minuteIsDrawn F 85 h = some (some (.int (nI (dyA k (drN la % k 177) (drN (drN la) % 4 + 1)).2)), h') ∧ jX dDy jN h h' ∧ SB h' ∧ KM h' (dyK k (drN la % k 177) (drN (drN la) % 4 + 1)) ∧ j_I h' 85 51 = nI (drN (drN la)) := by
  have hF1 := hF.1
  have bm := W.many
  have b1 := drN_lt la
  have b2 := drN_lt (drN la)
  have hw : drN la % k 177 < k 177 := Nat.mod_lt _ hm
  have hy : drN (drN la) % 4 < 4 := Nat.mod_lt _ (by omega)
  generalize hwv : drN la % k 177 = w at hw
  generalize hyv : drN (drN la) % 4 = y0 at hy
  have d1 := M_draws (F := F) S hl hm (by omega) i1
  rw [hwv] at d1
  have x1 : jX dDy jN h (j_sI h 85 51 (nI (drN la))) := jX.rf.sI (by unfold dDy; omega)
  have S1 := S.fr x1 (fun _ _ z => z)
  have d2 := M_draws (F := F) (m := 4) S1 (la := drN la) (by omega) (by omega) (by omega) I_sIe
  rw [hyv] at d2
  have x2 : jX (fun a i => a = 85 ∧ i = 51) jN h (j_sI (j_sI h 85 51 (nI (drN la))) 85 51 (nI (drN (drN la)))) := (jX.rf.sI (D := fun a i => a = 85 ∧ i = 51) ⟨rfl, rfl⟩).sI ⟨rfl, rfl⟩
  have S2 := S.fr x2 (fun _ _ z => z)
  have K2 : KM (j_sI (j_sI h 85 51 (nI (drN la))) 85 51 (nI (drN (drN la)))) k := K.fr x2 (fun a i d => by omega)
  have B2 := B.fr x2 (by omega)
  have j2 : j_I (j_sI (j_sI h 85 51 (nI (drN la))) 85 51 (nI (drN (drN la)))) 85 51 = nI (drN (drN la)) := I_sIe
  generalize hH : j_sI (j_sI h 85 51 (nI (drN la))) 85 51 (nI (drN (drN la))) = H at d2 x2 S2 K2 B2 j2
  obtain ⟨h3, e3, x3, B3⟩ := M_canStep (F := F) hF S2 K2 W B2 (w := w) (way := y0 + 1) (by omega) (by omega)
  have S3 := S2.fr x3 (fun _ _ z => z)
  have K3 := K2.dt x3
  have j3 : j_I h3 85 51 = nI (drN (drN la)) := by rw [x3.I (by unfold dT; omega)]; exact j2
  have mm : (nI (k 177) - nI 1) = iV (k 177) := iV_b _
  by_cases c : cnS k w (y0 + 1) = true
  · obtain ⟨to, nb, hb⟩ : ∃ to, ft_nb (k w) (y0 + 1) = some to ∧ lwB k (k 180) w (k w) to = false := by
      cases nb : ft_nb (k w) (y0 + 1) with
      | none => rw [cnS_n nb] at c; cases c
      | some to =>
        rw [cnS_s nb] at c
        exact ⟨to, rfl, by cases q : lwB k (k 180) w (k w) to; rfl; rw [q] at c; cases c⟩
    have ea : dyA k w (y0 + 1) = (stN k w to, cst k (k 180) w (k w) to) := by
      unfold dyA
      rw [nb]
      show (if lwB k (k 180) w (k w) to = true then _ else _) = _
      rw [if_neg (by rw [hb]; decide)]
    obtain ⟨h4, e4, x4, B4, K4⟩ := M_stepNow (F := F) hF S3 K3 W B3 (w := w) (way := y0 + 1) (by omega) (by omega) nb
    have S4 := S3.fr x4 (fun _ _ z => z)
    have ht := ft_nb_lt (W.spot (w := w) (by omega)) nb
    have W4 := stN_W W (w := w) (to := to) (by omega) ht
    have o177 : stN k w to 177 = k 177 := stN_o (by omega) (by omega)
    have o104 : stN k w to 104 = k 104 := stN_o (by omega) (by omega)
    obtain ⟨h5, e5, x5, K5⟩ := M_min_48 (F := F) hF W4 (w := w) (r := cst k (k 180) w (k w) to) (by omega) (by omega) (k 177) F.1 h4 none bm (by omega) S4 K4 (fun v q => by cases q)
    have K6 : KM h5 (va_up (mtK (stN k w to) w (mtS (stN k w to) w (k 177))) 104 (k 104 + 1)) := by
      rw [o104] at K5
      cases q : mtS (stN k w to) w (k 177) with
      | none => rw [q] at K5; exact K5
      | some v => rw [q] at K5; exact K5
    refine ⟨h5, ?_, ?_, B4.fr x5 (by unfold d87; omega), ?_, ?_⟩
    · rw [ea, q_M_minuteIsDrawn, if_pos (sm_k85 S), bI_of (M_many S K), if_pos (sm_k85 S), bI_of d1, if_pos (sm_k85 S1), bI_of d2]
      show (if j_k H 85 = 17 then jbI (m_M_canStep F 85 (nI w) (nI y0 + nI 1) H) _ else none) = _
      rw [ft_add, if_pos (sm_k85 S2), bI_of e3, c, if_neg (by decide), if_pos (sm_k85 S3)]
      rw [bI_of e4, if_pos (sm_k85 S4), bI_of (M_many S4 K4), o177]
      show m_M_minuteIsDrawn_48 F F.1 85 (nI w) (nI (cst k (k 180) w (k w) to)) (mI 0) (nI (k 177) - nI 1) h4 = _
      rw [mm]
      exact e5
    · exact (((x2.up (D' := dDy) (E' := jN) (fun a i d => by unfold dDy; omega) (fun _ _ z => z)).t (x3.up (fun a i d => Or.inl (Or.inl d)) (fun _ _ z => z))).t (x4.up (fun a i d => Or.inl d) (fun _ _ z => z))).t (x5.up (fun a i d => Or.inl (Or.inr d)) (fun _ _ z => z))
    · unfold dyK
      rw [ea]
      exact K6
    · rw [x5.I (by unfold d87; omega), x4.I (by unfold dTk dT; omega)]; exact j3
  · have cf : cnS k w (y0 + 1) = false := by cases q : cnS k w (y0 + 1); rfl; exact absurd q c
    have ea : dyA k w (y0 + 1) = (k, 0) := by
      unfold dyA
      cases nb : ft_nb (k w) (y0 + 1) with
      | none => rfl
      | some to =>
        rw [cnS_s nb] at cf
        have hb : lwB k (k 180) w (k w) to = true := by cases q : lwB k (k 180) w (k w) to; rw [q] at cf; cases cf; rfl
        show (if lwB k (k 180) w (k w) to = true then _ else _) = _
        rw [if_pos hb]
    obtain ⟨h5, e5, x5, K5⟩ := M_min_48 (F := F) hF W (w := w) (r := 0) (by omega) h104 (k 177) F.1 h3 none bm (by omega) S3 K3 (fun v q => by cases q)
    have K6 : KM h5 (va_up (mtK k w (mtS k w (k 177))) 104 (k 104 + 1)) := by
      cases q : mtS k w (k 177) with
      | none => rw [q] at K5; exact K5
      | some v => rw [q] at K5; exact K5
    refine ⟨h5, ?_, ?_, B3.fr x5 (by unfold d87; omega), ?_, ?_⟩
    · rw [ea, q_M_minuteIsDrawn, if_pos (sm_k85 S), bI_of (M_many S K), if_pos (sm_k85 S), bI_of d1, if_pos (sm_k85 S1), bI_of d2]
      show (if j_k H 85 = 17 then jbI (m_M_canStep F 85 (nI w) (nI y0 + nI 1) H) _ else none) = _
      rw [ft_add, if_pos (sm_k85 S2), bI_of e3, cf, if_pos (show nI (ft_z false) = nI 0 from rfl), if_pos (sm_k85 S3), bI_of (M_many S3 K3)]
      show m_M_minuteIsDrawn_48 F F.1 85 (nI w) (nI 0) (mI 0) (nI (k 177) - nI 1) h3 = _
      rw [mm]
      exact e5
    · exact ((x2.up (D' := dDy) (E' := jN) (fun a i d => by unfold dDy; omega) (fun _ _ z => z)).t (x3.up (fun a i d => Or.inl (Or.inl d)) (fun _ _ z => z))).t (x5.up (fun a i d => Or.inl (Or.inr d)) (fun _ _ z => z))
    · unfold dyK
      rw [ea]
      exact K6
    · rw [x5.I (by unfold d87; omega)]; exact j3
