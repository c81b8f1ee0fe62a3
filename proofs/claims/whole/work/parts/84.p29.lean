/-! DRAWS -/
def drN (la : Nat) : Nat := (1103 * la + 12345) % 1000003
theorem drN_lt (la : Nat) : drN la < 1000003 := Nat.mod_lt _ (by omega)
theorem iL_c1 : (1103 : Int64) = iL 1103 := by decide
theorem iL_c2 : (12345 : Int64) = iL 12345 := by decide
theorem iL_c3 : (1000003 : Int64) = iL 1000003 := by decide
theorem iL_c4 : (4 : Int64) = iL 4 := by decide
theorem iL_md {a b : Nat} (ha : a < 1000000000000) (hb : b < 1000000000000) : iL a - iL a / iL b * iL b = iL ((a % b : Nat) : Int) := by
  rw [iL_rem (by omega) (by omega) (by omega) (by omega)]
  congr 1
theorem dr_m {la : Nat} (h : la < 2000000) : (((1103 : Int64) * ((nI la).toInt64)) + (12345 : Int64)) - (((1103 : Int64) * ((nI la).toInt64)) + (12345 : Int64)) / (1000003 : Int64) * (1000003 : Int64) = iL (drN la : Nat) := by
  have e : ((1103 : Int64) * ((nI la).toInt64)) + (12345 : Int64) = iL ((1103 * la + 12345 : Nat) : Int) := by
    rw [nI_L (by omega), iL_c1, iL_c2, iL_mul, iL_add]
    congr 1
  have e3 : (1000003 : Int64) = iL ((1000003 : Nat) : Int) := iL_c3
  rw [e, e3, iL_md (by omega) (by omega)]
  rfl
theorem dr_c {la : Nat} (h : la < 2000000) : ((iL la * (1103 : Int64)) + (12345 : Int64)) - ((iL la * (1103 : Int64)) + (12345 : Int64)) / (1000003 : Int64) * (1000003 : Int64) = iL (drN la : Nat) := by
  have e : (iL la * (1103 : Int64)) + (12345 : Int64) = iL ((1103 * la + 12345 : Nat) : Int) := by
    rw [iL_c1, iL_c2, iL_mul, iL_add]
    congr 1
    show (la : Int) * 1103 + 12345 = ((1103 * la + 12345 : Nat) : Int)
    omega
  have e3 : (1000003 : Int64) = iL ((1000003 : Nat) : Int) := iL_c3
  rw [e, e3, iL_md (by omega) (by omega)]
  rfl
theorem M_draws {F : Nat × Nat} {h : jH} (S : ShM h) {la m : Nat} (hl : la < 2000000) (hm : 0 < m) (hm2 : m < 1000) (i1 : j_I h 85 51 = nI la) : m_M_draws F 85 (nI m) h = some (some (.int (nI (drN la % m))), j_sI h 85 51 (nI (drN la))) := by
  have b := drN_lt la
  have e := dr_m hl
  rw [q_M_draws, if_pos (sm_k85 S), if_pos (sm_k85 S), i1, e, iL_I, iI_n]
  show (if j_k (j_sI h 85 51 (nI (drN la))) 85 = 17 then (if nI m = 0 then none else some (some (Value.int (j_I (j_sI h 85 51 (nI (drN la))) 85 51 - j_I (j_sI h 85 51 (nI (drN la))) 85 51 / nI m * nI m)), j_sI h 85 51 (nI (drN la)))) else none) = _
  rw [if_pos (show j_k (j_sI h 85 51 (nI (drN la))) 85 = 17 from sm_k85 S), if_neg (by show ¬ nI m = nI 0; rw [ft_eq (by omega) (by omega)]; omega), I_sIe, ft_div (by omega) (by omega) (by omega), ft_mul, ft_rem2]
theorem M_draws_b {F : Nat × Nat} {h : jH} (S : ShM h) {la m : Nat} (hl : la < 2000000) (hm : 0 < m) (hm2 : m < 1000) (i1 : j_I h 85 51 = nI la) (ff : Int32 → jH → Option jO) : jbI (m_M_draws F 85 (nI m) h) ff = ff ((nI (drN la % m))) (j_sI h 85 51 (nI (drN la))) := bI_of (M_draws (F := F) (h := h) (S := S) (la := la) (m := m) (hl := hl) (hm := hm) (hm2 := hm2) (i1 := i1)) ff
/-- the first other one in the same cell -/
def mtS (k : Nat → Nat) (w : Nat) : Nat → Option Nat
  | 0 => none
  | m + 1 => match mtS k w m with
    | some v => some v
    | none => if m ≠ w ∧ k m = k w then some m else none
theorem mtS_b {k : Nat → Nat} {w v : Nat} : ∀ m, mtS k w m = some v → v < m ∧ v ≠ w ∧ k v = k w
  | 0, h => by cases h
  | m + 1, h => by
    unfold mtS at h
    cases q : mtS k w m with
    | some y =>
      rw [q] at h
      injection h with h
      subst h
      have := mtS_b m q
      exact ⟨by omega, this.2⟩
    | none =>
      rw [q] at h
      by_cases c : m ≠ w ∧ k m = k w
      · simp only [if_pos c] at h
        injection h with h
        subst h
        exact ⟨by omega, c⟩
      · simp only [if_neg c] at h
        cases h
def mtK (k : Nat → Nat) (w : Nat) (o : Option Nat) : Nat → Nat := match o with
  | none => k
  | some v => jnK k w v 25
def oV (o : Option Nat) : Int32 := match o with
  | none => mI 0
  | some v => nI v
theorem M_min_48 {F : Nat × Nat} (hF : FF F) {k : Nat → Nat} (W : WK k) {w r : Nat} (hw : w < 4) (h104 : k 104 < 999) : ∀ d f h (o : Option Nat), d ≤ 4 → d < f → ShM h → KM h k → (∀ v, o = some v → v < 4 ∧ v ≠ w) → ∃ h', m_M_minuteIsDrawn_48 F f 85 (nI w) (nI r) (oV o) (iV d) h = some (some (.int (nI r)), h') ∧ jX d87 jN h h' ∧ KM h' (va_up (mtK k w (match mtS k w d with | some v => some v | none => o)) 104 (k 104 + 1))
  | 0, f + 1, h, o, hd, _, S, K, ho => by
    have e0 : iV 0 = mI 0 := rfl
    cases o with
    | none =>
      have i1 := km K (i := 104) (by omega) (by omega)
      have x1 : jX d87 jN h (j_sI h 87 104 (nI (k 104 + 1))) := jX.rf.sI rfl
      refine ⟨_, ?_, x1, K.set (by omega)⟩
      have eo : oV none = mI 0 := rfl
      rw [e0, eo, q_M_minuteIsDrawn_48]
      simp (disch := first | exact sR_rfl _ _ rfl | omega) only [ft_lit, ft_m1, ft_m2, ft_m3, ft_m5, ft_m6, ft_cl, ft_lt, ft_le, ft_eq, ft_mlt, ft_ltm, ft_mltm, ft_meq, ft_eqm, ft_meqm, ft_add, ft_mul, ft_sub, ft_nm, ft_m1p, ft_and, ft_or, ft_31, ft_shl, ft_shr, ft_bz, ft_z0, ft_z1, ft_z01, ft_bb, ft_zt, ft_zf, ft_or0, ft_rv, ft_rvr, ft_rf, ft_rfn, ft_bI, ft_bJ, ft_bV, ft_bR, ft_bRn, ft_isr, ft_isn, ft_ifn, ft_ifr, ft_ov, ft_ovn, ft_in, k_sI, n_sI, R_sI, J_sI, c_sI, z_sI, k_sJ, n_sJ, R_sJ, I_sJ, c_sJ, z_sJ, k_sR, n_sR, I_sR, J_sR, c_sR, z_sR, k_wI, n_wI, R_wI, J_wI, I_wIe, k_wJ, n_wJ, R_wJ, I_wJ, J_wJe, I_wIn, J_wJn, I_sIe, J_sJe, R_sRe, I_sIn, I_sIk, J_sJn, J_sJk, R_sRn, R_sRk, eq_self, if_true, if_false, ↓reduceIte, cond_true, cond_false, ↓cond_eq_ite, and_true, true_and, and_false, false_and, or_true, true_or, or_false, false_or, not_true_eq_false, not_false_eq_true, ft_ltT, ft_ltF, ft_eqT, ft_eqF, Bool.false_eq_true, Bool.true_eq_false, Bool.not_true, Bool.not_false, Bool.and_true, Bool.true_and, Bool.and_false, Bool.false_and, decide_true, decide_false, Nat.reduceAdd, Nat.reduceMul, Nat.reduceSub, Nat.reduceEqDiff, Nat.reduceLT, Nat.zero_add, Nat.add_zero, Nat.reduceDiv, Nat.reduceMod, sm_k85 S, sm_R85_1 S, ↓sm_v85_1 S, sm_R85_2 S, ↓sm_v85_2 S, sm_R85_3 S, ↓sm_v85_3 S, sm_R85_4 S, ↓sm_v85_4 S, sm_R85_5 S, ↓sm_v85_5 S, sm_R85_7 S, ↓sm_v85_7 S, sm_R85_11 S, ↓sm_v85_11 S, sm_R85_12 S, ↓sm_v85_12 S, sm_R85_15 S, ↓sm_v85_15 S, sm_R85_16 S, ↓sm_v85_16 S, sm_R85_17 S, ↓sm_v85_17 S, sm_R85_26 S, ↓sm_v85_26 S, sm_R85_29 S, ↓sm_v85_29 S, sm_R85_30 S, ↓sm_v85_30 S, sm_R85_32 S, ↓sm_v85_32 S, sm_R85_33 S, ↓sm_v85_33 S, sm_R85_34 S, ↓sm_v85_34 S, sm_R85_35 S, ↓sm_v85_35 S, sm_R85_36 S, ↓sm_v85_36 S, sm_R85_37 S, ↓sm_v85_37 S, sm_R85_38 S, ↓sm_v85_38 S, sm_R85_40 S, ↓sm_v85_40 S, sm_R85_41 S, ↓sm_v85_41 S, sm_R85_48 S, ↓sm_v85_48 S, sm_R85_49 S, ↓sm_v85_49 S, sm_k86 S, sm_n86 S, sm_k87 S, sm_n87 S, sm_k88 S, sm_n88 S, sm_k89 S, sm_n89 S, sm_k90 S, sm_n90 S, sm_k91 S, sm_n91 S, sm_k92 S, sm_n92 S, sm_k93 S, sm_n93 S, sm_k94 S, sm_n94 S, sm_k95 S, sm_n95 S, sm_k96 S, sm_n96 S, sm_k97 S, sm_n97 S, sm_k98 S, sm_n98 S, sm_k99 S, sm_n99 S, sm_k100 S, sm_n100 S, sm_k101 S, sm_n101 S, sm_k102 S, sm_n102 S, sm_k103 S, sm_n103 S, sm_k104 S, sm_n104 S, sm_k105 S, sm_n105 S, sm_k106 S, sm_n106 S, sm_k107 S, sm_n107 S, sm_k108 S, sm_n108 S, sm_k109 S, sm_n109 S, sm_k110 S, sm_n110 S, i1]
    | some v =>
      obtain ⟨v1, v2⟩ := ho v rfl
      obtain ⟨h2, e2, x2, K2⟩ := M_joinNow (F := F) hF S K W (a := w) (b := v) hw v1 (fun z => v2 z.symm)
      have S2 := S.fr x2 (fun _ _ z => z)
      have i1 := km K2 (i := 104) (by omega) (by omega)
      rw [jnK_o 25 104 (by omega) (by omega) (by omega)] at i1
      have x1 : jX d87 jN h2 (j_sI h2 87 104 (nI (k 104 + 1))) := jX.rf.sI rfl
      refine ⟨_, ?_, x2.t x1, K2.set (by omega)⟩
      have eo : oV (some v) = nI v := rfl
      have b2 := bI_of e2
      rw [e0, eo, q_M_minuteIsDrawn_48, if_pos (by rw [ft_mlt (by omega) (by omega)]; trivial), if_neg (by rw [ft_eqm (by omega) (by omega)]; exact fun z => z), if_pos (sm_k85 S), b2]
      simp (disch := first | exact sR_rfl _ _ rfl | omega) only [ft_lit, ft_m1, ft_m2, ft_m3, ft_m5, ft_m6, ft_cl, ft_lt, ft_le, ft_eq, ft_mlt, ft_ltm, ft_mltm, ft_meq, ft_eqm, ft_meqm, ft_add, ft_mul, ft_sub, ft_nm, ft_m1p, ft_and, ft_or, ft_31, ft_shl, ft_shr, ft_bz, ft_z0, ft_z1, ft_z01, ft_bb, ft_zt, ft_zf, ft_or0, ft_rv, ft_rvr, ft_rf, ft_rfn, ft_bI, ft_bJ, ft_bV, ft_bR, ft_bRn, ft_isr, ft_isn, ft_ifn, ft_ifr, ft_ov, ft_ovn, ft_in, k_sI, n_sI, R_sI, J_sI, c_sI, z_sI, k_sJ, n_sJ, R_sJ, I_sJ, c_sJ, z_sJ, k_sR, n_sR, I_sR, J_sR, c_sR, z_sR, k_wI, n_wI, R_wI, J_wI, I_wIe, k_wJ, n_wJ, R_wJ, I_wJ, J_wJe, I_wIn, J_wJn, I_sIe, J_sJe, R_sRe, I_sIn, I_sIk, J_sJn, J_sJk, R_sRn, R_sRk, eq_self, if_true, if_false, ↓reduceIte, cond_true, cond_false, ↓cond_eq_ite, and_true, true_and, and_false, false_and, or_true, true_or, or_false, false_or, not_true_eq_false, not_false_eq_true, ft_ltT, ft_ltF, ft_eqT, ft_eqF, Bool.false_eq_true, Bool.true_eq_false, Bool.not_true, Bool.not_false, Bool.and_true, Bool.true_and, Bool.and_false, Bool.false_and, decide_true, decide_false, Nat.reduceAdd, Nat.reduceMul, Nat.reduceSub, Nat.reduceEqDiff, Nat.reduceLT, Nat.zero_add, Nat.add_zero, Nat.reduceDiv, Nat.reduceMod, sm_k85 S2, sm_R85_1 S2, ↓sm_v85_1 S2, sm_R85_2 S2, ↓sm_v85_2 S2, sm_R85_3 S2, ↓sm_v85_3 S2, sm_R85_4 S2, ↓sm_v85_4 S2, sm_R85_5 S2, ↓sm_v85_5 S2, sm_R85_7 S2, ↓sm_v85_7 S2, sm_R85_11 S2, ↓sm_v85_11 S2, sm_R85_12 S2, ↓sm_v85_12 S2, sm_R85_15 S2, ↓sm_v85_15 S2, sm_R85_16 S2, ↓sm_v85_16 S2, sm_R85_17 S2, ↓sm_v85_17 S2, sm_R85_26 S2, ↓sm_v85_26 S2, sm_R85_29 S2, ↓sm_v85_29 S2, sm_R85_30 S2, ↓sm_v85_30 S2, sm_R85_32 S2, ↓sm_v85_32 S2, sm_R85_33 S2, ↓sm_v85_33 S2, sm_R85_34 S2, ↓sm_v85_34 S2, sm_R85_35 S2, ↓sm_v85_35 S2, sm_R85_36 S2, ↓sm_v85_36 S2, sm_R85_37 S2, ↓sm_v85_37 S2, sm_R85_38 S2, ↓sm_v85_38 S2, sm_R85_40 S2, ↓sm_v85_40 S2, sm_R85_41 S2, ↓sm_v85_41 S2, sm_R85_48 S2, ↓sm_v85_48 S2, sm_R85_49 S2, ↓sm_v85_49 S2, sm_k86 S2, sm_n86 S2, sm_k87 S2, sm_n87 S2, sm_k88 S2, sm_n88 S2, sm_k89 S2, sm_n89 S2, sm_k90 S2, sm_n90 S2, sm_k91 S2, sm_n91 S2, sm_k92 S2, sm_n92 S2, sm_k93 S2, sm_n93 S2, sm_k94 S2, sm_n94 S2, sm_k95 S2, sm_n95 S2, sm_k96 S2, sm_n96 S2, sm_k97 S2, sm_n97 S2, sm_k98 S2, sm_n98 S2, sm_k99 S2, sm_n99 S2, sm_k100 S2, sm_n100 S2, sm_k101 S2, sm_n101 S2, sm_k102 S2, sm_n102 S2, sm_k103 S2, sm_n103 S2, sm_k104 S2, sm_n104 S2, sm_k105 S2, sm_n105 S2, sm_k106 S2, sm_n106 S2, sm_k107 S2, sm_n107 S2, sm_k108 S2, sm_n108 S2, sm_k109 S2, sm_n109 S2, sm_k110 S2, sm_n110 S2, i1]
  | d + 1, f + 1, h, o, hd, hf, S, K, ho => by
    have bw := bI_of (M_spotOf (F := F) S K (w := w) hw)
    have bd := bI_of (M_spotOf (F := F) S K (w := d) (by omega))
    have s1 := W.spot (w := w) hw
    have s2 := W.spot (w := d) (by omega)
    have st : mtS k w (d + 1) = match mtS k w d with | some v => some v | none => if d ≠ w ∧ k d = k w then some d else none := rfl
    by_cases c1 : d = w
    · obtain ⟨h', e1, x1, K1⟩ := M_min_48 (F := F) hF W (r := r) hw h104 d f h o (by omega) (by omega) S K ho
      have z : mtS k w (d + 1) = mtS k w d := by
        rw [st]
        cases mtS k w d with
        | some v => rfl
        | none => simp [c1]
      rw [z]
      refine ⟨h', ?_, x1, K1⟩
      rw [← e1, iV_s, q_M_minuteIsDrawn_48, if_neg (by rw [ft_lt (by omega) (by omega)]; omega), if_pos (by rw [c1]), iV_d]
    · by_cases c2 : k d = k w
      · obtain ⟨h', e1, x1, K1⟩ := M_min_48 (F := F) hF W (r := r) hw h104 d f h (some d) (by omega) (by omega) S K (fun v q => by injection q with q; subst q; exact ⟨by omega, c1⟩)
        have z : (match mtS k w (d + 1) with | some v => some v | none => o) = (match mtS k w d with | some v => some v | none => some d) := by
          rw [st]
          cases mtS k w d with
          | some v => rfl
          | none => simp [c1, c2]
        rw [z]
        refine ⟨h', ?_, x1, K1⟩
        have eo : oV (some d) = nI d := rfl
        rw [eo] at e1
        rw [← e1, iV_s, q_M_minuteIsDrawn_48, if_neg (by rw [ft_lt (by omega) (by omega)]; omega), if_neg (by rw [ft_eq (by omega) (by omega)]; exact c1), if_pos (sm_k85 S), bd, if_pos (sm_k85 S), bw, if_pos (by rw [c2]), iV_d]
      · obtain ⟨h', e1, x1, K1⟩ := M_min_48 (F := F) hF W (r := r) hw h104 d f h o (by omega) (by omega) S K ho
        have z : mtS k w (d + 1) = mtS k w d := by
          rw [st]
          cases mtS k w d with
          | some v => rfl
          | none => simp [c2]
        rw [z]
        refine ⟨h', ?_, x1, K1⟩
        rw [← e1, iV_s, q_M_minuteIsDrawn_48, if_neg (by rw [ft_lt (by omega) (by omega)]; omega), if_neg (by rw [ft_eq (by omega) (by omega)]; exact c1), if_pos (sm_k85 S), bd, if_pos (sm_k85 S), bw, if_neg (by rw [ft_eq (by omega) (by omega)]; exact c2), iV_d]
