/-! DEEDS ARE KEPT -/
def dKp : Nat → Nat → Prop := fun a i => a = 98 ∨ (a = 85 ∧ i = 31)
theorem M_keeps_54 {F : Nat × Nat} {k : Nat → Nat} {wt n : Nat} (hn : n ≤ 15) : ∀ d m f h, m + d = 105 → d < f → ShM h → KM h k → j_I h 85 31 = nI n → (∀ i, i < m → j_I h 98 (106 * n + i) = nI (k i)) → ∃ h', m_M_keeps_54 F f 85 (nI wt) (nI 106) (nI m) h = some (none, h') ∧ jX dKp jN h h' ∧ j_I h' 85 31 = nI (n + 1) ∧ (∀ i, i < 105 → j_I h' 98 (106 * n + i) = nI (k i)) ∧ j_I h' 98 (106 * n + 105) = nI wt ∧ ∀ i, i < 106 * n → j_I h' 98 i = j_I h 98 i
  | 0, m, f + 1, h, e, _, S, K, N, V => by
    have : m = 105 := by omega
    subst this
    refine ⟨j_sI (j_sI h 98 (106 * n + 105) (nI wt)) 85 31 (nI (n + 1)), ?_, (jX.rf.sI (D := dKp) (by unfold dKp; omega)).sI (by unfold dKp; omega), I_sIe, fun i hi => ?_, ?_, fun i hi => ?_⟩
    · rw [q_M_keeps_54]
      simp (disch := first | exact sR_rfl _ _ rfl | omega) only [ft_lit, ft_m1, ft_m2, ft_m3, ft_m5, ft_m6, ft_cl, ft_lt, ft_le, ft_eq, ft_mlt, ft_ltm, ft_mltm, ft_meq, ft_eqm, ft_meqm, ft_add, ft_mul, ft_sub, ft_nm, ft_m1p, ft_and, ft_or, ft_31, ft_shl, ft_shr, ft_bz, ft_z0, ft_z1, ft_z01, ft_bb, ft_zt, ft_zf, ft_or0, ft_rv, ft_rvr, ft_rf, ft_rfn, ft_bI, ft_bJ, ft_bV, ft_bR, ft_bRn, ft_isr, ft_isn, ft_ifn, ft_ifr, ft_ov, ft_ovn, ft_in, k_sI, n_sI, R_sI, J_sI, c_sI, z_sI, k_sJ, n_sJ, R_sJ, I_sJ, c_sJ, z_sJ, k_sR, n_sR, I_sR, J_sR, c_sR, z_sR, k_wI, n_wI, R_wI, J_wI, I_wIe, k_wJ, n_wJ, R_wJ, I_wJ, J_wJe, I_wIn, J_wJn, I_sIe, J_sJe, R_sRe, I_sIn, I_sIk, J_sJn, J_sJk, R_sRn, R_sRk, eq_self, if_true, if_false, ↓reduceIte, cond_true, cond_false, ↓cond_eq_ite, and_true, true_and, and_false, false_and, or_true, true_or, or_false, false_or, not_true_eq_false, not_false_eq_true, ft_ltT, ft_ltF, ft_eqT, ft_eqF, Bool.false_eq_true, Bool.true_eq_false, Bool.not_true, Bool.not_false, Bool.and_true, Bool.true_and, Bool.and_false, Bool.false_and, decide_true, decide_false, Nat.reduceAdd, Nat.reduceMul, Nat.reduceSub, Nat.reduceEqDiff, Nat.reduceLT, Nat.zero_add, Nat.add_zero, Nat.reduceDiv, Nat.reduceMod, sm_k85 S, sm_R85_1 S, ↓sm_v85_1 S, sm_R85_2 S, ↓sm_v85_2 S, sm_R85_3 S, ↓sm_v85_3 S, sm_R85_4 S, ↓sm_v85_4 S, sm_R85_5 S, ↓sm_v85_5 S, sm_R85_7 S, ↓sm_v85_7 S, sm_R85_11 S, ↓sm_v85_11 S, sm_R85_12 S, ↓sm_v85_12 S, sm_R85_15 S, ↓sm_v85_15 S, sm_R85_16 S, ↓sm_v85_16 S, sm_R85_17 S, ↓sm_v85_17 S, sm_R85_26 S, ↓sm_v85_26 S, sm_R85_29 S, ↓sm_v85_29 S, sm_R85_30 S, ↓sm_v85_30 S, sm_R85_32 S, ↓sm_v85_32 S, sm_R85_33 S, ↓sm_v85_33 S, sm_R85_34 S, ↓sm_v85_34 S, sm_R85_35 S, ↓sm_v85_35 S, sm_R85_36 S, ↓sm_v85_36 S, sm_R85_37 S, ↓sm_v85_37 S, sm_R85_38 S, ↓sm_v85_38 S, sm_R85_40 S, ↓sm_v85_40 S, sm_R85_41 S, ↓sm_v85_41 S, sm_R85_48 S, ↓sm_v85_48 S, sm_R85_49 S, ↓sm_v85_49 S, sm_k86 S, sm_n86 S, sm_k87 S, sm_n87 S, sm_k88 S, sm_n88 S, sm_k89 S, sm_n89 S, sm_k90 S, sm_n90 S, sm_k91 S, sm_n91 S, sm_k92 S, sm_n92 S, sm_k93 S, sm_n93 S, sm_k94 S, sm_n94 S, sm_k95 S, sm_n95 S, sm_k96 S, sm_n96 S, sm_k97 S, sm_n97 S, sm_k98 S, sm_n98 S, sm_k99 S, sm_n99 S, sm_k100 S, sm_n100 S, sm_k101 S, sm_n101 S, sm_k102 S, sm_n102 S, sm_k103 S, sm_n103 S, sm_k104 S, sm_n104 S, sm_k105 S, sm_n105 S, sm_k106 S, sm_n106 S, sm_k107 S, sm_n107 S, sm_k108 S, sm_n108 S, sm_k109 S, sm_n109 S, sm_k110 S, sm_n110 S, N]
    · rw [I_sIn (by omega), I_sIk (by omega)]; exact V i hi
    · rw [I_sIn (by omega), I_sIe]
    · rw [I_sIn (by omega), I_sIk (by omega)]
  | d + 1, m, f + 1, h, e, hf, S, K, N, V => by
    have i1 := km K (i := m) (by omega) (by omega)
    have x0 : jX dKp jN h (j_sI h 98 (106 * n + m) (nI (k m))) := jX.rf.sI (by unfold dKp; omega)
    obtain ⟨h', e1, x1, p1, p2, p3, p4⟩ := M_keeps_54 (F := F) (k := k) (wt := wt) hn d (m + 1) f (j_sI h 98 (106 * n + m) (nI (k m))) (by omega) (by omega) (S.fr x0 (fun _ _ z => z)) (K.oth (by omega)) (by rw [I_sIn (by omega)]; exact N) (fun i hi => by
      by_cases q : i = m
      · rw [q, I_sIe]
      · rw [I_sIk (by omega)]; exact V i (by omega))
    refine ⟨h', ?_, x0.t x1, p1, p2, p3, fun i hi => by rw [p4 i hi, I_sIk (by omega)]⟩
    rw [← e1, q_M_keeps_54]
    simp (disch := first | exact sR_rfl _ _ rfl | omega) only [ft_lit, ft_m1, ft_m2, ft_m3, ft_m5, ft_m6, ft_cl, ft_lt, ft_le, ft_eq, ft_mlt, ft_ltm, ft_mltm, ft_meq, ft_eqm, ft_meqm, ft_add, ft_mul, ft_sub, ft_nm, ft_m1p, ft_and, ft_or, ft_31, ft_shl, ft_shr, ft_bz, ft_z0, ft_z1, ft_z01, ft_bb, ft_zt, ft_zf, ft_or0, ft_rv, ft_rvr, ft_rf, ft_rfn, ft_bI, ft_bJ, ft_bV, ft_bR, ft_bRn, ft_isr, ft_isn, ft_ifn, ft_ifr, ft_ov, ft_ovn, ft_in, k_sI, n_sI, R_sI, J_sI, c_sI, z_sI, k_sJ, n_sJ, R_sJ, I_sJ, c_sJ, z_sJ, k_sR, n_sR, I_sR, J_sR, c_sR, z_sR, k_wI, n_wI, R_wI, J_wI, I_wIe, k_wJ, n_wJ, R_wJ, I_wJ, J_wJe, I_wIn, J_wJn, I_sIe, J_sJe, R_sRe, I_sIn, I_sIk, J_sJn, J_sJk, R_sRn, R_sRk, eq_self, if_true, if_false, ↓reduceIte, cond_true, cond_false, ↓cond_eq_ite, and_true, true_and, and_false, false_and, or_true, true_or, or_false, false_or, not_true_eq_false, not_false_eq_true, ft_ltT, ft_ltF, ft_eqT, ft_eqF, Bool.false_eq_true, Bool.true_eq_false, Bool.not_true, Bool.not_false, Bool.and_true, Bool.true_and, Bool.and_false, Bool.false_and, decide_true, decide_false, Nat.reduceAdd, Nat.reduceMul, Nat.reduceSub, Nat.reduceEqDiff, Nat.reduceLT, Nat.zero_add, Nat.add_zero, Nat.reduceDiv, Nat.reduceMod, sm_k85 S, sm_R85_1 S, ↓sm_v85_1 S, sm_R85_2 S, ↓sm_v85_2 S, sm_R85_3 S, ↓sm_v85_3 S, sm_R85_4 S, ↓sm_v85_4 S, sm_R85_5 S, ↓sm_v85_5 S, sm_R85_7 S, ↓sm_v85_7 S, sm_R85_11 S, ↓sm_v85_11 S, sm_R85_12 S, ↓sm_v85_12 S, sm_R85_15 S, ↓sm_v85_15 S, sm_R85_16 S, ↓sm_v85_16 S, sm_R85_17 S, ↓sm_v85_17 S, sm_R85_26 S, ↓sm_v85_26 S, sm_R85_29 S, ↓sm_v85_29 S, sm_R85_30 S, ↓sm_v85_30 S, sm_R85_32 S, ↓sm_v85_32 S, sm_R85_33 S, ↓sm_v85_33 S, sm_R85_34 S, ↓sm_v85_34 S, sm_R85_35 S, ↓sm_v85_35 S, sm_R85_36 S, ↓sm_v85_36 S, sm_R85_37 S, ↓sm_v85_37 S, sm_R85_38 S, ↓sm_v85_38 S, sm_R85_40 S, ↓sm_v85_40 S, sm_R85_41 S, ↓sm_v85_41 S, sm_R85_48 S, ↓sm_v85_48 S, sm_R85_49 S, ↓sm_v85_49 S, sm_k86 S, sm_n86 S, sm_k87 S, sm_n87 S, sm_k88 S, sm_n88 S, sm_k89 S, sm_n89 S, sm_k90 S, sm_n90 S, sm_k91 S, sm_n91 S, sm_k92 S, sm_n92 S, sm_k93 S, sm_n93 S, sm_k94 S, sm_n94 S, sm_k95 S, sm_n95 S, sm_k96 S, sm_n96 S, sm_k97 S, sm_n97 S, sm_k98 S, sm_n98 S, sm_k99 S, sm_n99 S, sm_k100 S, sm_n100 S, sm_k101 S, sm_n101 S, sm_k102 S, sm_n102 S, sm_k103 S, sm_n103 S, sm_k104 S, sm_n104 S, sm_k105 S, sm_n105 S, sm_k106 S, sm_n106 S, sm_k107 S, sm_n107 S, sm_k108 S, sm_n108 S, sm_k109 S, sm_n109 S, sm_k110 S, sm_n110 S, N, i1]
theorem M_keeps_14 {F : Nat × Nat} (hF : FF F) {k : Nat → Nat} {wt : Nat} {g : Nat → Int32} : ∀ d m f h, m + d = 1590 → d < f → ShM h → KM h k → j_I h 85 31 = nI 16 → (∀ i, i < m → j_I h 98 i = g (i + 106)) → (∀ i, m ≤ i → j_I h 98 i = g i) → ∃ h', m_M_keeps_14 F f 85 (nI wt) (nI 106) (nI m) h = some (none, h') ∧ jX dKp jN h h' ∧ j_I h' 85 31 = nI 16 ∧ (∀ i, i < 105 → j_I h' 98 (1590 + i) = nI (k i)) ∧ j_I h' 98 1695 = nI wt ∧ ∀ i, i < 1590 → j_I h' 98 i = g (i + 106)
  | 0, m, f + 1, h, e, _, S, K, N, V1, V2 => by
    have hF1 := hF.1
    have : m = 1590 := by omega
    subst this
    have x0 : jX dKp jN h (j_sI h 85 31 (nI 15)) := jX.rf.sI (by unfold dKp; omega)
    obtain ⟨h', e1, x1, p1, p2, p3, p4⟩ := M_keeps_54 (F := F) (k := k) (wt := wt) (n := 15) (by omega) 105 0 F.1 (j_sI h 85 31 (nI 15)) rfl (by omega) (S.fr x0 (fun _ _ z => z)) (K.oth (by omega)) I_sIe (fun i hi => absurd hi (by omega))
    refine ⟨h', ?_, x0.t x1, p1, p2, p3, fun i hi => by rw [p4 i (by omega), I_sIn (by omega)]; exact V1 i hi⟩
    rw [← e1, q_M_keeps_14]
    simp (disch := first | exact sR_rfl _ _ rfl | omega) only [ft_lit, ft_m1, ft_m2, ft_m3, ft_m5, ft_m6, ft_cl, ft_lt, ft_le, ft_eq, ft_mlt, ft_ltm, ft_mltm, ft_meq, ft_eqm, ft_meqm, ft_add, ft_mul, ft_sub, ft_nm, ft_m1p, ft_and, ft_or, ft_31, ft_shl, ft_shr, ft_bz, ft_z0, ft_z1, ft_z01, ft_bb, ft_zt, ft_zf, ft_or0, ft_rv, ft_rvr, ft_rf, ft_rfn, ft_bI, ft_bJ, ft_bV, ft_bR, ft_bRn, ft_isr, ft_isn, ft_ifn, ft_ifr, ft_ov, ft_ovn, ft_in, k_sI, n_sI, R_sI, J_sI, c_sI, z_sI, k_sJ, n_sJ, R_sJ, I_sJ, c_sJ, z_sJ, k_sR, n_sR, I_sR, J_sR, c_sR, z_sR, k_wI, n_wI, R_wI, J_wI, I_wIe, k_wJ, n_wJ, R_wJ, I_wJ, J_wJe, I_wIn, J_wJn, I_sIe, J_sJe, R_sRe, I_sIn, I_sIk, J_sJn, J_sJk, R_sRn, R_sRk, eq_self, if_true, if_false, ↓reduceIte, cond_true, cond_false, ↓cond_eq_ite, and_true, true_and, and_false, false_and, or_true, true_or, or_false, false_or, not_true_eq_false, not_false_eq_true, ft_ltT, ft_ltF, ft_eqT, ft_eqF, Bool.false_eq_true, Bool.true_eq_false, Bool.not_true, Bool.not_false, Bool.and_true, Bool.true_and, Bool.and_false, Bool.false_and, decide_true, decide_false, Nat.reduceAdd, Nat.reduceMul, Nat.reduceSub, Nat.reduceEqDiff, Nat.reduceLT, Nat.zero_add, Nat.add_zero, Nat.reduceDiv, Nat.reduceMod, sm_k85 S, sm_R85_1 S, ↓sm_v85_1 S, sm_R85_2 S, ↓sm_v85_2 S, sm_R85_3 S, ↓sm_v85_3 S, sm_R85_4 S, ↓sm_v85_4 S, sm_R85_5 S, ↓sm_v85_5 S, sm_R85_7 S, ↓sm_v85_7 S, sm_R85_11 S, ↓sm_v85_11 S, sm_R85_12 S, ↓sm_v85_12 S, sm_R85_15 S, ↓sm_v85_15 S, sm_R85_16 S, ↓sm_v85_16 S, sm_R85_17 S, ↓sm_v85_17 S, sm_R85_26 S, ↓sm_v85_26 S, sm_R85_29 S, ↓sm_v85_29 S, sm_R85_30 S, ↓sm_v85_30 S, sm_R85_32 S, ↓sm_v85_32 S, sm_R85_33 S, ↓sm_v85_33 S, sm_R85_34 S, ↓sm_v85_34 S, sm_R85_35 S, ↓sm_v85_35 S, sm_R85_36 S, ↓sm_v85_36 S, sm_R85_37 S, ↓sm_v85_37 S, sm_R85_38 S, ↓sm_v85_38 S, sm_R85_40 S, ↓sm_v85_40 S, sm_R85_41 S, ↓sm_v85_41 S, sm_R85_48 S, ↓sm_v85_48 S, sm_R85_49 S, ↓sm_v85_49 S, sm_k86 S, sm_n86 S, sm_k87 S, sm_n87 S, sm_k88 S, sm_n88 S, sm_k89 S, sm_n89 S, sm_k90 S, sm_n90 S, sm_k91 S, sm_n91 S, sm_k92 S, sm_n92 S, sm_k93 S, sm_n93 S, sm_k94 S, sm_n94 S, sm_k95 S, sm_n95 S, sm_k96 S, sm_n96 S, sm_k97 S, sm_n97 S, sm_k98 S, sm_n98 S, sm_k99 S, sm_n99 S, sm_k100 S, sm_n100 S, sm_k101 S, sm_n101 S, sm_k102 S, sm_n102 S, sm_k103 S, sm_n103 S, sm_k104 S, sm_n104 S, sm_k105 S, sm_n105 S, sm_k106 S, sm_n106 S, sm_k107 S, sm_n107 S, sm_k108 S, sm_n108 S, sm_k109 S, sm_n109 S, sm_k110 S, sm_n110 S, N]
  | d + 1, m, f + 1, h, e, hf, S, K, N, V1, V2 => by
    have i1 := V2 (m + 106) (by omega)
    have x0 : jX dKp jN h (j_sI h 98 m (g (m + 106))) := jX.rf.sI (by unfold dKp; omega)
    obtain ⟨h', e1, x1, p⟩ := M_keeps_14 (F := F) hF (k := k) (wt := wt) (g := g) d (m + 1) f (j_sI h 98 m (g (m + 106))) (by omega) (by omega) (S.fr x0 (fun _ _ z => z)) (K.oth (by omega)) (by rw [I_sIn (by omega)]; exact N) (fun i hi => by
      by_cases q : i = m
      · rw [q, I_sIe]
      · rw [I_sIk q]; exact V1 i (by omega)) (fun i hi => by rw [I_sIk (by omega)]; exact V2 i (by omega))
    refine ⟨h', ?_, x0.t x1, p⟩
    rw [← e1, q_M_keeps_14]
    simp (disch := first | exact sR_rfl _ _ rfl | omega) only [ft_lit, ft_m1, ft_m2, ft_m3, ft_m5, ft_m6, ft_cl, ft_lt, ft_le, ft_eq, ft_mlt, ft_ltm, ft_mltm, ft_meq, ft_eqm, ft_meqm, ft_add, ft_mul, ft_sub, ft_nm, ft_m1p, ft_and, ft_or, ft_31, ft_shl, ft_shr, ft_bz, ft_z0, ft_z1, ft_z01, ft_bb, ft_zt, ft_zf, ft_or0, ft_rv, ft_rvr, ft_rf, ft_rfn, ft_bI, ft_bJ, ft_bV, ft_bR, ft_bRn, ft_isr, ft_isn, ft_ifn, ft_ifr, ft_ov, ft_ovn, ft_in, k_sI, n_sI, R_sI, J_sI, c_sI, z_sI, k_sJ, n_sJ, R_sJ, I_sJ, c_sJ, z_sJ, k_sR, n_sR, I_sR, J_sR, c_sR, z_sR, k_wI, n_wI, R_wI, J_wI, I_wIe, k_wJ, n_wJ, R_wJ, I_wJ, J_wJe, I_wIn, J_wJn, I_sIe, J_sJe, R_sRe, I_sIn, I_sIk, J_sJn, J_sJk, R_sRn, R_sRk, eq_self, if_true, if_false, ↓reduceIte, cond_true, cond_false, ↓cond_eq_ite, and_true, true_and, and_false, false_and, or_true, true_or, or_false, false_or, not_true_eq_false, not_false_eq_true, ft_ltT, ft_ltF, ft_eqT, ft_eqF, Bool.false_eq_true, Bool.true_eq_false, Bool.not_true, Bool.not_false, Bool.and_true, Bool.true_and, Bool.and_false, Bool.false_and, decide_true, decide_false, Nat.reduceAdd, Nat.reduceMul, Nat.reduceSub, Nat.reduceEqDiff, Nat.reduceLT, Nat.zero_add, Nat.add_zero, Nat.reduceDiv, Nat.reduceMod, sm_k85 S, sm_R85_1 S, ↓sm_v85_1 S, sm_R85_2 S, ↓sm_v85_2 S, sm_R85_3 S, ↓sm_v85_3 S, sm_R85_4 S, ↓sm_v85_4 S, sm_R85_5 S, ↓sm_v85_5 S, sm_R85_7 S, ↓sm_v85_7 S, sm_R85_11 S, ↓sm_v85_11 S, sm_R85_12 S, ↓sm_v85_12 S, sm_R85_15 S, ↓sm_v85_15 S, sm_R85_16 S, ↓sm_v85_16 S, sm_R85_17 S, ↓sm_v85_17 S, sm_R85_26 S, ↓sm_v85_26 S, sm_R85_29 S, ↓sm_v85_29 S, sm_R85_30 S, ↓sm_v85_30 S, sm_R85_32 S, ↓sm_v85_32 S, sm_R85_33 S, ↓sm_v85_33 S, sm_R85_34 S, ↓sm_v85_34 S, sm_R85_35 S, ↓sm_v85_35 S, sm_R85_36 S, ↓sm_v85_36 S, sm_R85_37 S, ↓sm_v85_37 S, sm_R85_38 S, ↓sm_v85_38 S, sm_R85_40 S, ↓sm_v85_40 S, sm_R85_41 S, ↓sm_v85_41 S, sm_R85_48 S, ↓sm_v85_48 S, sm_R85_49 S, ↓sm_v85_49 S, sm_k86 S, sm_n86 S, sm_k87 S, sm_n87 S, sm_k88 S, sm_n88 S, sm_k89 S, sm_n89 S, sm_k90 S, sm_n90 S, sm_k91 S, sm_n91 S, sm_k92 S, sm_n92 S, sm_k93 S, sm_n93 S, sm_k94 S, sm_n94 S, sm_k95 S, sm_n95 S, sm_k96 S, sm_n96 S, sm_k97 S, sm_n97 S, sm_k98 S, sm_n98 S, sm_k99 S, sm_n99 S, sm_k100 S, sm_n100 S, sm_k101 S, sm_n101 S, sm_k102 S, sm_n102 S, sm_k103 S, sm_n103 S, sm_k104 S, sm_n104 S, sm_k105 S, sm_n105 S, sm_k106 S, sm_n106 S, sm_k107 S, sm_n107 S, sm_k108 S, sm_n108 S, sm_k109 S, sm_n109 S, sm_k110 S, sm_n110 S, N, i1]
def pshU (u : List Ue) (e : Ue) : List Ue := if u.length = 16 then u.tail ++ [e] else u ++ [e]
theorem pshU_len {u : List Ue} {e : Ue} (h : u.length ≤ 16) : (pshU u e).length = if u.length = 16 then 16 else u.length + 1 := by
  unfold pshU
  split
  · rename_i q; rw [List.length_append, List.length_tail, q]; rfl
  · rw [List.length_append]; rfl
theorem pshU_at {u : List Ue} {e : Ue} (h : u.length ≤ 16) {j : Nat} {x : Ue} (q : (pshU u e)[j]? = some x) : (if u.length = 16 then (j < 15 ∧ u[j + 1]? = some x) ∨ (j = 15 ∧ x = e) else (j < u.length ∧ u[j]? = some x) ∨ (j = u.length ∧ x = e)) := by
  unfold pshU at q
  split
  · rename_i w
    rw [if_pos w] at q
    have tl : u.tail.length = 15 := by rw [List.length_tail, w]
    by_cases c : j < 15
    · left
      rw [List.getElem?_append_left (by omega), List.getElem?_tail] at q
      exact ⟨c, q⟩
    · right
      rw [List.getElem?_append_right (by omega), tl] at q
      have : j - 15 = 0 := by
        rcases Nat.eq_zero_or_pos (j - 15) with z | z
        · exact z
        · rw [List.getElem?_eq_none (by show 1 ≤ j - 15; omega)] at q; cases q
      rw [this] at q
      exact ⟨by omega, (Option.some.inj q).symm⟩
  · rename_i w
    rw [if_neg w] at q
    by_cases c : j < u.length
    · left
      rw [List.getElem?_append_left c] at q
      exact ⟨c, q⟩
    · right
      rw [List.getElem?_append_right (by omega)] at q
      have : j - u.length = 0 := by
        rcases Nat.eq_zero_or_pos (j - u.length) with z | z
        · exact z
        · rw [List.getElem?_eq_none (by show 1 ≤ j - u.length; omega)] at q; cases q
      rw [this] at q
      exact ⟨by omega, (Option.some.inj q).symm⟩
theorem M_keeps {F : Nat × Nat} (hF : FF F) {h : jH} {k : Nat → Nat} (S : ShM h) (K : KM h k) {u : List Ue} (U : MU h u) {wt one oth : Nat} : ∃ h', m_M_keeps F 85 (nI wt) h = some (none, h') ∧ jX dKp jN h h' ∧ MU h' (pshU u (k, wt, one, oth)) := by
  have hF1 := hF.1
  obtain ⟨u1, u2, u3⟩ := U
  by_cases c : u.length = 16
  · rw [c] at u1
    obtain ⟨h', e, x, p1, p2, p3, p4⟩ := M_keeps_14 (F := F) hF (k := k) (wt := wt) (g := j_I h 98) 1590 0 F.1 h rfl (by omega) S K u1 (fun i hi => absurd hi (by omega)) (fun i _ => rfl)
    refine ⟨h', by rw [q_M_keeps, if_pos (sm_k85 S), u1, if_pos rfl]; exact e, x, ?_⟩
    refine ⟨by rw [pshU_len u2, if_pos c]; exact p1, by rw [pshU_len u2, if_pos c]; omega, fun j y q => ?_⟩
    have r := pshU_at u2 q
    rw [if_pos c] at r
    rcases r with ⟨r1, r2⟩ | ⟨r1, r2⟩
    · obtain ⟨v1, v2⟩ := u3 (j + 1) y r2
      refine ⟨fun i hi => ?_, ?_⟩
      · rw [p4 _ (by omega)]
        have := v1 i hi
        have e2 : 106 * j + i + 106 = 106 * (j + 1) + i := by omega
        rw [e2]; exact this
      · rw [p4 _ (by omega)]
        have e2 : 106 * j + 105 + 106 = 106 * (j + 1) + 105 := by omega
        rw [e2]; exact v2
    · subst r1; subst r2
      exact ⟨fun i hi => p2 i hi, p3⟩
  · obtain ⟨h', e, x, p1, p2, p3, p4⟩ := M_keeps_54 (F := F) (k := k) (wt := wt) (n := u.length) (by omega) 105 0 F.1 h rfl (by omega) S K u1 (fun i hi => absurd hi (by omega))
    refine ⟨h', by rw [q_M_keeps, if_pos (sm_k85 S), u1, if_neg (by rw [ft_eq (by omega) (by omega)]; exact c)]; exact e, x, ?_⟩
    refine ⟨by rw [pshU_len u2, if_neg c]; exact p1, by rw [pshU_len u2, if_neg c]; omega, fun j y q => ?_⟩
    have r := pshU_at u2 q
    rw [if_neg c] at r
    rcases r with ⟨r1, r2⟩ | ⟨r1, r2⟩
    · obtain ⟨v1, v2⟩ := u3 j y r2
      exact ⟨fun i hi => by rw [p4 _ (by omega)]; exact v1 i hi, by rw [p4 _ (by omega)]; exact v2⟩
    · subst r1; subst r2
      exact ⟨p2, p3⟩
/-- the ring has one more -/
def dD (d p : Nat) : Nat → Nat → Prop := fun a i => (a = d ∧ (i = 8 ∨ i = 9)) ∨ (d < a ∧ a ≤ d + 8 ∧ i = p)
theorem CU.psh {h h' : jH} {d p : Nat} {u : List Ue} {e : Ue} (C : CU h d u) (hp : j_I h d 8 = nI p) (hp2 : p < 16) (x : jX (dD d p) jN h h') (E : CE h' d p e) (n1 : j_I h' d 8 = nI ((p + 1) % 16)) (n2 : j_I h' d 9 = nI (if u.length + 1 < 16 then u.length + 1 else 16)) : CU h' d (pshU u e) := by
  obtain ⟨c1, c2, s, c3, c4, c5⟩ := C
  have ps : p = (s + u.length) % 16 := by
    rw [hp] at c4
    exact (nI_eq (by omega) (by omega)).mp c4
  have fr : ∀ j y, u[j]? = some y → (s + j) % 16 ≠ p → CE h' d ((s + j) % 16) y := by
    intro j y q ne
    have := c5 j y q
    unfold CE at this ⊢
    rw [x.I (fun z => by unfold dD at z; omega), x.I (fun z => by unfold dD at z; omega), x.I (fun z => by unfold dD at z; omega), x.I (fun z => by unfold dD at z; omega), x.I (fun z => by unfold dD at z; omega), x.J (fun z => by unfold dD at z; omega), x.I (fun z => by unfold dD at z; omega), x.J (fun z => by unfold dD at z; omega)]
    exact this
  refine ⟨?_, ?_, ?_⟩
  · rw [n2, pshU_len c2]
    congr 1
    split <;> split <;> omega
  · rw [pshU_len c2]; split <;> omega
  · by_cases c : u.length = 16
    · refine ⟨(s + 1) % 16, by omega, ?_, fun j y q => ?_⟩
      · rw [n1, pshU_len c2, if_pos c]; congr 1; omega
      · have r := pshU_at c2 q
        rw [if_pos c] at r
        rcases r with ⟨r1, r2⟩ | ⟨r1, r2⟩
        · have := fr (j + 1) y r2 (by omega)
          have e2 : ((s + 1) % 16 + j) % 16 = (s + (j + 1)) % 16 := by omega
          rw [e2]; exact this
        · subst r1; subst r2
          have e2 : ((s + 1) % 16 + 15) % 16 = p := by omega
          rw [e2]; exact E
    · refine ⟨s, c3, ?_, fun j y q => ?_⟩
      · rw [n1, pshU_len c2, if_neg c]; congr 1; omega
      · have r := pshU_at c2 q
        rw [if_neg c] at r
        rcases r with ⟨r1, r2⟩ | ⟨r1, r2⟩
        · exact fr j y r2 (by omega)
        · subst r1; subst r2
          have e2 : (s + u.length) % 16 = p := ps.symm
          rw [e2]; exact E
theorem UC.psh {n : Nat} {k k' : Nat → Nat} {u : List Ue} {e : Ue} (he : e.1 = k) : UC n k u → UE1 e k' n → UC n k' (u ++ [e])
  | U, E => by
    induction u with
    | nil => exact ⟨E, True.intro⟩
    | cons x u ih =>
      obtain ⟨U1, U2⟩ := U
      refine ⟨?_, ih U2⟩
      cases u with
      | nil => show UE1 x e.1 n; rw [he]; exact U1
      | cons y u => exact U1
theorem UC.tl {n : Nat} {k : Nat → Nat} {u : List Ue} (U : UC n k u) : UC n k u.tail := by
  cases u with
  | nil => exact True.intro
  | cons x u => exact U.2
theorem UC.pu {n : Nat} {k k' : Nat → Nat} {u : List Ue} {e : Ue} (he : e.1 = k) (U : UC n k u) (E : UE1 e k' n) : UC n k' (pshU u e) := by
  unfold pshU
  split
  · exact UC.psh he U.tl E
  · exact UC.psh he U E
theorem C_jmin {F : Nat × Nat} {h : jH} {a : Nat} (ha : a < 2147483648) : m_Jm_min_II F (nI a) (nI 16) h = some (some (.int (nI (if a < 16 then a else 16))), h) := by
  rw [q_Jm_min_II]
  by_cases q : 16 < a
  · rw [if_pos (by rw [ft_lt (by omega) ha]; exact q), if_neg (by omega)]
  · rw [if_neg (by rw [ft_lt (by omega) ha]; exact q)]
    by_cases q2 : a < 16
    · rw [if_pos q2]
    · rw [if_neg q2]
      have : a = 16 := by omega
      rw [this]
theorem C_jmin_b {F : Nat × Nat} {h : jH} {a : Nat} (ha : a < 2147483648) (ff : Int32 → jH → Option jO) : jbI (m_Jm_min_II F (nI a) (nI 16) h) ff = ff ((nI (if a < 16 then a else 16))) (h) := bI_of (C_jmin (F := F) (h := h) (a := a) (ha := ha)) ff
