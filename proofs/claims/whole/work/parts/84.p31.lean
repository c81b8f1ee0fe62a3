/-! DAYS: THE REFERENCE -/
def dyL : Nat → (Nat → Nat) × Nat × Nat → (Nat → Nat) × Nat × Nat
  | 0, s => s
  | n + 1, s => if s.1 104 < 999 then dyL n (dyK s.1 (drN s.2.1 % s.1 177) (drN (drN s.2.1) % 4 + 1), drN (drN s.2.1), s.2.2 + (dyA s.1 (drN s.2.1 % s.1 177) (drN (drN s.2.1) % 4 + 1)).2) else s
theorem dyL_o : ∀ n (s : (Nat → Nat) × Nat × Nat), WK s.1 → 0 < s.1 177 → (∀ i, 105 ≤ i → (dyL n s).1 i = s.1 i) ∧ WK (dyL n s).1
  | 0, s, W, h => ⟨fun i _ => rfl, W⟩
  | n + 1, s, W, h => by
    unfold dyL
    by_cases c : s.1 104 < 999
    · rw [if_pos c]
      have bm := W.many
      have hw : drN s.2.1 % s.1 177 < 4 := Nat.lt_of_lt_of_le (Nat.mod_lt _ h) bm
      have o := fun i (hi : 105 ≤ i) => dyK_o W (w := drN s.2.1 % s.1 177) (y := drN (drN s.2.1) % 4 + 1) (i := i) hw hi
      have ih := dyL_o n (dyK s.1 (drN s.2.1 % s.1 177) (drN (drN s.2.1) % 4 + 1), drN (drN s.2.1), s.2.2 + (dyA s.1 (drN s.2.1 % s.1 177) (drN (drN s.2.1) % 4 + 1)).2) (dyK_W W hw c) (by show 0 < dyK _ _ _ 177; rw [o 177 (by omega)]; exact h)
      exact ⟨fun i hi => (ih.1 i hi).trans (o i hi), ih.2⟩
    · rw [if_neg c]; exact ⟨fun i _ => rfl, W⟩
theorem M_days_63 {F : Nat × Nat} (hF : FF F) {n : Nat} (hn : n ≤ 60) : ∀ d t f h (k : Nat → Nat) (la all : Nat), t + d = n → d < f → ShM h → KM h k → WK k → SB h → j_I h 85 51 = nI la → la < 2000000 → 0 < k 177 → ∃ h1, m_M_days_63 F f 85 (nI n) (nI all) (nI t) h = m_M_days_98 F F.1 85 (nI (dyL d (k, la, all)).2.2) (nI 0) h1 ∧ jX dDy jN h h1 ∧ SB h1 ∧ KM h1 (dyL d (k, la, all)).1
  | 0, t, f + 1, h, k, la, all, e, _, S, K, W, B, i1, hl, hm => by
    refine ⟨h, ?_, jX.rf, B, K⟩
    rw [q_M_days_63, if_neg (by rw [ft_lt (by omega) (by omega)]; omega)]
    rfl
  | d + 1, t, f + 1, h, k, la, all, e, hf, S, K, W, B, i1, hl, hm => by
    have bn := W.min
    have bm := W.many
    have k104 := km K (i := 104) (by omega) (by omega)
    by_cases c : k 104 < 999
    · have z : dyL (d + 1) (k, la, all) = dyL d (dyK k (drN la % k 177) (drN (drN la) % 4 + 1), drN (drN la), all + (dyA k (drN la % k 177) (drN (drN la) % 4 + 1)).2) := by
        show (if k 104 < 999 then _ else _) = _
        rw [if_pos c]
      rw [z]
      have hw : drN la % k 177 < 4 := Nat.lt_of_lt_of_le (Nat.mod_lt _ hm) bm
      obtain ⟨h2, e2, x2, B2, K2, j2⟩ := M_minute (F := F) hF S K W B hl hm c i1
      have S2 := S.fr x2 (fun _ _ z => z)
      have b2 := drN_lt (drN la)
      obtain ⟨h1, e1, x1, B1, K1⟩ := M_days_63 (F := F) hF hn d (t + 1) f h2 (dyK k (drN la % k 177) (drN (drN la) % 4 + 1)) (drN (drN la)) (all + (dyA k (drN la % k 177) (drN (drN la) % 4 + 1)).2) (by omega) (by omega) S2 K2 (dyK_W W hw c) B2 j2 (by omega) (by rw [dyK_o W hw (by omega)]; exact hm)
      refine ⟨h1, ?_, x2.t x1, B1, K1⟩
      have bb := bI_of e2
      rw [← e1, q_M_days_63, if_pos (by rw [ft_lt (by omega) (by omega)]; omega), if_pos (sm_k85 S), sm_v85_2 S (sR_rfl _ _ rfl), if_pos ⟨Or.inl (sm_k87 S), by rw [ft_in (by omega), sm_n87 S]; omega⟩, ft_cl (by omega), k104, if_pos (by rw [ft_lt (by omega) (by omega)]; exact c), if_pos (sm_k85 S), bb, ft_add, ft_add]
    · have z : dyL (d + 1) (k, la, all) = (k, la, all) := by
        show (if k 104 < 999 then _ else _) = _
        rw [if_neg c]
      rw [z]
      refine ⟨h, ?_, jX.rf, B, K⟩
      rw [q_M_days_63, if_pos (by rw [ft_lt (by omega) (by omega)]; omega), if_pos (sm_k85 S), sm_v85_2 S (sR_rfl _ _ rfl), if_pos ⟨Or.inl (sm_k87 S), by rw [ft_in (by omega), sm_n87 S]; omega⟩, ft_cl (by omega), k104, if_neg (by rw [ft_lt (by omega) (by omega)]; exact c)]
theorem M_aside {F : Nat × Nat} {k : Nat → Nat} {q : Nat} (hq : q < 2) : ∀ d m f h, m + d = 105 → d < f → ShM h → KM h k → (∀ i, i < m → j_I h 90 (105 * q + i) = nI (k i)) → ∃ h', m_M_laysAside_2 F f 85 (nI q) (nI m) h = some (none, h') ∧ jX (fun a _ => a = 90) jN h h' ∧ ∀ i, i < 105 → j_I h' 90 (105 * q + i) = nI (k i)
  | 0, m, f + 1, h, e, _, S, K, V => by
    have : m = 105 := by omega
    subst this
    refine ⟨h, ?_, jX.rf, V⟩
    rw [q_M_laysAside_2, if_neg (by rw [ft_lt (by omega) (by omega)]; omega)]
  | d + 1, m, f + 1, h, e, hf, S, K, V => by
    have i1 := km K (i := m) (by omega) (by omega)
    have x0 : jX (fun a _ => a = 90) jN h (j_sI h 90 (105 * q + m) (nI (k m))) := jX.rf.sI rfl
    obtain ⟨h', e1, x1, V1⟩ := M_aside (F := F) (k := k) hq d (m + 1) f (j_sI h 90 (105 * q + m) (nI (k m))) (by omega) (by omega) (S.fr x0 (fun _ _ z => z)) (K.oth (by omega)) (fun i hi => by
      by_cases w : i = m
      · rw [w, I_sIe]
      · rw [I_sIk (by omega)]; exact V i (by omega))
    refine ⟨h', ?_, x0.t x1, V1⟩
    rw [← e1, q_M_laysAside_2]
    simp (disch := first | exact sR_rfl _ _ rfl | omega) only [ft_lit, ft_m1, ft_m2, ft_m3, ft_m5, ft_m6, ft_cl, ft_lt, ft_le, ft_eq, ft_mlt, ft_ltm, ft_mltm, ft_meq, ft_eqm, ft_meqm, ft_add, ft_mul, ft_sub, ft_nm, ft_m1p, ft_and, ft_or, ft_31, ft_shl, ft_shr, ft_bz, ft_z0, ft_z1, ft_z01, ft_bb, ft_zt, ft_zf, ft_or0, ft_rv, ft_rvr, ft_rf, ft_rfn, ft_bI, ft_bJ, ft_bV, ft_bR, ft_bRn, ft_isr, ft_isn, ft_ifn, ft_ifr, ft_ov, ft_ovn, ft_in, k_sI, n_sI, R_sI, J_sI, c_sI, z_sI, k_sJ, n_sJ, R_sJ, I_sJ, c_sJ, z_sJ, k_sR, n_sR, I_sR, J_sR, c_sR, z_sR, k_wI, n_wI, R_wI, J_wI, I_wIe, k_wJ, n_wJ, R_wJ, I_wJ, J_wJe, I_wIn, J_wJn, I_sIe, J_sJe, R_sRe, I_sIn, I_sIk, J_sJn, J_sJk, R_sRn, R_sRk, eq_self, if_true, if_false, ↓reduceIte, cond_true, cond_false, ↓cond_eq_ite, and_true, true_and, and_false, false_and, or_true, true_or, or_false, false_or, not_true_eq_false, not_false_eq_true, ft_ltT, ft_ltF, ft_eqT, ft_eqF, Bool.false_eq_true, Bool.true_eq_false, Bool.not_true, Bool.not_false, Bool.and_true, Bool.true_and, Bool.and_false, Bool.false_and, decide_true, decide_false, Nat.reduceAdd, Nat.reduceMul, Nat.reduceSub, Nat.reduceEqDiff, Nat.reduceLT, Nat.zero_add, Nat.add_zero, Nat.reduceDiv, Nat.reduceMod, sm_k85 S, sm_R85_1 S, ↓sm_v85_1 S, sm_R85_2 S, ↓sm_v85_2 S, sm_R85_3 S, ↓sm_v85_3 S, sm_R85_4 S, ↓sm_v85_4 S, sm_R85_5 S, ↓sm_v85_5 S, sm_R85_7 S, ↓sm_v85_7 S, sm_R85_11 S, ↓sm_v85_11 S, sm_R85_12 S, ↓sm_v85_12 S, sm_R85_15 S, ↓sm_v85_15 S, sm_R85_16 S, ↓sm_v85_16 S, sm_R85_17 S, ↓sm_v85_17 S, sm_R85_26 S, ↓sm_v85_26 S, sm_R85_29 S, ↓sm_v85_29 S, sm_R85_30 S, ↓sm_v85_30 S, sm_R85_32 S, ↓sm_v85_32 S, sm_R85_33 S, ↓sm_v85_33 S, sm_R85_34 S, ↓sm_v85_34 S, sm_R85_35 S, ↓sm_v85_35 S, sm_R85_36 S, ↓sm_v85_36 S, sm_R85_37 S, ↓sm_v85_37 S, sm_R85_38 S, ↓sm_v85_38 S, sm_R85_40 S, ↓sm_v85_40 S, sm_R85_41 S, ↓sm_v85_41 S, sm_R85_48 S, ↓sm_v85_48 S, sm_R85_49 S, ↓sm_v85_49 S, sm_k86 S, sm_n86 S, sm_k87 S, sm_n87 S, sm_k88 S, sm_n88 S, sm_k89 S, sm_n89 S, sm_k90 S, sm_n90 S, sm_k91 S, sm_n91 S, sm_k92 S, sm_n92 S, sm_k93 S, sm_n93 S, sm_k94 S, sm_n94 S, sm_k95 S, sm_n95 S, sm_k96 S, sm_n96 S, sm_k97 S, sm_n97 S, sm_k98 S, sm_n98 S, sm_k99 S, sm_n99 S, sm_k100 S, sm_n100 S, sm_k101 S, sm_n101 S, sm_k102 S, sm_n102 S, sm_k103 S, sm_n103 S, sm_k104 S, sm_n104 S, sm_k105 S, sm_n105 S, sm_k106 S, sm_n106 S, sm_k107 S, sm_n107 S, sm_k108 S, sm_n108 S, sm_k109 S, sm_n109 S, sm_k110 S, sm_n110 S, i1]
theorem M_takes {F : Nat × Nat} {k r : Nat → Nat} {q : Nat} (hq : q < 2) : ∀ d m f h, m + d = 105 → d < f → ShM h → KM h (fun i => if i < m then r i else k i) → (∀ i, i < 105 → j_I h 90 (105 * q + i) = nI (r i)) → ∃ h', m_M_takesBack_2 F f 85 (nI q) (nI m) h = some (none, h') ∧ jX d87 jN h h' ∧ KM h' (bkK k r)
  | 0, m, f + 1, h, e, _, S, K, V => by
    have : m = 105 := by omega
    subst this
    refine ⟨h, ?_, jX.rf, K⟩
    rw [q_M_takesBack_2, if_neg (by rw [ft_lt (by omega) (by omega)]; omega)]
  | d + 1, m, f + 1, h, e, hf, S, K, V => by
    have v1 := V m (by omega)
    have x0 : jX d87 jN h (j_sI h 87 m (nI (r m))) := jX.rf.sI rfl
    have K1 : KM (j_sI h 87 m (nI (r m))) (fun i => if i < m + 1 then r i else k i) := by
      have K0 := K.set (i := m) (n := r m) (by omega)
      have z : (fun i => if i < m + 1 then r i else k i) = va_up (fun i => if i < m then r i else k i) m (r m) := by
        funext i
        by_cases q : i = m
        · rw [q, va_e, if_pos (by omega)]
        · rw [va_n q]
          by_cases q2 : i < m
          · rw [if_pos q2, if_pos (by omega)]
          · rw [if_neg q2, if_neg (by omega)]
      rw [z]; exact K0
    obtain ⟨h', e1, x1, K2⟩ := M_takes (F := F) (k := k) (r := r) hq d (m + 1) f (j_sI h 87 m (nI (r m))) (by omega) (by omega) (S.fr x0 (fun _ _ z => z)) K1 (fun i hi => by rw [I_sIn (by omega)]; exact V i hi)
    refine ⟨h', ?_, x0.t x1, K2⟩
    rw [← e1, q_M_takesBack_2]
    simp (disch := first | exact sR_rfl _ _ rfl | omega) only [ft_lit, ft_m1, ft_m2, ft_m3, ft_m5, ft_m6, ft_cl, ft_lt, ft_le, ft_eq, ft_mlt, ft_ltm, ft_mltm, ft_meq, ft_eqm, ft_meqm, ft_add, ft_mul, ft_sub, ft_nm, ft_m1p, ft_and, ft_or, ft_31, ft_shl, ft_shr, ft_bz, ft_z0, ft_z1, ft_z01, ft_bb, ft_zt, ft_zf, ft_or0, ft_rv, ft_rvr, ft_rf, ft_rfn, ft_bI, ft_bJ, ft_bV, ft_bR, ft_bRn, ft_isr, ft_isn, ft_ifn, ft_ifr, ft_ov, ft_ovn, ft_in, k_sI, n_sI, R_sI, J_sI, c_sI, z_sI, k_sJ, n_sJ, R_sJ, I_sJ, c_sJ, z_sJ, k_sR, n_sR, I_sR, J_sR, c_sR, z_sR, k_wI, n_wI, R_wI, J_wI, I_wIe, k_wJ, n_wJ, R_wJ, I_wJ, J_wJe, I_wIn, J_wJn, I_sIe, J_sJe, R_sRe, I_sIn, I_sIk, J_sJn, J_sJk, R_sRn, R_sRk, eq_self, if_true, if_false, ↓reduceIte, cond_true, cond_false, ↓cond_eq_ite, and_true, true_and, and_false, false_and, or_true, true_or, or_false, false_or, not_true_eq_false, not_false_eq_true, ft_ltT, ft_ltF, ft_eqT, ft_eqF, Bool.false_eq_true, Bool.true_eq_false, Bool.not_true, Bool.not_false, Bool.and_true, Bool.true_and, Bool.and_false, Bool.false_and, decide_true, decide_false, Nat.reduceAdd, Nat.reduceMul, Nat.reduceSub, Nat.reduceEqDiff, Nat.reduceLT, Nat.zero_add, Nat.add_zero, Nat.reduceDiv, Nat.reduceMod, sm_k85 S, sm_R85_1 S, ↓sm_v85_1 S, sm_R85_2 S, ↓sm_v85_2 S, sm_R85_3 S, ↓sm_v85_3 S, sm_R85_4 S, ↓sm_v85_4 S, sm_R85_5 S, ↓sm_v85_5 S, sm_R85_7 S, ↓sm_v85_7 S, sm_R85_11 S, ↓sm_v85_11 S, sm_R85_12 S, ↓sm_v85_12 S, sm_R85_15 S, ↓sm_v85_15 S, sm_R85_16 S, ↓sm_v85_16 S, sm_R85_17 S, ↓sm_v85_17 S, sm_R85_26 S, ↓sm_v85_26 S, sm_R85_29 S, ↓sm_v85_29 S, sm_R85_30 S, ↓sm_v85_30 S, sm_R85_32 S, ↓sm_v85_32 S, sm_R85_33 S, ↓sm_v85_33 S, sm_R85_34 S, ↓sm_v85_34 S, sm_R85_35 S, ↓sm_v85_35 S, sm_R85_36 S, ↓sm_v85_36 S, sm_R85_37 S, ↓sm_v85_37 S, sm_R85_38 S, ↓sm_v85_38 S, sm_R85_40 S, ↓sm_v85_40 S, sm_R85_41 S, ↓sm_v85_41 S, sm_R85_48 S, ↓sm_v85_48 S, sm_R85_49 S, ↓sm_v85_49 S, sm_k86 S, sm_n86 S, sm_k87 S, sm_n87 S, sm_k88 S, sm_n88 S, sm_k89 S, sm_n89 S, sm_k90 S, sm_n90 S, sm_k91 S, sm_n91 S, sm_k92 S, sm_n92 S, sm_k93 S, sm_n93 S, sm_k94 S, sm_n94 S, sm_k95 S, sm_n95 S, sm_k96 S, sm_n96 S, sm_k97 S, sm_n97 S, sm_k98 S, sm_n98 S, sm_k99 S, sm_n99 S, sm_k100 S, sm_n100 S, sm_k101 S, sm_n101 S, sm_k102 S, sm_n102 S, sm_k103 S, sm_n103 S, sm_k104 S, sm_n104 S, sm_k105 S, sm_n105 S, sm_k106 S, sm_n106 S, sm_k107 S, sm_n107 S, sm_k108 S, sm_n108 S, sm_k109 S, sm_n109 S, sm_k110 S, sm_n110 S, v1]
theorem M_days_98 {F : Nat × Nat} (hF : FF F) {k r : Nat → Nat} {all : Nat} : ∀ d m f h, m + d = 105 → d < f → ShM h → KM h k → (∀ i, i < 105 → j_I h 90 i = nI (r i)) → (∀ i, i < m → j_I h 110 i = nI (k i)) → ∃ h1, m_M_days_98 F f 85 (nI all) (nI m) h = m_M_good F 85 (nI all) h1 ∧ jX (fun a _ => a = 87 ∨ a = 110) jN h h1 ∧ KM h1 (bkK k r) ∧ ∀ i, i < 105 → j_I h1 110 i = nI (k i)
  | 0, m, f + 1, h, e, _, S, K, A, V => by
    have hF1 := hF.1
    have : m = 105 := by omega
    subst this
    obtain ⟨h', e1, x1, K1⟩ := M_takes (F := F) (k := k) (r := r) (q := 0) (by omega) 105 0 F.1 h rfl (by omega) S (by
      have z : (fun i => if i < 0 then r i else k i) = k := by funext i; rw [if_neg (by omega)]
      rw [z]; exact K) (fun i hi => by rw [Nat.mul_zero, Nat.zero_add]; exact A i hi)
    have S1 := S.fr x1 (fun _ _ z => z)
    refine ⟨h', ?_, x1.up (fun a i d => Or.inl d) (fun _ _ z => z), K1, fun i hi => by rw [x1.I (by unfold d87; omega)]; exact V i hi⟩
    have tb : m_M_takesBack F 85 (nI 0) h = some (none, h') := e1
    rw [q_M_days_98, if_neg (by rw [ft_lt (by omega) (by omega)]; omega), if_pos (sm_k85 S), bV_of tb, if_pos (sm_k85 S1), bI_eta (M_good S1 _), M_good S1]
  | d + 1, m, f + 1, h, e, hf, S, K, A, V => by
    have i1 := km K (i := m) (by omega) (by omega)
    have x0 : jX (fun a _ => a = 87 ∨ a = 110) jN h (j_sI h 110 m (nI (k m))) := jX.rf.sI (by omega)
    obtain ⟨h1, e1, x1, K1, V1⟩ := M_days_98 (F := F) hF (k := k) (r := r) (all := all) d (m + 1) f (j_sI h 110 m (nI (k m))) (by omega) (by omega) (S.fr x0 (fun _ _ z => z)) (K.oth (by omega)) (fun i hi => by rw [I_sIn (by omega)]; exact A i hi) (fun i hi => by
      by_cases w : i = m
      · rw [w, I_sIe]
      · rw [I_sIk w]; exact V i (by omega))
    refine ⟨h1, ?_, x0.t x1, K1, V1⟩
    rw [← e1, q_M_days_98]
    simp (disch := first | exact sR_rfl _ _ rfl | omega) only [ft_lit, ft_m1, ft_m2, ft_m3, ft_m5, ft_m6, ft_cl, ft_lt, ft_le, ft_eq, ft_mlt, ft_ltm, ft_mltm, ft_meq, ft_eqm, ft_meqm, ft_add, ft_mul, ft_sub, ft_nm, ft_m1p, ft_and, ft_or, ft_31, ft_shl, ft_shr, ft_bz, ft_z0, ft_z1, ft_z01, ft_bb, ft_zt, ft_zf, ft_or0, ft_rv, ft_rvr, ft_rf, ft_rfn, ft_bI, ft_bJ, ft_bV, ft_bR, ft_bRn, ft_isr, ft_isn, ft_ifn, ft_ifr, ft_ov, ft_ovn, ft_in, k_sI, n_sI, R_sI, J_sI, c_sI, z_sI, k_sJ, n_sJ, R_sJ, I_sJ, c_sJ, z_sJ, k_sR, n_sR, I_sR, J_sR, c_sR, z_sR, k_wI, n_wI, R_wI, J_wI, I_wIe, k_wJ, n_wJ, R_wJ, I_wJ, J_wJe, I_wIn, J_wJn, I_sIe, J_sJe, R_sRe, I_sIn, I_sIk, J_sJn, J_sJk, R_sRn, R_sRk, eq_self, if_true, if_false, ↓reduceIte, cond_true, cond_false, ↓cond_eq_ite, and_true, true_and, and_false, false_and, or_true, true_or, or_false, false_or, not_true_eq_false, not_false_eq_true, ft_ltT, ft_ltF, ft_eqT, ft_eqF, Bool.false_eq_true, Bool.true_eq_false, Bool.not_true, Bool.not_false, Bool.and_true, Bool.true_and, Bool.and_false, Bool.false_and, decide_true, decide_false, Nat.reduceAdd, Nat.reduceMul, Nat.reduceSub, Nat.reduceEqDiff, Nat.reduceLT, Nat.zero_add, Nat.add_zero, Nat.reduceDiv, Nat.reduceMod, sm_k85 S, sm_R85_1 S, ↓sm_v85_1 S, sm_R85_2 S, ↓sm_v85_2 S, sm_R85_3 S, ↓sm_v85_3 S, sm_R85_4 S, ↓sm_v85_4 S, sm_R85_5 S, ↓sm_v85_5 S, sm_R85_7 S, ↓sm_v85_7 S, sm_R85_11 S, ↓sm_v85_11 S, sm_R85_12 S, ↓sm_v85_12 S, sm_R85_15 S, ↓sm_v85_15 S, sm_R85_16 S, ↓sm_v85_16 S, sm_R85_17 S, ↓sm_v85_17 S, sm_R85_26 S, ↓sm_v85_26 S, sm_R85_29 S, ↓sm_v85_29 S, sm_R85_30 S, ↓sm_v85_30 S, sm_R85_32 S, ↓sm_v85_32 S, sm_R85_33 S, ↓sm_v85_33 S, sm_R85_34 S, ↓sm_v85_34 S, sm_R85_35 S, ↓sm_v85_35 S, sm_R85_36 S, ↓sm_v85_36 S, sm_R85_37 S, ↓sm_v85_37 S, sm_R85_38 S, ↓sm_v85_38 S, sm_R85_40 S, ↓sm_v85_40 S, sm_R85_41 S, ↓sm_v85_41 S, sm_R85_48 S, ↓sm_v85_48 S, sm_R85_49 S, ↓sm_v85_49 S, sm_k86 S, sm_n86 S, sm_k87 S, sm_n87 S, sm_k88 S, sm_n88 S, sm_k89 S, sm_n89 S, sm_k90 S, sm_n90 S, sm_k91 S, sm_n91 S, sm_k92 S, sm_n92 S, sm_k93 S, sm_n93 S, sm_k94 S, sm_n94 S, sm_k95 S, sm_n95 S, sm_k96 S, sm_n96 S, sm_k97 S, sm_n97 S, sm_k98 S, sm_n98 S, sm_k99 S, sm_n99 S, sm_k100 S, sm_n100 S, sm_k101 S, sm_n101 S, sm_k102 S, sm_n102 S, sm_k103 S, sm_n103 S, sm_k104 S, sm_n104 S, sm_k105 S, sm_n105 S, sm_k106 S, sm_n106 S, sm_k107 S, sm_n107 S, sm_k108 S, sm_n108 S, sm_k109 S, sm_n109 S, sm_k110 S, sm_n110 S, i1]
