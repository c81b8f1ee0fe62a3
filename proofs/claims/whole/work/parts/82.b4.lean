/-! THE REFERENCE STEPS AND JOINS -/
def cst (k : Nat → Nat) (q w fr to : Nat) : Nat := lwT k q 1 w fr to 1 9 1
def sgt (k : Nat → Nat) (q w c : Nat) : Nat := lwT k q 2 w c c 0 3 1
theorem cst_b (k : Nat → Nat) (q w fr to : Nat) : 1 ≤ cst k q w fr to ∧ cst k q w fr to ≤ 9 := by
  unfold cst lwT
  split
  · omega
  · exact h_fold_b (by omega) _ _ (by omega)
theorem sgt_b (k : Nat → Nat) (q w c : Nat) : sgt k q w c ≤ 3 := by
  unfold sgt lwT
  split
  · omega
  · exact (h_fold_b (by omega) _ _ (by omega)).2
theorem lE_e {k k' : Nat → Nat} (a : ∀ i, 104 ≤ i → k' i = k i) {w fr to : Nat} (s : k' (4 + 25 * w + to) = k (4 + 25 * w + to)) : lE k' w fr to = lE k w fr to := by
  funext c i
  unfold lE
  rw [a (130 + to) (by omega), a (130 + fr) (by omega), s, a (155 + w) (by omega), a 176 (by omega), a (105 + to) (by omega), a 104 (by omega)]
theorem lwT_e {k k' : Nat → Nat} (a : ∀ i, 104 ≤ i → k' i = k i) {q hd w fr to lo hi wo : Nat} (s : k' (4 + 25 * w + to) = k (4 + 25 * w + to)) : lwT k' q hd w fr to lo hi wo = lwT k q hd w fr to lo hi wo := by
  unfold lwT
  rw [lE_e a s, (kOK_e (fun i hi => a i (by omega)) (q - 1)).2.1]
theorem ShM.fr {D E : Nat → Nat → Prop} {h h' : jH} (S : ShM h) (x : jX D E h h') (e : ∀ a i, ¬ E a i) : ShM h' := by
  unfold ShM at S ⊢
  simp only [x.k, x.n, x.R (e _ _)]
  exact S
theorem KM.dt {h h' : jH} {k : Nat → Nat} (K : KM h k) (x : jX dT jN h h') : KM h' k := K.fr x (fun a i d => by unfold dT at d; omega)
theorem M_costOf {F : Nat × Nat} (hF : FF F) {h : jH} {k : Nat → Nat} (S : ShM h) (K : KM h k) (W : WK k) (B : SB h) {w fr to : Nat} (hw : w < 4) (hf : fr < 25) (ht : to < 25) : ∃ h', m_M_costOf F 85 (nI w) (nI fr) (nI to) h = some (some (.int (nI (cst k (k 180) w fr to))), h') ∧ jX dT jN h h' ∧ SB h' := by
  obtain ⟨h', e, x, b⟩ := M_tells hF S K W B (head := 1) (lo := 1) (hi := 9) (wo := 1) hw hf ht (by omega) (by omega) (by omega) (by omega)
  exact ⟨h', by rw [q_M_costOf, if_pos (sm_k85 S), bI_of e]; rfl, x, b⟩
theorem M_seesFrom {F : Nat × Nat} (hF : FF F) {h : jH} {k : Nat → Nat} (S : ShM h) (K : KM h k) (W : WK k) (B : SB h) {w c : Nat} (hw : w < 4) (hc : c < 25) : ∃ h', m_M_seesFrom F 85 (nI w) (nI c) h = some (some (.int (nI (sgt k (k 180) w c))), h') ∧ jX dT jN h h' ∧ SB h' := by
  obtain ⟨h', e, x, b⟩ := M_tells hF S K W B (head := 2) (lo := 0) (hi := 3) (wo := 1) hw hc hc (by omega) (by omega) (by omega) (by omega)
  exact ⟨h', by rw [q_M_seesFrom, if_pos (sm_k85 S), bI_of e]; rfl, x, b⟩
theorem M_isBarred {F : Nat × Nat} (hF : FF F) {h : jH} {k : Nat → Nat} (S : ShM h) (K : KM h k) (W : WK k) (B : SB h) {w fr to : Nat} (hw : w < 4) (hf : fr < 25) (ht : to < 25) : ∃ h', m_M_isBarred F 85 (nI w) (nI fr) (nI to) h = some (some (.int (nI (ft_z (lwB k (k 180) w fr to)))), h') ∧ jX dT jN h h' ∧ SB h' := by
  obtain ⟨h', e, x, b⟩ := M_tells hF S K W B (head := 3) (lo := 0) (hi := 1) (wo := 0) hw hf ht (by omega) (by omega) (by omega) (by omega)
  refine ⟨h', ?_, x, b⟩
  rw [S_lw, lwT_B] at e
  rw [q_M_isBarred, if_pos (sm_k85 S), bI_of e]
  cases lwB k (k 180) w fr to
  · rw [if_neg (by decide)]; rfl
  · exact if_pos rfl
theorem M_seen_13 {F : Nat × Nat} {h : jH} {c far : Nat} (hc : c < 25) (hf : far < 100) : ∀ d n f, n + d = 25 → d < f → m_M_seenFrom_13 F f (nI c) (nI far) (nI (ft_bs (sgS c far) n)) (nI n) h = some (some (.int (nI (ft_bs (sgS c far) 25))), h)
  | 0, n, f + 1, e, _ => by
    have : n = 25 := by omega
    subst this
    rw [q_M_seenFrom_13]
    simp (disch := first | exact sR_rfl _ _ rfl | omega) only [ft_lit, ft_m1, ft_m2, ft_m3, ft_m5, ft_m6, ft_cl, ft_lt, ft_le, ft_eq, ft_mlt, ft_ltm, ft_mltm, ft_meq, ft_eqm, ft_meqm, ft_add, ft_mul, ft_sub, ft_nm, ft_m1p, ft_and, ft_or, ft_31, ft_shl, ft_shr, ft_bz, ft_z0, ft_z1, ft_z01, ft_bb, ft_zt, ft_zf, ft_or0, ft_rv, ft_rvr, ft_rf, ft_rfn, ft_bI, ft_bJ, ft_bV, ft_bR, ft_bRn, ft_isr, ft_isn, ft_ifn, ft_ifr, ft_ov, ft_ovn, ft_in, k_sI, n_sI, R_sI, J_sI, c_sI, z_sI, k_sJ, n_sJ, R_sJ, I_sJ, c_sJ, z_sJ, k_sR, n_sR, I_sR, J_sR, c_sR, z_sR, k_wI, n_wI, R_wI, J_wI, I_wIe, k_wJ, n_wJ, R_wJ, I_wJ, J_wJe, I_wIn, J_wJn, I_sIe, J_sJe, R_sRe, I_sIn, I_sIk, J_sJn, J_sJk, R_sRn, R_sRk, eq_self, if_true, if_false, ↓reduceIte, cond_true, cond_false, ↓cond_eq_ite, and_true, true_and, and_false, false_and, or_true, true_or, or_false, false_or, not_true_eq_false, not_false_eq_true, ft_ltT, ft_ltF, ft_eqT, ft_eqF, Bool.false_eq_true, Bool.true_eq_false, Bool.not_true, Bool.not_false, Bool.and_true, Bool.true_and, Bool.and_false, Bool.false_and, decide_true, decide_false, Nat.reduceAdd, Nat.reduceMul, Nat.reduceSub, Nat.reduceEqDiff, Nat.reduceLT, Nat.zero_add, Nat.add_zero, Nat.reduceDiv, Nat.reduceMod]
  | d + 1, n, f + 1, e, hf1 => by
    have ih := M_seen_13 (F := F) (h := h) hc hf d (n + 1) f (by omega) (by omega)
    have a1 := bI_of (M_steps (F := F) (h := h) (a := c) (b := n) hc (by omega))
    have e31 : n &&& 31 = n := ft_31 (by omega)
    have ub : ft_ds c n < 100 := by unfold ft_ds; omega
    rw [ft_bs_s _ n] at ih
    by_cases q : ft_ds c n ≤ far
    · have s : sgS c far n = true := decide_eq_true q
      rw [s, if_pos rfl] at ih
      rw [← ih, q_M_seenFrom_13]
      simp (disch := first | exact sR_rfl _ _ rfl | omega) only [ft_lit, ft_m1, ft_m2, ft_m3, ft_m5, ft_m6, ft_cl, ft_lt, ft_le, ft_eq, ft_mlt, ft_ltm, ft_mltm, ft_meq, ft_eqm, ft_meqm, ft_add, ft_mul, ft_sub, ft_nm, ft_m1p, ft_and, ft_or, ft_31, ft_shl, ft_shr, ft_bz, ft_z0, ft_z1, ft_z01, ft_bb, ft_zt, ft_zf, ft_or0, ft_rv, ft_rvr, ft_rf, ft_rfn, ft_bI, ft_bJ, ft_bV, ft_bR, ft_bRn, ft_isr, ft_isn, ft_ifn, ft_ifr, ft_ov, ft_ovn, ft_in, k_sI, n_sI, R_sI, J_sI, c_sI, z_sI, k_sJ, n_sJ, R_sJ, I_sJ, c_sJ, z_sJ, k_sR, n_sR, I_sR, J_sR, c_sR, z_sR, k_wI, n_wI, R_wI, J_wI, I_wIe, k_wJ, n_wJ, R_wJ, I_wJ, J_wJe, I_wIn, J_wJn, I_sIe, J_sJe, R_sRe, I_sIn, I_sIk, J_sJn, J_sJk, R_sRn, R_sRk, eq_self, if_true, if_false, ↓reduceIte, cond_true, cond_false, ↓cond_eq_ite, and_true, true_and, and_false, false_and, or_true, true_or, or_false, false_or, not_true_eq_false, not_false_eq_true, ft_ltT, ft_ltF, ft_eqT, ft_eqF, Bool.false_eq_true, Bool.true_eq_false, Bool.not_true, Bool.not_false, Bool.and_true, Bool.true_and, Bool.and_false, Bool.false_and, decide_true, decide_false, Nat.reduceAdd, Nat.reduceMul, Nat.reduceSub, Nat.reduceEqDiff, Nat.reduceLT, Nat.zero_add, Nat.add_zero, Nat.reduceDiv, Nat.reduceMod, e31, ↓a1]
    · have s : sgS c far n = false := decide_eq_false q
      rw [s, if_neg (by decide)] at ih
      rw [← ih, q_M_seenFrom_13]
      simp (disch := first | exact sR_rfl _ _ rfl | omega) only [ft_lit, ft_m1, ft_m2, ft_m3, ft_m5, ft_m6, ft_cl, ft_lt, ft_le, ft_eq, ft_mlt, ft_ltm, ft_mltm, ft_meq, ft_eqm, ft_meqm, ft_add, ft_mul, ft_sub, ft_nm, ft_m1p, ft_and, ft_or, ft_31, ft_shl, ft_shr, ft_bz, ft_z0, ft_z1, ft_z01, ft_bb, ft_zt, ft_zf, ft_or0, ft_rv, ft_rvr, ft_rf, ft_rfn, ft_bI, ft_bJ, ft_bV, ft_bR, ft_bRn, ft_isr, ft_isn, ft_ifn, ft_ifr, ft_ov, ft_ovn, ft_in, k_sI, n_sI, R_sI, J_sI, c_sI, z_sI, k_sJ, n_sJ, R_sJ, I_sJ, c_sJ, z_sJ, k_sR, n_sR, I_sR, J_sR, c_sR, z_sR, k_wI, n_wI, R_wI, J_wI, I_wIe, k_wJ, n_wJ, R_wJ, I_wJ, J_wJe, I_wIn, J_wJn, I_sIe, J_sJe, R_sRe, I_sIn, I_sIk, J_sJn, J_sJk, R_sRn, R_sRk, eq_self, if_true, if_false, ↓reduceIte, cond_true, cond_false, ↓cond_eq_ite, and_true, true_and, and_false, false_and, or_true, true_or, or_false, false_or, not_true_eq_false, not_false_eq_true, ft_ltT, ft_ltF, ft_eqT, ft_eqF, Bool.false_eq_true, Bool.true_eq_false, Bool.not_true, Bool.not_false, Bool.and_true, Bool.true_and, Bool.and_false, Bool.false_and, decide_true, decide_false, Nat.reduceAdd, Nat.reduceMul, Nat.reduceSub, Nat.reduceEqDiff, Nat.reduceLT, Nat.zero_add, Nat.add_zero, Nat.reduceDiv, Nat.reduceMod, e31, ↓a1]
theorem M_seenFrom {F : Nat × Nat} (hF : FF F) {h : jH} {k : Nat → Nat} (S : ShM h) (K : KM h k) (W : WK k) (B : SB h) {w c : Nat} (hw : w < 4) (hc : c < 25) : ∃ h', m_M_seenFrom F 85 (nI w) (nI c) h = some (some (.int (nI (ft_bs (sgS c (sgt k (k 180) w c)) 25))), h') ∧ jX dT jN h h' ∧ SB h' := by
  obtain ⟨h', e, x, b⟩ := M_seesFrom hF S K W B hw hc
  have hF1 := hF.1
  have sb := sgt_b k (k 180) w c
  exact ⟨h', by rw [q_M_seenFrom, if_pos (sm_k85 S), bI_of e]; exact M_seen_13 hc (by omega) 25 0 F.1 rfl (by omega), x, b⟩
def cnS (k : Nat → Nat) (w way : Nat) : Bool := match ft_nb (k w) way with
  | none => false
  | some to => !lwB k (k 180) w (k w) to
theorem cnS_n {k : Nat → Nat} {w way : Nat} (q : ft_nb (k w) way = none) : cnS k w way = false := by unfold cnS; rw [q]
theorem cnS_s {k : Nat → Nat} {w way to : Nat} (q : ft_nb (k w) way = some to) : cnS k w way = !lwB k (k 180) w (k w) to := by unfold cnS; rw [q]
theorem M_canStep {F : Nat × Nat} (hF : FF F) {h : jH} {k : Nat → Nat} (S : ShM h) (K : KM h k) (W : WK k) (B : SB h) {w way : Nat} (hw : w < 4) (hy : way < 5) : ∃ h', m_M_canStep F 85 (nI w) (nI way) h = some (some (.int (nI (ft_z (cnS k w way)))), h') ∧ jX dT jN h h' ∧ SB h' := by
  have s0 := W.spot hw
  have sp := bI_of (M_spotOf (F := F) S K hw)
  have ca := bI_of (M_cellAt (F := F) (h := h) (c := k w) (w := way) s0 hy)
  cases q : ft_nb (k w) way with
  | none =>
    rw [q] at ca
    refine ⟨h, ?_, jX.rf, B⟩
    rw [cnS_n q, q_M_canStep, if_pos (sm_k85 S), sp, ca]
    exact if_pos rfl
  | some to =>
    rw [q] at ca
    have ht := ft_nb_lt s0 q
    obtain ⟨h', e, x, b⟩ := M_isBarred hF S K W B (w := w) (fr := k w) (to := to) hw s0 ht
    refine ⟨h', ?_, x, b⟩
    have eo : oI (some to) = nI to := rfl
    rw [eo] at ca
    rw [cnS_s q, q_M_canStep, if_pos (sm_k85 S), sp, ca, if_neg (by rw [ft_eqm (by omega) (by omega)]; exact fun z => z), if_pos (sm_k85 S), sp, if_pos (sm_k85 S), bI_of e]
    cases lwB k (k 180) w (k w) to
    · exact if_pos rfl
    · exact if_neg (by decide)
def d87 : Nat → Nat → Prop := fun a _ => a = 87
theorem M_step_43 {F : Nat × Nat} {k : Nat → Nat} (W : WK k) {w set r : Nat} (hw : w < 4) (hs : set < 33554432) : ∀ d n f h, n + d = 25 → d < f → ShM h → KM h (mkS k w set.testBit n) → ∃ h', m_M_stepNow_43 F f 85 (nI w) (nI r) (nI set) (nI n) h = some (some (.int (nI r)), h') ∧ jX d87 jN h h' ∧ KM h' (mkS k w set.testBit 25)
  | 0, n, f + 1, h, e, _, S, K => by
    have : n = 25 := by omega
    subst this
    refine ⟨h, ?_, jX.rf, K⟩
    rw [q_M_stepNow_43]
    simp (disch := first | exact sR_rfl _ _ rfl | omega) only [ft_lit, ft_m1, ft_m2, ft_m3, ft_m5, ft_m6, ft_cl, ft_lt, ft_le, ft_eq, ft_mlt, ft_ltm, ft_mltm, ft_meq, ft_eqm, ft_meqm, ft_add, ft_mul, ft_sub, ft_nm, ft_m1p, ft_and, ft_or, ft_31, ft_shl, ft_shr, ft_bz, ft_z0, ft_z1, ft_z01, ft_bb, ft_zt, ft_zf, ft_or0, ft_rv, ft_rvr, ft_rf, ft_rfn, ft_bI, ft_bJ, ft_bV, ft_bR, ft_bRn, ft_isr, ft_isn, ft_ifn, ft_ifr, ft_ov, ft_ovn, ft_in, k_sI, n_sI, R_sI, J_sI, c_sI, z_sI, k_sJ, n_sJ, R_sJ, I_sJ, c_sJ, z_sJ, k_sR, n_sR, I_sR, J_sR, c_sR, z_sR, k_wI, n_wI, R_wI, J_wI, I_wIe, k_wJ, n_wJ, R_wJ, I_wJ, J_wJe, I_wIn, J_wJn, I_sIe, J_sJe, R_sRe, I_sIn, I_sIk, J_sJn, J_sJk, R_sRn, R_sRk, eq_self, if_true, if_false, ↓reduceIte, cond_true, cond_false, ↓cond_eq_ite, and_true, true_and, and_false, false_and, or_true, true_or, or_false, false_or, not_true_eq_false, not_false_eq_true, ft_ltT, ft_ltF, ft_eqT, ft_eqF, Bool.false_eq_true, Bool.true_eq_false, Bool.not_true, Bool.not_false, Bool.and_true, Bool.true_and, Bool.and_false, Bool.false_and, decide_true, decide_false, Nat.reduceAdd, Nat.reduceMul, Nat.reduceSub, Nat.reduceEqDiff, Nat.reduceLT, Nat.zero_add, Nat.add_zero, Nat.reduceDiv, Nat.reduceMod]
  | d + 1, n, f + 1, h, e, hf, S, K => by
    have ag := mkS_ag k w set.testBit n (by omega)
    have kb := W.kind (c := n) (by omega)
    have i1 := km K (i := 105 + n) (by omega) (by omega)
    rw [ag (105 + n) (by omega)] at i1
    have is := bI_of (M_isIn (F := F) (h := h) (s := set) (c := n) (by omega) (by omega))
    cases q : set.testBit n with
    | true =>
      rw [q] at is
      have z : mkS k w set.testBit (n + 1) = va_up (mkS k w set.testBit n) (4 + 25 * w + n) (k (105 + n) + 1) := by
        show (if set.testBit n then _ else _) = _
        rw [if_pos q]
      have K1 : KM (j_sI h 87 (4 + 25 * w + n) (nI (k (105 + n) + 1))) (mkS k w set.testBit (n + 1)) := by
        rw [z]; exact K.set (by omega)
      obtain ⟨h', e2, x2, K2⟩ := M_step_43 (F := F) W hw hs d (n + 1) f _ (by omega) (by omega) (S.fr (jX.rf.sI (D := d87) (E := jN) rfl) (fun _ _ n => n)) K1
      refine ⟨h', ?_, (jX.rf.sI (D := d87) rfl).t x2, K2⟩
      rw [← e2, q_M_stepNow_43]
      simp (disch := first | exact sR_rfl _ _ rfl | omega) only [ft_lit, ft_m1, ft_m2, ft_m3, ft_m5, ft_m6, ft_cl, ft_lt, ft_le, ft_eq, ft_mlt, ft_ltm, ft_mltm, ft_meq, ft_eqm, ft_meqm, ft_add, ft_mul, ft_sub, ft_nm, ft_m1p, ft_and, ft_or, ft_31, ft_shl, ft_shr, ft_bz, ft_z0, ft_z1, ft_z01, ft_bb, ft_zt, ft_zf, ft_or0, ft_rv, ft_rvr, ft_rf, ft_rfn, ft_bI, ft_bJ, ft_bV, ft_bR, ft_bRn, ft_isr, ft_isn, ft_ifn, ft_ifr, ft_ov, ft_ovn, ft_in, k_sI, n_sI, R_sI, J_sI, c_sI, z_sI, k_sJ, n_sJ, R_sJ, I_sJ, c_sJ, z_sJ, k_sR, n_sR, I_sR, J_sR, c_sR, z_sR, k_wI, n_wI, R_wI, J_wI, I_wIe, k_wJ, n_wJ, R_wJ, I_wJ, J_wJe, I_wIn, J_wJn, I_sIe, J_sJe, R_sRe, I_sIn, I_sIk, J_sJn, J_sJk, R_sRn, R_sRk, eq_self, if_true, if_false, ↓reduceIte, cond_true, cond_false, ↓cond_eq_ite, and_true, true_and, and_false, false_and, or_true, true_or, or_false, false_or, not_true_eq_false, not_false_eq_true, ft_ltT, ft_ltF, ft_eqT, ft_eqF, Bool.false_eq_true, Bool.true_eq_false, Bool.not_true, Bool.not_false, Bool.and_true, Bool.true_and, Bool.and_false, Bool.false_and, decide_true, decide_false, Nat.reduceAdd, Nat.reduceMul, Nat.reduceSub, Nat.reduceEqDiff, Nat.reduceLT, Nat.zero_add, Nat.add_zero, Nat.reduceDiv, Nat.reduceMod, sm_k85 S, sm_R85_1 S, ↓sm_v85_1 S, sm_R85_2 S, ↓sm_v85_2 S, sm_R85_3 S, ↓sm_v85_3 S, sm_R85_4 S, ↓sm_v85_4 S, sm_R85_5 S, ↓sm_v85_5 S, sm_R85_7 S, ↓sm_v85_7 S, sm_R85_11 S, ↓sm_v85_11 S, sm_R85_12 S, ↓sm_v85_12 S, sm_R85_15 S, ↓sm_v85_15 S, sm_R85_16 S, ↓sm_v85_16 S, sm_R85_17 S, ↓sm_v85_17 S, sm_R85_26 S, ↓sm_v85_26 S, sm_R85_29 S, ↓sm_v85_29 S, sm_R85_30 S, ↓sm_v85_30 S, sm_R85_32 S, ↓sm_v85_32 S, sm_R85_33 S, ↓sm_v85_33 S, sm_R85_34 S, ↓sm_v85_34 S, sm_R85_35 S, ↓sm_v85_35 S, sm_R85_36 S, ↓sm_v85_36 S, sm_R85_37 S, ↓sm_v85_37 S, sm_R85_38 S, ↓sm_v85_38 S, sm_R85_40 S, ↓sm_v85_40 S, sm_R85_41 S, ↓sm_v85_41 S, sm_R85_48 S, ↓sm_v85_48 S, sm_R85_49 S, ↓sm_v85_49 S, sm_k86 S, sm_n86 S, sm_k87 S, sm_n87 S, sm_k88 S, sm_n88 S, sm_k89 S, sm_n89 S, sm_k90 S, sm_n90 S, sm_k91 S, sm_n91 S, sm_k92 S, sm_n92 S, sm_k93 S, sm_n93 S, sm_k94 S, sm_n94 S, sm_k95 S, sm_n95 S, sm_k96 S, sm_n96 S, sm_k97 S, sm_n97 S, sm_k98 S, sm_n98 S, sm_k99 S, sm_n99 S, sm_k100 S, sm_n100 S, sm_k101 S, sm_n101 S, sm_k102 S, sm_n102 S, sm_k103 S, sm_n103 S, sm_k104 S, sm_n104 S, sm_k105 S, sm_n105 S, sm_k106 S, sm_n106 S, sm_k107 S, sm_n107 S, sm_k108 S, sm_n108 S, sm_k109 S, sm_n109 S, sm_k110 S, sm_n110 S, ↓is, i1]
    | false =>
      rw [q] at is
      have z : mkS k w set.testBit (n + 1) = mkS k w set.testBit n := by
        show (if set.testBit n then _ else _) = _
        rw [if_neg (by rw [q]; decide)]
      rw [← z] at K
      obtain ⟨h', e2, x2, K2⟩ := M_step_43 (F := F) W hw hs d (n + 1) f h (by omega) (by omega) S K
      refine ⟨h', ?_, x2, K2⟩
      rw [← e2, q_M_stepNow_43]
      simp (disch := first | exact sR_rfl _ _ rfl | omega) only [ft_lit, ft_m1, ft_m2, ft_m3, ft_m5, ft_m6, ft_cl, ft_lt, ft_le, ft_eq, ft_mlt, ft_ltm, ft_mltm, ft_meq, ft_eqm, ft_meqm, ft_add, ft_mul, ft_sub, ft_nm, ft_m1p, ft_and, ft_or, ft_31, ft_shl, ft_shr, ft_bz, ft_z0, ft_z1, ft_z01, ft_bb, ft_zt, ft_zf, ft_or0, ft_rv, ft_rvr, ft_rf, ft_rfn, ft_bI, ft_bJ, ft_bV, ft_bR, ft_bRn, ft_isr, ft_isn, ft_ifn, ft_ifr, ft_ov, ft_ovn, ft_in, k_sI, n_sI, R_sI, J_sI, c_sI, z_sI, k_sJ, n_sJ, R_sJ, I_sJ, c_sJ, z_sJ, k_sR, n_sR, I_sR, J_sR, c_sR, z_sR, k_wI, n_wI, R_wI, J_wI, I_wIe, k_wJ, n_wJ, R_wJ, I_wJ, J_wJe, I_wIn, J_wJn, I_sIe, J_sJe, R_sRe, I_sIn, I_sIk, J_sJn, J_sJk, R_sRn, R_sRk, eq_self, if_true, if_false, ↓reduceIte, cond_true, cond_false, ↓cond_eq_ite, and_true, true_and, and_false, false_and, or_true, true_or, or_false, false_or, not_true_eq_false, not_false_eq_true, ft_ltT, ft_ltF, ft_eqT, ft_eqF, Bool.false_eq_true, Bool.true_eq_false, Bool.not_true, Bool.not_false, Bool.and_true, Bool.true_and, Bool.and_false, Bool.false_and, decide_true, decide_false, Nat.reduceAdd, Nat.reduceMul, Nat.reduceSub, Nat.reduceEqDiff, Nat.reduceLT, Nat.zero_add, Nat.add_zero, Nat.reduceDiv, Nat.reduceMod, ↓is]
def dTk : Nat → Nat → Prop := fun a i => dT a i ∨ a = 87
theorem SB.fr {D E : Nat → Nat → Prop} {h h' : jH} (B : SB h) (x : jX D E h h') (d : ¬ D 85 24) : SB h' := by
  obtain ⟨b, e⟩ := B
  exact ⟨b, by rw [x.I d]; exact e⟩
/-- what the kept row is behind a step to a cell -/
def stN (k : Nat → Nat) (w to : Nat) : Nat → Nat := stK k w to (sgS to (sgt k (k 180) w to))
theorem M_stepNow {F : Nat × Nat} (hF : FF F) {h : jH} {k : Nat → Nat} (S : ShM h) (K : KM h k) (W : WK k) (B : SB h) {w way to : Nat} (hw : w < 4) (hy : way < 5) (q : ft_nb (k w) way = some to) : ∃ h', m_M_stepNow F 85 (nI w) (nI way) h = some (some (.int (nI (cst k (k 180) w (k w) to))), h') ∧ jX dTk jN h h' ∧ SB h' ∧ KM h' (stN k w to) := by
  have s0 := W.spot hw
  have sp := bI_of (M_spotOf (F := F) S K hw)
  have ca := bI_of (M_cellAt (F := F) (h := h) (c := k w) (w := way) s0 hy)
  rw [q] at ca
  have ht := ft_nb_lt s0 q
  have eo : oI (some to) = nI to := rfl
  rw [eo] at ca
  obtain ⟨h1, e1, x1, B1⟩ := M_costOf hF S K W B (w := w) (fr := k w) (to := to) hw s0 ht
  have S1 := S.fr x1 (fun _ _ n => n)
  have K1 := K.dt x1
  have x2 : jX d87 jN h1 (j_sI h1 87 w (nI to)) := jX.rf.sI rfl
  have S2 := S1.fr x2 (fun _ _ n => n)
  have K2 : KM (j_sI h1 87 w (nI to)) (va_up k w to) := K1.set (by omega)
  have W2 := W.spt hw ht
  have B2 := B1.fr x2 (fun z => nomatch (show (85 : Nat) = 87 from z))
  obtain ⟨h3, e3, x3, B3⟩ := M_seenFrom hF S2 K2 W2 B2 (w := w) (c := to) hw ht
  have K3 := K2.dt x3
  have S3 := S2.fr x3 (fun _ _ n => n)
  have hF1 := hF.1
  obtain ⟨h4, e4, x4, K4⟩ := M_step_43 (F := F) W2 (w := w) (r := cst k (k 180) w (k w) to) hw (ft_bs_lt (sgS to (sgt (va_up k w to) (va_up k w to 180) w to)) 25) 25 0 F.1 h3 rfl (by omega) S3 K3
  have z1 : va_up k w to 180 = k 180 := va_n (by omega)
  have z2 : sgt (va_up k w to) (k 180) w to = sgt k (k 180) w to := lwT_e (fun i hi => va_n (by omega)) (va_n (by omega))
  have z3 : mkS (va_up k w to) w (ft_bs (sgS to (sgt k (k 180) w to)) 25).testBit 25 = stN k w to := mkS_e 25 (fun i hi => bs_tb hi)
  rw [z1, z2] at e3 e4 K4
  rw [z3] at K4
  have u : jX dTk jN h h4 := (((x1.up (fun a i d => Or.inl d) (fun _ _ n => n)).t (x2.up (fun a i d => Or.inr d) (fun _ _ n => n))).t (x3.up (fun a i d => Or.inl d) (fun _ _ n => n))).t (x4.up (fun a i d => Or.inr d) (fun _ _ n => n))
  refine ⟨h4, ?_, u, B3.fr x4 (fun z => nomatch (show (85 : Nat) = 87 from z)), K4⟩
  have k1 := sm_k85 S1
  have n1 := sm_n87 S1
  rw [← e4, q_M_stepNow, if_pos (sm_k85 S), sp, ca, if_pos (sm_k85 S), sp, if_pos (sm_k85 S), bI_of e1]
  have b3 := bI_of e3
  simp (disch := first | exact sR_rfl _ _ rfl | omega) only [ft_lit, ft_m1, ft_m2, ft_m3, ft_m5, ft_m6, ft_cl, ft_lt, ft_le, ft_eq, ft_mlt, ft_ltm, ft_mltm, ft_meq, ft_eqm, ft_meqm, ft_add, ft_mul, ft_sub, ft_nm, ft_m1p, ft_and, ft_or, ft_31, ft_shl, ft_shr, ft_bz, ft_z0, ft_z1, ft_z01, ft_bb, ft_zt, ft_zf, ft_or0, ft_rv, ft_rvr, ft_rf, ft_rfn, ft_bI, ft_bJ, ft_bV, ft_bR, ft_bRn, ft_isr, ft_isn, ft_ifn, ft_ifr, ft_ov, ft_ovn, ft_in, k_sI, n_sI, R_sI, J_sI, c_sI, z_sI, k_sJ, n_sJ, R_sJ, I_sJ, c_sJ, z_sJ, k_sR, n_sR, I_sR, J_sR, c_sR, z_sR, k_wI, n_wI, R_wI, J_wI, I_wIe, k_wJ, n_wJ, R_wJ, I_wJ, J_wJe, I_wIn, J_wJn, I_sIe, J_sJe, R_sRe, I_sIn, I_sIk, J_sJn, J_sJk, R_sRn, R_sRk, eq_self, if_true, if_false, ↓reduceIte, cond_true, cond_false, ↓cond_eq_ite, and_true, true_and, and_false, false_and, or_true, true_or, or_false, false_or, not_true_eq_false, not_false_eq_true, ft_ltT, ft_ltF, ft_eqT, ft_eqF, Bool.false_eq_true, Bool.true_eq_false, Bool.not_true, Bool.not_false, Bool.and_true, Bool.true_and, Bool.and_false, Bool.false_and, decide_true, decide_false, Nat.reduceAdd, Nat.reduceMul, Nat.reduceSub, Nat.reduceEqDiff, Nat.reduceLT, Nat.zero_add, Nat.add_zero, Nat.reduceDiv, Nat.reduceMod, sm_k85 S1, sm_R85_1 S1, ↓sm_v85_1 S1, sm_R85_2 S1, ↓sm_v85_2 S1, sm_R85_3 S1, ↓sm_v85_3 S1, sm_R85_4 S1, ↓sm_v85_4 S1, sm_R85_5 S1, ↓sm_v85_5 S1, sm_R85_7 S1, ↓sm_v85_7 S1, sm_R85_11 S1, ↓sm_v85_11 S1, sm_R85_12 S1, ↓sm_v85_12 S1, sm_R85_15 S1, ↓sm_v85_15 S1, sm_R85_16 S1, ↓sm_v85_16 S1, sm_R85_17 S1, ↓sm_v85_17 S1, sm_R85_26 S1, ↓sm_v85_26 S1, sm_R85_29 S1, ↓sm_v85_29 S1, sm_R85_30 S1, ↓sm_v85_30 S1, sm_R85_32 S1, ↓sm_v85_32 S1, sm_R85_33 S1, ↓sm_v85_33 S1, sm_R85_34 S1, ↓sm_v85_34 S1, sm_R85_35 S1, ↓sm_v85_35 S1, sm_R85_36 S1, ↓sm_v85_36 S1, sm_R85_37 S1, ↓sm_v85_37 S1, sm_R85_38 S1, ↓sm_v85_38 S1, sm_R85_40 S1, ↓sm_v85_40 S1, sm_R85_41 S1, ↓sm_v85_41 S1, sm_R85_48 S1, ↓sm_v85_48 S1, sm_R85_49 S1, ↓sm_v85_49 S1, sm_k86 S1, sm_n86 S1, sm_k87 S1, sm_n87 S1, sm_k88 S1, sm_n88 S1, sm_k89 S1, sm_n89 S1, sm_k90 S1, sm_n90 S1, sm_k91 S1, sm_n91 S1, sm_k92 S1, sm_n92 S1, sm_k93 S1, sm_n93 S1, sm_k94 S1, sm_n94 S1, sm_k95 S1, sm_n95 S1, sm_k96 S1, sm_n96 S1, sm_k97 S1, sm_n97 S1, sm_k98 S1, sm_n98 S1, sm_k99 S1, sm_n99 S1, sm_k100 S1, sm_n100 S1, sm_k101 S1, sm_n101 S1, sm_k102 S1, sm_n102 S1, sm_k103 S1, sm_n103 S1, sm_k104 S1, sm_n104 S1, sm_k105 S1, sm_n105 S1, sm_k106 S1, sm_n106 S1, sm_k107 S1, sm_n107 S1, sm_k108 S1, sm_n108 S1, sm_k109 S1, sm_n109 S1, sm_k110 S1, sm_n110 S1, ↓b3]
theorem M_join_5 {F : Nat × Nat} {k : Nat → Nat} (W : WK k) {a b : Nat} (ha : a < 4) (hb : b < 4) (hab : a ≠ b) : ∀ d n f h, n + d = 25 → d < f → ShM h → KM h (jnK k a b n) → ∃ h', m_M_joinNow_5 F f 85 (nI a) (nI b) (nI (cnt (jx k a b) n)) (nI n) h = some (some (.int (nI (cnt (jx k a b) 25))), h') ∧ jX d87 jN h h' ∧ KM h' (jnK k a b 25)
  | 0, n, f + 1, h, e, _, S, K => by
    have : n = 25 := by omega
    subst this
    refine ⟨h, ?_, jX.rf, K⟩
    rw [q_M_joinNow_5]
    simp (disch := first | exact sR_rfl _ _ rfl | omega) only [ft_lit, ft_m1, ft_m2, ft_m3, ft_m5, ft_m6, ft_cl, ft_lt, ft_le, ft_eq, ft_mlt, ft_ltm, ft_mltm, ft_meq, ft_eqm, ft_meqm, ft_add, ft_mul, ft_sub, ft_nm, ft_m1p, ft_and, ft_or, ft_31, ft_shl, ft_shr, ft_bz, ft_z0, ft_z1, ft_z01, ft_bb, ft_zt, ft_zf, ft_or0, ft_rv, ft_rvr, ft_rf, ft_rfn, ft_bI, ft_bJ, ft_bV, ft_bR, ft_bRn, ft_isr, ft_isn, ft_ifn, ft_ifr, ft_ov, ft_ovn, ft_in, k_sI, n_sI, R_sI, J_sI, c_sI, z_sI, k_sJ, n_sJ, R_sJ, I_sJ, c_sJ, z_sJ, k_sR, n_sR, I_sR, J_sR, c_sR, z_sR, k_wI, n_wI, R_wI, J_wI, I_wIe, k_wJ, n_wJ, R_wJ, I_wJ, J_wJe, I_wIn, J_wJn, I_sIe, J_sJe, R_sRe, I_sIn, I_sIk, J_sJn, J_sJk, R_sRn, R_sRk, eq_self, if_true, if_false, ↓reduceIte, cond_true, cond_false, ↓cond_eq_ite, and_true, true_and, and_false, false_and, or_true, true_or, or_false, false_or, not_true_eq_false, not_false_eq_true, ft_ltT, ft_ltF, ft_eqT, ft_eqF, Bool.false_eq_true, Bool.true_eq_false, Bool.not_true, Bool.not_false, Bool.and_true, Bool.true_and, Bool.and_false, Bool.false_and, decide_true, decide_false, Nat.reduceAdd, Nat.reduceMul, Nat.reduceSub, Nat.reduceEqDiff, Nat.reduceLT, Nat.zero_add, Nat.add_zero, Nat.reduceDiv, Nat.reduceMod]
  | d + 1, n, f + 1, h, e, hf, S, K => by
    have ea : jnK k a b n (4 + 25 * a + n) = k (4 + 25 * a + n) := jnK_o n _ (by omega) (by omega) (by omega)
    have eb : jnK k a b n (4 + 25 * b + n) = k (4 + 25 * b + n) := jnK_o n _ (by omega) (by omega) (by omega)
    have sa := W.sheet (w := a) (c := n) ha (by omega)
    have sb := W.sheet (w := b) (c := n) hb (by omega)
    have oa := bI_of (M_onSheet (F := F) S K ha (c := n) (by omega))
    have ob := bI_of (M_onSheet (F := F) S K hb (c := n) (by omega))
    rw [ea] at oa
    rw [eb] at ob
    have cn : cnt (jx k a b) (n + 1) = cnt (jx k a b) n + ft_z (jx k a b n) := rfl
    cases q : jx k a b n with
    | true =>
      rw [q] at cn
      have z : jnK k a b (n + 1) = va_up (va_up (jnK k a b n) (4 + 25 * a + n) (k (4 + 25 * a + n) + k (4 + 25 * b + n))) (4 + 25 * b + n) (k (4 + 25 * a + n) + k (4 + 25 * b + n)) := by
        show (if jx k a b n then _ else _) = _
        rw [if_pos q]
      have K1 : KM (j_sI (j_sI h 87 (4 + 25 * a + n) (nI (k (4 + 25 * a + n) + k (4 + 25 * b + n)))) 87 (4 + 25 * b + n) (nI (k (4 + 25 * a + n) + k (4 + 25 * b + n)))) (jnK k a b (n + 1)) := by
        rw [z]; exact (K.set (by omega)).set (by omega)
      obtain ⟨h', e2, x2, K2⟩ := M_join_5 (F := F) W ha hb hab d (n + 1) f _ (by omega) (by omega) (S.fr ((jX.rf.sI (D := d87) (E := jN) rfl).sI rfl) (fun _ _ n => n)) K1
      refine ⟨h', ?_, ((jX.rf.sI (D := d87) rfl).sI rfl).t x2, K2⟩
      rcases jx_sum q with ⟨q1, q2⟩ | ⟨q1, q2⟩
      · rw [← e2, q_M_joinNow_5, cn]
        simp (disch := first | exact sR_rfl _ _ rfl | omega) only [ft_lit, ft_m1, ft_m2, ft_m3, ft_m5, ft_m6, ft_cl, ft_lt, ft_le, ft_eq, ft_mlt, ft_ltm, ft_mltm, ft_meq, ft_eqm, ft_meqm, ft_add, ft_mul, ft_sub, ft_nm, ft_m1p, ft_and, ft_or, ft_31, ft_shl, ft_shr, ft_bz, ft_z0, ft_z1, ft_z01, ft_bb, ft_zt, ft_zf, ft_or0, ft_rv, ft_rvr, ft_rf, ft_rfn, ft_bI, ft_bJ, ft_bV, ft_bR, ft_bRn, ft_isr, ft_isn, ft_ifn, ft_ifr, ft_ov, ft_ovn, ft_in, k_sI, n_sI, R_sI, J_sI, c_sI, z_sI, k_sJ, n_sJ, R_sJ, I_sJ, c_sJ, z_sJ, k_sR, n_sR, I_sR, J_sR, c_sR, z_sR, k_wI, n_wI, R_wI, J_wI, I_wIe, k_wJ, n_wJ, R_wJ, I_wJ, J_wJe, I_wIn, J_wJn, I_sIe, J_sJe, R_sRe, I_sIn, I_sIk, J_sJn, J_sJk, R_sRn, R_sRk, eq_self, if_true, if_false, ↓reduceIte, cond_true, cond_false, ↓cond_eq_ite, and_true, true_and, and_false, false_and, or_true, true_or, or_false, false_or, not_true_eq_false, not_false_eq_true, ft_ltT, ft_ltF, ft_eqT, ft_eqF, Bool.false_eq_true, Bool.true_eq_false, Bool.not_true, Bool.not_false, Bool.and_true, Bool.true_and, Bool.and_false, Bool.false_and, decide_true, decide_false, Nat.reduceAdd, Nat.reduceMul, Nat.reduceSub, Nat.reduceEqDiff, Nat.reduceLT, Nat.zero_add, Nat.add_zero, Nat.reduceDiv, Nat.reduceMod, sm_k85 S, sm_R85_1 S, ↓sm_v85_1 S, sm_R85_2 S, ↓sm_v85_2 S, sm_R85_3 S, ↓sm_v85_3 S, sm_R85_4 S, ↓sm_v85_4 S, sm_R85_5 S, ↓sm_v85_5 S, sm_R85_7 S, ↓sm_v85_7 S, sm_R85_11 S, ↓sm_v85_11 S, sm_R85_12 S, ↓sm_v85_12 S, sm_R85_15 S, ↓sm_v85_15 S, sm_R85_16 S, ↓sm_v85_16 S, sm_R85_17 S, ↓sm_v85_17 S, sm_R85_26 S, ↓sm_v85_26 S, sm_R85_29 S, ↓sm_v85_29 S, sm_R85_30 S, ↓sm_v85_30 S, sm_R85_32 S, ↓sm_v85_32 S, sm_R85_33 S, ↓sm_v85_33 S, sm_R85_34 S, ↓sm_v85_34 S, sm_R85_35 S, ↓sm_v85_35 S, sm_R85_36 S, ↓sm_v85_36 S, sm_R85_37 S, ↓sm_v85_37 S, sm_R85_38 S, ↓sm_v85_38 S, sm_R85_40 S, ↓sm_v85_40 S, sm_R85_41 S, ↓sm_v85_41 S, sm_R85_48 S, ↓sm_v85_48 S, sm_R85_49 S, ↓sm_v85_49 S, sm_k86 S, sm_n86 S, sm_k87 S, sm_n87 S, sm_k88 S, sm_n88 S, sm_k89 S, sm_n89 S, sm_k90 S, sm_n90 S, sm_k91 S, sm_n91 S, sm_k92 S, sm_n92 S, sm_k93 S, sm_n93 S, sm_k94 S, sm_n94 S, sm_k95 S, sm_n95 S, sm_k96 S, sm_n96 S, sm_k97 S, sm_n97 S, sm_k98 S, sm_n98 S, sm_k99 S, sm_n99 S, sm_k100 S, sm_n100 S, sm_k101 S, sm_n101 S, sm_k102 S, sm_n102 S, sm_k103 S, sm_n103 S, sm_k104 S, sm_n104 S, sm_k105 S, sm_n105 S, sm_k106 S, sm_n106 S, sm_k107 S, sm_n107 S, sm_k108 S, sm_n108 S, sm_k109 S, sm_n109 S, sm_k110 S, sm_n110 S, ↓oa, ↓ob, q_M_joinNow_40]
      · rw [← e2, q_M_joinNow_5, cn]
        simp (disch := first | exact sR_rfl _ _ rfl | omega) only [ft_lit, ft_m1, ft_m2, ft_m3, ft_m5, ft_m6, ft_cl, ft_lt, ft_le, ft_eq, ft_mlt, ft_ltm, ft_mltm, ft_meq, ft_eqm, ft_meqm, ft_add, ft_mul, ft_sub, ft_nm, ft_m1p, ft_and, ft_or, ft_31, ft_shl, ft_shr, ft_bz, ft_z0, ft_z1, ft_z01, ft_bb, ft_zt, ft_zf, ft_or0, ft_rv, ft_rvr, ft_rf, ft_rfn, ft_bI, ft_bJ, ft_bV, ft_bR, ft_bRn, ft_isr, ft_isn, ft_ifn, ft_ifr, ft_ov, ft_ovn, ft_in, k_sI, n_sI, R_sI, J_sI, c_sI, z_sI, k_sJ, n_sJ, R_sJ, I_sJ, c_sJ, z_sJ, k_sR, n_sR, I_sR, J_sR, c_sR, z_sR, k_wI, n_wI, R_wI, J_wI, I_wIe, k_wJ, n_wJ, R_wJ, I_wJ, J_wJe, I_wIn, J_wJn, I_sIe, J_sJe, R_sRe, I_sIn, I_sIk, J_sJn, J_sJk, R_sRn, R_sRk, eq_self, if_true, if_false, ↓reduceIte, cond_true, cond_false, ↓cond_eq_ite, and_true, true_and, and_false, false_and, or_true, true_or, or_false, false_or, not_true_eq_false, not_false_eq_true, ft_ltT, ft_ltF, ft_eqT, ft_eqF, Bool.false_eq_true, Bool.true_eq_false, Bool.not_true, Bool.not_false, Bool.and_true, Bool.true_and, Bool.and_false, Bool.false_and, decide_true, decide_false, Nat.reduceAdd, Nat.reduceMul, Nat.reduceSub, Nat.reduceEqDiff, Nat.reduceLT, Nat.zero_add, Nat.add_zero, Nat.reduceDiv, Nat.reduceMod, sm_k85 S, sm_R85_1 S, ↓sm_v85_1 S, sm_R85_2 S, ↓sm_v85_2 S, sm_R85_3 S, ↓sm_v85_3 S, sm_R85_4 S, ↓sm_v85_4 S, sm_R85_5 S, ↓sm_v85_5 S, sm_R85_7 S, ↓sm_v85_7 S, sm_R85_11 S, ↓sm_v85_11 S, sm_R85_12 S, ↓sm_v85_12 S, sm_R85_15 S, ↓sm_v85_15 S, sm_R85_16 S, ↓sm_v85_16 S, sm_R85_17 S, ↓sm_v85_17 S, sm_R85_26 S, ↓sm_v85_26 S, sm_R85_29 S, ↓sm_v85_29 S, sm_R85_30 S, ↓sm_v85_30 S, sm_R85_32 S, ↓sm_v85_32 S, sm_R85_33 S, ↓sm_v85_33 S, sm_R85_34 S, ↓sm_v85_34 S, sm_R85_35 S, ↓sm_v85_35 S, sm_R85_36 S, ↓sm_v85_36 S, sm_R85_37 S, ↓sm_v85_37 S, sm_R85_38 S, ↓sm_v85_38 S, sm_R85_40 S, ↓sm_v85_40 S, sm_R85_41 S, ↓sm_v85_41 S, sm_R85_48 S, ↓sm_v85_48 S, sm_R85_49 S, ↓sm_v85_49 S, sm_k86 S, sm_n86 S, sm_k87 S, sm_n87 S, sm_k88 S, sm_n88 S, sm_k89 S, sm_n89 S, sm_k90 S, sm_n90 S, sm_k91 S, sm_n91 S, sm_k92 S, sm_n92 S, sm_k93 S, sm_n93 S, sm_k94 S, sm_n94 S, sm_k95 S, sm_n95 S, sm_k96 S, sm_n96 S, sm_k97 S, sm_n97 S, sm_k98 S, sm_n98 S, sm_k99 S, sm_n99 S, sm_k100 S, sm_n100 S, sm_k101 S, sm_n101 S, sm_k102 S, sm_n102 S, sm_k103 S, sm_n103 S, sm_k104 S, sm_n104 S, sm_k105 S, sm_n105 S, sm_k106 S, sm_n106 S, sm_k107 S, sm_n107 S, sm_k108 S, sm_n108 S, sm_k109 S, sm_n109 S, sm_k110 S, sm_n110 S, ↓oa, ↓ob, q_M_joinNow_40]
    | false =>
      rw [q] at cn
      have z : jnK k a b (n + 1) = jnK k a b n := by
        show (if jx k a b n then _ else _) = _
        rw [if_neg (by rw [q]; decide)]
      rw [← z] at K
      obtain ⟨h', e2, x2, K2⟩ := M_join_5 (F := F) W ha hb hab d (n + 1) f h (by omega) (by omega) S K
      refine ⟨h', ?_, x2, K2⟩
      rw [← e2, q_M_joinNow_5, cn]
      unfold jx ft_sh at q
      by_cases c1 : 0 < k (4 + 25 * a + n) <;> by_cases c2 : 0 < k (4 + 25 * b + n)
      · simp (disch := first | exact sR_rfl _ _ rfl | omega) only [ft_lit, ft_m1, ft_m2, ft_m3, ft_m5, ft_m6, ft_cl, ft_lt, ft_le, ft_eq, ft_mlt, ft_ltm, ft_mltm, ft_meq, ft_eqm, ft_meqm, ft_add, ft_mul, ft_sub, ft_nm, ft_m1p, ft_and, ft_or, ft_31, ft_shl, ft_shr, ft_bz, ft_z0, ft_z1, ft_z01, ft_bb, ft_zt, ft_zf, ft_or0, ft_rv, ft_rvr, ft_rf, ft_rfn, ft_bI, ft_bJ, ft_bV, ft_bR, ft_bRn, ft_isr, ft_isn, ft_ifn, ft_ifr, ft_ov, ft_ovn, ft_in, k_sI, n_sI, R_sI, J_sI, c_sI, z_sI, k_sJ, n_sJ, R_sJ, I_sJ, c_sJ, z_sJ, k_sR, n_sR, I_sR, J_sR, c_sR, z_sR, k_wI, n_wI, R_wI, J_wI, I_wIe, k_wJ, n_wJ, R_wJ, I_wJ, J_wJe, I_wIn, J_wJn, I_sIe, J_sJe, R_sRe, I_sIn, I_sIk, J_sJn, J_sJk, R_sRn, R_sRk, eq_self, if_true, if_false, ↓reduceIte, cond_true, cond_false, ↓cond_eq_ite, and_true, true_and, and_false, false_and, or_true, true_or, or_false, false_or, not_true_eq_false, not_false_eq_true, ft_ltT, ft_ltF, ft_eqT, ft_eqF, Bool.false_eq_true, Bool.true_eq_false, Bool.not_true, Bool.not_false, Bool.and_true, Bool.true_and, Bool.and_false, Bool.false_and, decide_true, decide_false, Nat.reduceAdd, Nat.reduceMul, Nat.reduceSub, Nat.reduceEqDiff, Nat.reduceLT, Nat.zero_add, Nat.add_zero, Nat.reduceDiv, Nat.reduceMod, sm_k85 S, sm_R85_1 S, ↓sm_v85_1 S, sm_R85_2 S, ↓sm_v85_2 S, sm_R85_3 S, ↓sm_v85_3 S, sm_R85_4 S, ↓sm_v85_4 S, sm_R85_5 S, ↓sm_v85_5 S, sm_R85_7 S, ↓sm_v85_7 S, sm_R85_11 S, ↓sm_v85_11 S, sm_R85_12 S, ↓sm_v85_12 S, sm_R85_15 S, ↓sm_v85_15 S, sm_R85_16 S, ↓sm_v85_16 S, sm_R85_17 S, ↓sm_v85_17 S, sm_R85_26 S, ↓sm_v85_26 S, sm_R85_29 S, ↓sm_v85_29 S, sm_R85_30 S, ↓sm_v85_30 S, sm_R85_32 S, ↓sm_v85_32 S, sm_R85_33 S, ↓sm_v85_33 S, sm_R85_34 S, ↓sm_v85_34 S, sm_R85_35 S, ↓sm_v85_35 S, sm_R85_36 S, ↓sm_v85_36 S, sm_R85_37 S, ↓sm_v85_37 S, sm_R85_38 S, ↓sm_v85_38 S, sm_R85_40 S, ↓sm_v85_40 S, sm_R85_41 S, ↓sm_v85_41 S, sm_R85_48 S, ↓sm_v85_48 S, sm_R85_49 S, ↓sm_v85_49 S, sm_k86 S, sm_n86 S, sm_k87 S, sm_n87 S, sm_k88 S, sm_n88 S, sm_k89 S, sm_n89 S, sm_k90 S, sm_n90 S, sm_k91 S, sm_n91 S, sm_k92 S, sm_n92 S, sm_k93 S, sm_n93 S, sm_k94 S, sm_n94 S, sm_k95 S, sm_n95 S, sm_k96 S, sm_n96 S, sm_k97 S, sm_n97 S, sm_k98 S, sm_n98 S, sm_k99 S, sm_n99 S, sm_k100 S, sm_n100 S, sm_k101 S, sm_n101 S, sm_k102 S, sm_n102 S, sm_k103 S, sm_n103 S, sm_k104 S, sm_n104 S, sm_k105 S, sm_n105 S, sm_k106 S, sm_n106 S, sm_k107 S, sm_n107 S, sm_k108 S, sm_n108 S, sm_k109 S, sm_n109 S, sm_k110 S, sm_n110 S, ↓oa, ↓ob]
      · simp [c1, c2] at q
      · simp [c1, c2] at q
      · simp (disch := first | exact sR_rfl _ _ rfl | omega) only [ft_lit, ft_m1, ft_m2, ft_m3, ft_m5, ft_m6, ft_cl, ft_lt, ft_le, ft_eq, ft_mlt, ft_ltm, ft_mltm, ft_meq, ft_eqm, ft_meqm, ft_add, ft_mul, ft_sub, ft_nm, ft_m1p, ft_and, ft_or, ft_31, ft_shl, ft_shr, ft_bz, ft_z0, ft_z1, ft_z01, ft_bb, ft_zt, ft_zf, ft_or0, ft_rv, ft_rvr, ft_rf, ft_rfn, ft_bI, ft_bJ, ft_bV, ft_bR, ft_bRn, ft_isr, ft_isn, ft_ifn, ft_ifr, ft_ov, ft_ovn, ft_in, k_sI, n_sI, R_sI, J_sI, c_sI, z_sI, k_sJ, n_sJ, R_sJ, I_sJ, c_sJ, z_sJ, k_sR, n_sR, I_sR, J_sR, c_sR, z_sR, k_wI, n_wI, R_wI, J_wI, I_wIe, k_wJ, n_wJ, R_wJ, I_wJ, J_wJe, I_wIn, J_wJn, I_sIe, J_sJe, R_sRe, I_sIn, I_sIk, J_sJn, J_sJk, R_sRn, R_sRk, eq_self, if_true, if_false, ↓reduceIte, cond_true, cond_false, ↓cond_eq_ite, and_true, true_and, and_false, false_and, or_true, true_or, or_false, false_or, not_true_eq_false, not_false_eq_true, ft_ltT, ft_ltF, ft_eqT, ft_eqF, Bool.false_eq_true, Bool.true_eq_false, Bool.not_true, Bool.not_false, Bool.and_true, Bool.true_and, Bool.and_false, Bool.false_and, decide_true, decide_false, Nat.reduceAdd, Nat.reduceMul, Nat.reduceSub, Nat.reduceEqDiff, Nat.reduceLT, Nat.zero_add, Nat.add_zero, Nat.reduceDiv, Nat.reduceMod, sm_k85 S, sm_R85_1 S, ↓sm_v85_1 S, sm_R85_2 S, ↓sm_v85_2 S, sm_R85_3 S, ↓sm_v85_3 S, sm_R85_4 S, ↓sm_v85_4 S, sm_R85_5 S, ↓sm_v85_5 S, sm_R85_7 S, ↓sm_v85_7 S, sm_R85_11 S, ↓sm_v85_11 S, sm_R85_12 S, ↓sm_v85_12 S, sm_R85_15 S, ↓sm_v85_15 S, sm_R85_16 S, ↓sm_v85_16 S, sm_R85_17 S, ↓sm_v85_17 S, sm_R85_26 S, ↓sm_v85_26 S, sm_R85_29 S, ↓sm_v85_29 S, sm_R85_30 S, ↓sm_v85_30 S, sm_R85_32 S, ↓sm_v85_32 S, sm_R85_33 S, ↓sm_v85_33 S, sm_R85_34 S, ↓sm_v85_34 S, sm_R85_35 S, ↓sm_v85_35 S, sm_R85_36 S, ↓sm_v85_36 S, sm_R85_37 S, ↓sm_v85_37 S, sm_R85_38 S, ↓sm_v85_38 S, sm_R85_40 S, ↓sm_v85_40 S, sm_R85_41 S, ↓sm_v85_41 S, sm_R85_48 S, ↓sm_v85_48 S, sm_R85_49 S, ↓sm_v85_49 S, sm_k86 S, sm_n86 S, sm_k87 S, sm_n87 S, sm_k88 S, sm_n88 S, sm_k89 S, sm_n89 S, sm_k90 S, sm_n90 S, sm_k91 S, sm_n91 S, sm_k92 S, sm_n92 S, sm_k93 S, sm_n93 S, sm_k94 S, sm_n94 S, sm_k95 S, sm_n95 S, sm_k96 S, sm_n96 S, sm_k97 S, sm_n97 S, sm_k98 S, sm_n98 S, sm_k99 S, sm_n99 S, sm_k100 S, sm_n100 S, sm_k101 S, sm_n101 S, sm_k102 S, sm_n102 S, sm_k103 S, sm_n103 S, sm_k104 S, sm_n104 S, sm_k105 S, sm_n105 S, sm_k106 S, sm_n106 S, sm_k107 S, sm_n107 S, sm_k108 S, sm_n108 S, sm_k109 S, sm_n109 S, sm_k110 S, sm_n110 S, ↓oa, ↓ob, q_M_joinNow_40]
theorem M_joinNow {F : Nat × Nat} (hF : FF F) {h : jH} {k : Nat → Nat} (S : ShM h) (K : KM h k) (W : WK k) {a b : Nat} (ha : a < 4) (hb : b < 4) (hab : a ≠ b) : ∃ h', m_M_joinNow F 85 (nI a) (nI b) h = some (some (.int (nI (cnt (jx k a b) 25))), h') ∧ jX d87 jN h h' ∧ KM h' (jnK k a b 25) := M_join_5 W ha hb hab 25 0 F.1 h rfl (by have := hF.1; omega) S K
