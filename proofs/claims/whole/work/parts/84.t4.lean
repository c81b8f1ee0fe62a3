/-! ORDERS: THE KEPT ROW WITH ORDERS; THE REFERENCE BEFORE AND BEHIND -/
def o6 (k : Nat → Nat) (T : Tk) (n : Nat) : Nat → Nat := lyT k T n 6 n
theorem o6_o {k : Nat → Nat} {T : Tk} {n i : Nat} (h : i < 187) : o6 k T n i = k i := lyT_o n (by omega) (by omega) (by omega)
theorem o6_T {k : Nat → Nat} {T : Tk} {n : Nat} (hn : n ≤ 400) (z : ∀ i, n ≤ i → T.1 i = 0 ∧ T.2 i = 0) : kT (o6 k T n) 6 = T ∧ o6 k T n 187 = n := by
  have e0 : o6 k T n (181 + 6) = n := lyT_n (by omega) n hn
  refine ⟨?_, e0⟩
  unfold kT
  rw [e0]
  refine Prod.ext (funext fun i => ?_) (funext fun i => ?_)
  · show (if i < n then o6 k T n (188 + (400 * 6 + i)) else 0) = T.1 i
    by_cases q : i < n
    · rw [if_pos q]; exact (lyT_1 (by omega) n i hn q).1
    · rw [if_neg q]; exact (z i (by omega)).1.symm
  · show (if i < n then o6 k T n (2988 + (400 * 6 + i)) else 0) = T.2 i
    by_cases q : i < n
    · rw [if_pos q]; exact (lyT_1 (by omega) n i hn q).2
    · rw [if_neg q]; exact (z i (by omega)).2.symm
theorem o6_j {k : Nat → Nat} {T : Tk} {n j : Nat} (W : WK k) (hn : n ≤ 400) (hj : j < 6) : kT (o6 k T n) j = kT k j ∧ o6 k T n (181 + j) = k (181 + j) := by
  have sz := W.size (j := j) (by omega)
  have e0 : o6 k T n (181 + j) = k (181 + j) := o6_o (by omega)
  refine ⟨?_, e0⟩
  unfold kT
  rw [e0]
  refine Prod.ext (funext fun i => ?_) (funext fun i => ?_)
  · show (if i < k (181 + j) then o6 k T n (188 + (400 * j + i)) else 0) = if i < k (181 + j) then k (188 + (400 * j + i)) else 0
    by_cases q : i < k (181 + j)
    · rw [if_pos q, if_pos q]; exact lyT_o n (by omega) (by omega) (by omega)
    · rw [if_neg q, if_neg q]
  · show (if i < k (181 + j) then o6 k T n (2988 + (400 * j + i)) else 0) = if i < k (181 + j) then k (2988 + (400 * j + i)) else 0
    by_cases q : i < k (181 + j)
    · rw [if_pos q, if_pos q]; exact lyT_o n (by omega) (by omega) (by omega)
    · rw [if_neg q, if_neg q]
theorem o6_W {k : Nat → Nat} {T : Tk} {n : Nat} (W : WK k) (hn : n ≤ 400) (z : ∀ i, n ≤ i → T.1 i = 0 ∧ T.2 i = 0) (tb : ∀ i, T.1 i < 356 ∧ T.2 i < 33554432) : WK (o6 k T n) := by
  have o : ∀ i, i < 187 → o6 k T n i = k i := fun i hi => o6_o hi
  obtain ⟨w1, w2, w3, w4, w5, w6, w7, w8, w9, w10, w11, w12, w13, w14, w15, w16, w17⟩ := id W
  refine ⟨fun i => lyT_b w1 tb hn n i, fun w hw => by rw [o _ (by omega)]; exact w2 w hw, fun i hi => by rw [o _ (by omega)]; exact w3 i hi, by rw [o _ (by omega)]; exact w4, fun i hi => by rw [o _ (by omega)]; exact w5 i hi, fun i hi => by rw [o _ (by omega)]; exact w6 i hi, fun i hi => by rw [o _ (by omega)]; exact w7 i hi, fun i hi => by rw [o _ (by omega)]; exact w8 i hi, fun i hi => by rw [o _ (by omega)]; exact w9 i hi, by rw [o _ (by omega)]; exact w10, by rw [o _ (by omega)]; exact w11, by rw [o _ (by omega)]; exact w12, by rw [o _ (by omega)]; exact w13, by rw [o _ (by omega)]; exact w14, by rw [o _ (by omega), o _ (by omega)]; exact w15, fun j hj => ?_, fun j hj => ?_⟩
  · by_cases q : j = 6
    · rw [q]; have := (o6_T (k := k) hn z).2; show o6 k T n 187 ≤ 400; omega
    · rw [o _ (by omega)]; exact w16 j hj
  · rw [o _ (by omega)] at hj
    unfold kOK
    rw [(o6_j W hn (by omega)).1, (o6_j W hn (by omega)).2]
    exact w17 j hj
/-- where one stopped -/
def stC (sc : Sc) (x : Int32) : Sc := (sc.1, sc.2.1, sc.2.2.1, sc.2.2.2.1, x)
theorem MI.st {h : jH} {k : Nat → Nat} {im : Nat → Option (Nat → Nat)} {u : List Ue} {tp : Nat → Nat} {tl : Nat} {sc : Sc} {kd : Nat → Nat} (M : MI h k im u tp tl sc kd) (x : Int32) : MI (j_sI h 85 42 x) k im u tp tl (stC sc x) kd := by
  have xx : jX (fun a i => (a = 85 ∧ (i = 0 ∨ i = 6 ∨ i = 14 ∨ i = 42)) ∨ a = 86) jN h (j_sI h 85 42 x) := jX.rf.sI (by omega)
  refine M.sc xx ?_
  obtain ⟨s1, s2, s3, s4, s5⟩ := M.2.2.2.2.2.2.2.1
  exact ⟨by rw [I_sIk (by omega)]; exact s1, fun q hq => by rw [I_sIn (by omega)]; exact s2 q hq, by rw [I_sIk (by omega)]; exact s3, by rw [I_sIk (by omega)]; exact s4, I_sIe⟩
theorem CI.st {h : jH} {k : Nat → Nat} {im : Nat → Option (Nat → Nat)} {u : List Ue} {tp : Nat → Nat} {tl : Nat} {sc : Sc} {kd : Nat → Nat} (C : CI h k im u tp tl sc kd) (x : Int32) : CI (j_sI h 4 14 x) k im u tp tl (stC sc x) kd := by
  have xx : jX (fun a i => a = 4 ∨ a = 84 ∨ (a = 60 ∧ i = 2)) jN h (j_sI h 4 14 x) := jX.rf.sI (by omega)
  refine C.sc xx ?_
  obtain ⟨s1, s2, s3, s4, s5⟩ := C.2.2.2.2.2.2.1
  exact ⟨by rw [I_sIk (by omega)]; exact s1, fun q hq => by rw [I_sIn (by omega)]; exact s2 q hq, by rw [I_sIk (by omega)]; exact s3, by rw [I_sIn (by omega)]; exact s4, I_sIe⟩
theorem M_o27 {F : Nat × Nat} : ∀ d j f h, j + d = 1696 → d < f → ShM h → (∀ i, i < j → j_I h 99 i = j_I h 98 i) → ∃ h', m_M_orders_27 F f 85 (nI j) h = m_M_orders_27 F 1 85 (nI 1696) h' ∧ jX (dRo 99) jN h h' ∧ ∀ i, i < 1696 → j_I h' 99 i = j_I h' 98 i := by
  intro d
  induction d with
  | zero =>
    intro j f h e hf S V
    obtain ⟨g, rfl⟩ : ∃ g, f = g + 1 := ⟨f - 1, by omega⟩
    have : j = 1696 := by omega
    subst this
    refine ⟨h, ?_, jX.rf, V⟩
    rw [q_M_orders_27, show (1 : Nat) = 0 + 1 from rfl, q_M_orders_27, if_neg (show ¬ nI 1696 < nI 1696 by decide), if_neg (show ¬ nI 1696 < nI 1696 by decide)]
  | succ d ih =>
    intro j f h e hf S V
    obtain ⟨g, rfl⟩ : ∃ g, f = g + 1 := ⟨f - 1, by omega⟩
    have x0 : jX (dRo 99) jN h (j_sI h 99 j (j_I h 98 j)) := jX.rf.sI rfl
    obtain ⟨h', e1, x1, V1⟩ := ih (j + 1) g _ (by omega) (by omega) (S.fr x0 (fun _ _ z => z)) (fun i hi => by
      rw [I_sIn (b := 98) (by omega)]
      by_cases w : i = j
      · rw [w, I_sIe]
      · rw [I_sIk w]; exact V i (by omega))
    refine ⟨h', ?_, x0.t x1, V1⟩
    rw [← e1, q_M_orders_27, if_pos (by rw [ft_lt (by omega) (by omega)]; omega)]
    simp (disch := first | exact sR_rfl _ _ rfl | omega) only [ft_lit, ft_m1, ft_m2, ft_m3, ft_m5, ft_m6, ft_cl, ft_lt, ft_le, ft_eq, ft_mlt, ft_ltm, ft_mltm, ft_meq, ft_eqm, ft_meqm, ft_add, ft_mul, ft_sub, ft_nm, ft_m1p, ft_and, ft_or, ft_31, ft_shl, ft_shr, ft_bz, ft_z0, ft_z1, ft_z01, ft_bb, ft_zt, ft_zf, ft_or0, ft_rv, ft_rvr, ft_rf, ft_rfn, ft_bI, ft_bJ, ft_bV, ft_bR, ft_bRn, ft_isr, ft_isn, ft_ifn, ft_ifr, ft_ov, ft_ovn, ft_in, k_sI, n_sI, R_sI, J_sI, c_sI, z_sI, k_sJ, n_sJ, R_sJ, I_sJ, c_sJ, z_sJ, k_sR, n_sR, I_sR, J_sR, c_sR, z_sR, k_wI, n_wI, R_wI, J_wI, I_wIe, k_wJ, n_wJ, R_wJ, I_wJ, J_wJe, I_wIn, J_wJn, I_sIe, J_sJe, R_sRe, I_sIn, I_sIk, J_sJn, J_sJk, R_sRn, R_sRk, eq_self, if_true, if_false, ↓reduceIte, cond_true, cond_false, ↓cond_eq_ite, and_true, true_and, and_false, false_and, or_true, true_or, or_false, false_or, not_true_eq_false, not_false_eq_true, ft_ltT, ft_ltF, ft_eqT, ft_eqF, Bool.false_eq_true, Bool.true_eq_false, Bool.not_true, Bool.not_false, Bool.and_true, Bool.true_and, Bool.and_false, Bool.false_and, decide_true, decide_false, Nat.reduceAdd, Nat.reduceMul, Nat.reduceSub, Nat.reduceEqDiff, Nat.reduceLT, Nat.zero_add, Nat.add_zero, Nat.reduceDiv, Nat.reduceMod, sm_k85 S, sm_R85_1 S, ↓sm_v85_1 S, sm_R85_2 S, ↓sm_v85_2 S, sm_R85_3 S, ↓sm_v85_3 S, sm_R85_4 S, ↓sm_v85_4 S, sm_R85_5 S, ↓sm_v85_5 S, sm_R85_7 S, ↓sm_v85_7 S, sm_R85_11 S, ↓sm_v85_11 S, sm_R85_12 S, ↓sm_v85_12 S, sm_R85_15 S, ↓sm_v85_15 S, sm_R85_16 S, ↓sm_v85_16 S, sm_R85_17 S, ↓sm_v85_17 S, sm_R85_26 S, ↓sm_v85_26 S, sm_R85_29 S, ↓sm_v85_29 S, sm_R85_30 S, ↓sm_v85_30 S, sm_R85_32 S, ↓sm_v85_32 S, sm_R85_33 S, ↓sm_v85_33 S, sm_R85_34 S, ↓sm_v85_34 S, sm_R85_35 S, ↓sm_v85_35 S, sm_R85_36 S, ↓sm_v85_36 S, sm_R85_37 S, ↓sm_v85_37 S, sm_R85_38 S, ↓sm_v85_38 S, sm_R85_40 S, ↓sm_v85_40 S, sm_R85_41 S, ↓sm_v85_41 S, sm_R85_48 S, ↓sm_v85_48 S, sm_R85_49 S, ↓sm_v85_49 S, sm_k86 S, sm_n86 S, sm_k87 S, sm_n87 S, sm_k88 S, sm_n88 S, sm_k89 S, sm_n89 S, sm_k90 S, sm_n90 S, sm_k91 S, sm_n91 S, sm_k92 S, sm_n92 S, sm_k93 S, sm_n93 S, sm_k94 S, sm_n94 S, sm_k95 S, sm_n95 S, sm_k96 S, sm_n96 S, sm_k97 S, sm_n97 S, sm_k98 S, sm_n98 S, sm_k99 S, sm_n99 S, sm_k100 S, sm_n100 S, sm_k101 S, sm_n101 S, sm_k102 S, sm_n102 S, sm_k103 S, sm_n103 S, sm_k104 S, sm_n104 S, sm_k105 S, sm_n105 S, sm_k106 S, sm_n106 S, sm_k107 S, sm_n107 S, sm_k108 S, sm_n108 S, sm_k109 S, sm_n109 S, sm_k110 S, sm_n110 S]
theorem M_o123 {F : Nat × Nat} {v1 v3 : Int32} : ∀ d j f h, j + d = 1696 → d < f → ShM h → (∀ i, i < j → j_I h 98 i = j_I h 99 i) → ∃ h', m_M_orders_123 F f 85 v1 v3 (nI j) h = m_M_orders_123 F 1 85 v1 v3 (nI 1696) h' ∧ jX (dRo 98) jN h h' ∧ ∀ i, i < 1696 → j_I h' 98 i = j_I h' 99 i := by
  intro d
  induction d with
  | zero =>
    intro j f h e hf S V
    obtain ⟨g, rfl⟩ : ∃ g, f = g + 1 := ⟨f - 1, by omega⟩
    have : j = 1696 := by omega
    subst this
    refine ⟨h, ?_, jX.rf, V⟩
    rw [q_M_orders_123, show (1 : Nat) = 0 + 1 from rfl, q_M_orders_123, if_neg (show ¬ nI 1696 < nI 1696 by decide), if_neg (show ¬ nI 1696 < nI 1696 by decide)]
  | succ d ih =>
    intro j f h e hf S V
    obtain ⟨g, rfl⟩ : ∃ g, f = g + 1 := ⟨f - 1, by omega⟩
    have x0 : jX (dRo 98) jN h (j_sI h 98 j (j_I h 99 j)) := jX.rf.sI rfl
    obtain ⟨h', e1, x1, V1⟩ := ih (j + 1) g _ (by omega) (by omega) (S.fr x0 (fun _ _ z => z)) (fun i hi => by
      rw [I_sIn (b := 99) (by omega)]
      by_cases w : i = j
      · rw [w, I_sIe]
      · rw [I_sIk w]; exact V i (by omega))
    refine ⟨h', ?_, x0.t x1, V1⟩
    rw [← e1, q_M_orders_123, if_pos (by rw [ft_lt (by omega) (by omega)]; omega)]
    simp (disch := first | exact sR_rfl _ _ rfl | omega) only [ft_lit, ft_m1, ft_m2, ft_m3, ft_m5, ft_m6, ft_cl, ft_lt, ft_le, ft_eq, ft_mlt, ft_ltm, ft_mltm, ft_meq, ft_eqm, ft_meqm, ft_add, ft_mul, ft_sub, ft_nm, ft_m1p, ft_and, ft_or, ft_31, ft_shl, ft_shr, ft_bz, ft_z0, ft_z1, ft_z01, ft_bb, ft_zt, ft_zf, ft_or0, ft_rv, ft_rvr, ft_rf, ft_rfn, ft_bI, ft_bJ, ft_bV, ft_bR, ft_bRn, ft_isr, ft_isn, ft_ifn, ft_ifr, ft_ov, ft_ovn, ft_in, k_sI, n_sI, R_sI, J_sI, c_sI, z_sI, k_sJ, n_sJ, R_sJ, I_sJ, c_sJ, z_sJ, k_sR, n_sR, I_sR, J_sR, c_sR, z_sR, k_wI, n_wI, R_wI, J_wI, I_wIe, k_wJ, n_wJ, R_wJ, I_wJ, J_wJe, I_wIn, J_wJn, I_sIe, J_sJe, R_sRe, I_sIn, I_sIk, J_sJn, J_sJk, R_sRn, R_sRk, eq_self, if_true, if_false, ↓reduceIte, cond_true, cond_false, ↓cond_eq_ite, and_true, true_and, and_false, false_and, or_true, true_or, or_false, false_or, not_true_eq_false, not_false_eq_true, ft_ltT, ft_ltF, ft_eqT, ft_eqF, Bool.false_eq_true, Bool.true_eq_false, Bool.not_true, Bool.not_false, Bool.and_true, Bool.true_and, Bool.and_false, Bool.false_and, decide_true, decide_false, Nat.reduceAdd, Nat.reduceMul, Nat.reduceSub, Nat.reduceEqDiff, Nat.reduceLT, Nat.zero_add, Nat.add_zero, Nat.reduceDiv, Nat.reduceMod, sm_k85 S, sm_R85_1 S, ↓sm_v85_1 S, sm_R85_2 S, ↓sm_v85_2 S, sm_R85_3 S, ↓sm_v85_3 S, sm_R85_4 S, ↓sm_v85_4 S, sm_R85_5 S, ↓sm_v85_5 S, sm_R85_7 S, ↓sm_v85_7 S, sm_R85_11 S, ↓sm_v85_11 S, sm_R85_12 S, ↓sm_v85_12 S, sm_R85_15 S, ↓sm_v85_15 S, sm_R85_16 S, ↓sm_v85_16 S, sm_R85_17 S, ↓sm_v85_17 S, sm_R85_26 S, ↓sm_v85_26 S, sm_R85_29 S, ↓sm_v85_29 S, sm_R85_30 S, ↓sm_v85_30 S, sm_R85_32 S, ↓sm_v85_32 S, sm_R85_33 S, ↓sm_v85_33 S, sm_R85_34 S, ↓sm_v85_34 S, sm_R85_35 S, ↓sm_v85_35 S, sm_R85_36 S, ↓sm_v85_36 S, sm_R85_37 S, ↓sm_v85_37 S, sm_R85_38 S, ↓sm_v85_38 S, sm_R85_40 S, ↓sm_v85_40 S, sm_R85_41 S, ↓sm_v85_41 S, sm_R85_48 S, ↓sm_v85_48 S, sm_R85_49 S, ↓sm_v85_49 S, sm_k86 S, sm_n86 S, sm_k87 S, sm_n87 S, sm_k88 S, sm_n88 S, sm_k89 S, sm_n89 S, sm_k90 S, sm_n90 S, sm_k91 S, sm_n91 S, sm_k92 S, sm_n92 S, sm_k93 S, sm_n93 S, sm_k94 S, sm_n94 S, sm_k95 S, sm_n95 S, sm_k96 S, sm_n96 S, sm_k97 S, sm_n97 S, sm_k98 S, sm_n98 S, sm_k99 S, sm_n99 S, sm_k100 S, sm_n100 S, sm_k101 S, sm_n101 S, sm_k102 S, sm_n102 S, sm_k103 S, sm_n103 S, sm_k104 S, sm_n104 S, sm_k105 S, sm_n105 S, sm_k106 S, sm_n106 S, sm_k107 S, sm_n107 S, sm_k108 S, sm_n108 S, sm_k109 S, sm_n109 S, sm_k110 S, sm_n110 S]
/-- the reference, before the clauses -/
theorem M_opre {F : Nat × Nat} (hF : FF F) {h : jH} {k : Nat → Nat} {im : Nat → Option (Nat → Nat)} {u : List Ue} {tp : Nat → Nat} {tl : Nat} {sc : Sc} {kd : Nat → Nat} (M : MI h k im u tp tl sc kd) {T : Tk} {n : Nat} (hn : n ≤ 400) (n18 : j_I h 85 18 = nI n) (rows : ∀ i, i < n → j_I h 94 i = nI (T.1 i) ∧ j_I h 95 i = nI (T.2 i)) (n187 : o6 k T n 187 = n) : ∃ h', jbV (m_M_laysAside F 85 (nI 1) h) (fun h6 => m_M_orders_27 F F.1 85 (nI 0) h6) = m_M_orders_96 F F.1 85 (nI u.length) (nI (2400 + n)) (nI 0) h' ∧ RM h' (o6 k T n, im, u, tp, tl, sc, kd) 0 (-1) 0 ∧ jX dMM jN h h' ∧ (∀ i, i < 105 → j_I h' 90 (105 + i) = nI (k i)) ∧ MU h u ∧ ∀ i, i < 1696 → j_I h' 99 i = j_I h 98 i := by
  have hF1 := hF.1
  have S := M.1
  obtain ⟨h1, e1, x1, v1⟩ := M_aside (F := F) (k := k) (q := 1) (by omega) 105 0 F.1 h rfl (by omega) S M.2.2.2.1 (fun i hi => by omega)
  have a1 : m_M_laysAside F 85 (nI 1) h = some (none, h1) := by rw [q_M_laysAside]; exact e1
  have S1 := S.fr x1 (fun _ _ z => z)
  obtain ⟨h2, e2, x2, v2⟩ := M_o27 (F := F) 1696 0 F.1 h1 (by omega) (by omega) S1 (fun i hi => by omega)
  have x12 : jX (fun a _ => a = 90 ∨ a = 99) jN h h2 := (x1.tr x2).up (fun a i z => z) (fun a i z => z.elim id id)
  have M2 : MI h2 k im u tp tl sc kd := M.w (x12.up (fun a i z => by unfold dW; omega) (fun _ _ z => z)) (M.2.2.1.fr x12 (fun z => by omega)) (M.2.2.2.1.fr x12 (fun a i z => by omega))
  have S2 := M2.1
  have f31 : j_I h2 85 31 = nI u.length := M2.2.2.2.2.2.1.1
  have x3 : jX d87 jN h2 (j_sI h2 87 (181 + 6) (nI n)) := jX.rf.sI rfl
  obtain ⟨h4, e4, x4, K4⟩ := M_lays_16 (F := F) (k := k) (T := T) (n := n) (j := 6) hn (by omega) n 0 F.1 (j_sI h2 87 (181 + 6) (nI n)) (by omega) (by omega) (S2.fr x3 (fun _ _ z => z)) (by rw [I_sIn (by omega), x12.I (by omega)]; exact n18) (fun i hi => by rw [I_sIn (by omega), I_sIn (by omega), x12.I (by omega), x12.I (by omega)]; exact rows i hi) (M2.2.2.2.1.set (by omega))
  have n18' : j_I h2 85 18 = nI n := by rw [x12.I (by omega)]; exact n18
  have l4 : m_M_lays F 85 (nI 6) h2 = some (none, h4) := by
    rw [← e4, q_M_lays]
    simp (disch := first | exact sR_rfl _ _ rfl | omega) only [ft_lit, ft_m1, ft_m2, ft_m3, ft_m5, ft_m6, ft_cl, ft_lt, ft_le, ft_eq, ft_mlt, ft_ltm, ft_mltm, ft_meq, ft_eqm, ft_meqm, ft_add, ft_mul, ft_sub, ft_nm, ft_m1p, ft_and, ft_or, ft_31, ft_shl, ft_shr, ft_bz, ft_z0, ft_z1, ft_z01, ft_bb, ft_zt, ft_zf, ft_or0, ft_rv, ft_rvr, ft_rf, ft_rfn, ft_bI, ft_bJ, ft_bV, ft_bR, ft_bRn, ft_isr, ft_isn, ft_ifn, ft_ifr, ft_ov, ft_ovn, ft_in, k_sI, n_sI, R_sI, J_sI, c_sI, z_sI, k_sJ, n_sJ, R_sJ, I_sJ, c_sJ, z_sJ, k_sR, n_sR, I_sR, J_sR, c_sR, z_sR, k_wI, n_wI, R_wI, J_wI, I_wIe, k_wJ, n_wJ, R_wJ, I_wJ, J_wJe, I_wIn, J_wJn, I_sIe, J_sJe, R_sRe, I_sIn, I_sIk, J_sJn, J_sJk, R_sRn, R_sRk, eq_self, if_true, if_false, ↓reduceIte, cond_true, cond_false, ↓cond_eq_ite, and_true, true_and, and_false, false_and, or_true, true_or, or_false, false_or, not_true_eq_false, not_false_eq_true, ft_ltT, ft_ltF, ft_eqT, ft_eqF, Bool.false_eq_true, Bool.true_eq_false, Bool.not_true, Bool.not_false, Bool.and_true, Bool.true_and, Bool.and_false, Bool.false_and, decide_true, decide_false, Nat.reduceAdd, Nat.reduceMul, Nat.reduceSub, Nat.reduceEqDiff, Nat.reduceLT, Nat.zero_add, Nat.add_zero, Nat.reduceDiv, Nat.reduceMod, sm_k85 S2, sm_R85_1 S2, ↓sm_v85_1 S2, sm_R85_2 S2, ↓sm_v85_2 S2, sm_R85_3 S2, ↓sm_v85_3 S2, sm_R85_4 S2, ↓sm_v85_4 S2, sm_R85_5 S2, ↓sm_v85_5 S2, sm_R85_7 S2, ↓sm_v85_7 S2, sm_R85_11 S2, ↓sm_v85_11 S2, sm_R85_12 S2, ↓sm_v85_12 S2, sm_R85_15 S2, ↓sm_v85_15 S2, sm_R85_16 S2, ↓sm_v85_16 S2, sm_R85_17 S2, ↓sm_v85_17 S2, sm_R85_26 S2, ↓sm_v85_26 S2, sm_R85_29 S2, ↓sm_v85_29 S2, sm_R85_30 S2, ↓sm_v85_30 S2, sm_R85_32 S2, ↓sm_v85_32 S2, sm_R85_33 S2, ↓sm_v85_33 S2, sm_R85_34 S2, ↓sm_v85_34 S2, sm_R85_35 S2, ↓sm_v85_35 S2, sm_R85_36 S2, ↓sm_v85_36 S2, sm_R85_37 S2, ↓sm_v85_37 S2, sm_R85_38 S2, ↓sm_v85_38 S2, sm_R85_40 S2, ↓sm_v85_40 S2, sm_R85_41 S2, ↓sm_v85_41 S2, sm_R85_48 S2, ↓sm_v85_48 S2, sm_R85_49 S2, ↓sm_v85_49 S2, sm_k86 S2, sm_n86 S2, sm_k87 S2, sm_n87 S2, sm_k88 S2, sm_n88 S2, sm_k89 S2, sm_n89 S2, sm_k90 S2, sm_n90 S2, sm_k91 S2, sm_n91 S2, sm_k92 S2, sm_n92 S2, sm_k93 S2, sm_n93 S2, sm_k94 S2, sm_n94 S2, sm_k95 S2, sm_n95 S2, sm_k96 S2, sm_n96 S2, sm_k97 S2, sm_n97 S2, sm_k98 S2, sm_n98 S2, sm_k99 S2, sm_n99 S2, sm_k100 S2, sm_n100 S2, sm_k101 S2, sm_n101 S2, sm_k102 S2, sm_n102 S2, sm_k103 S2, sm_n103 S2, sm_k104 S2, sm_n104 S2, sm_k105 S2, sm_n105 S2, sm_k106 S2, sm_n106 S2, sm_k107 S2, sm_n107 S2, sm_k108 S2, sm_n108 S2, sm_k109 S2, sm_n109 S2, sm_k110 S2, sm_n110 S2, n18']
  have M4 : MI h4 (o6 k T n) im u tp tl sc kd := M2.k1 (x3.t x4) K4
  have S4 := M4.1
  have x5 : jX (fun a i => a = 85 ∧ (i = 27 ∨ i = 28 ∨ i = 43)) jN h4 (j_sI (j_sI (j_sI h4 85 27 (nI 0)) 85 28 (mI 0)) 85 43 (nI 2400)) := ((jX.rf.sI ⟨rfl, Or.inl rfl⟩).sI ⟨rfl, Or.inr (Or.inl rfl)⟩).sI ⟨rfl, Or.inr (Or.inr rfl)⟩
  have M5 : MJ (j_sI (j_sI (j_sI h4 85 27 (nI 0)) 85 28 (mI 0)) 85 43 (nI 2400)) (o6 k T n, im, u, tp, tl, sc, kd) := MJ.f27 (show MJ h4 (o6 k T n, im, u, tp, tl, sc, kd) from M4) x5
  have k187 : j_I h4 87 187 = nI n := by
    have := km M4.2.2.2.1 (i := 187) (by omega) (by omega)
    rw [n187] at this
    exact this
  have x34 := x3.t x4
  refine ⟨j_sI (j_sI (j_sI h4 85 27 (nI 0)) 85 28 (mI 0)) 85 43 (nI 2400), ?_, ⟨M5, by rw [I_sIk (by omega), I_sIk (by omega), I_sIe], by rw [I_sIk (by omega), I_sIe, iI_m1], I_sIe⟩, ((x12.tr x34).tr x5).up (fun a i z => by unfold d87 at z; unfold dMM; omega) (fun a i z => z.elim (fun z => z.elim id id) id), fun i hi => ?_, M.2.2.2.2.2.1, fun i hi => ?_⟩
  · rw [bV_of a1, e2, show (1 : Nat) = 0 + 1 from rfl, q_M_orders_27, if_neg (by decide), if_pos (sm_k85 S2)]
    have bl := bV_of l4
    simp (disch := first | exact sR_rfl _ _ rfl | omega) only [ft_lit, ft_m1, ft_m2, ft_m3, ft_m5, ft_m6, ft_cl, ft_lt, ft_le, ft_eq, ft_mlt, ft_ltm, ft_mltm, ft_meq, ft_eqm, ft_meqm, ft_add, ft_mul, ft_sub, ft_nm, ft_m1p, ft_and, ft_or, ft_31, ft_shl, ft_shr, ft_bz, ft_z0, ft_z1, ft_z01, ft_bb, ft_zt, ft_zf, ft_or0, ft_rv, ft_rvr, ft_rf, ft_rfn, ft_bI, ft_bJ, ft_bV, ft_bR, ft_bRn, ft_isr, ft_isn, ft_ifn, ft_ifr, ft_ov, ft_ovn, ft_in, k_sI, n_sI, R_sI, J_sI, c_sI, z_sI, k_sJ, n_sJ, R_sJ, I_sJ, c_sJ, z_sJ, k_sR, n_sR, I_sR, J_sR, c_sR, z_sR, k_wI, n_wI, R_wI, J_wI, I_wIe, k_wJ, n_wJ, R_wJ, I_wJ, J_wJe, I_wIn, J_wJn, I_sIe, J_sJe, R_sRe, I_sIn, I_sIk, J_sJn, J_sJk, R_sRn, R_sRk, eq_self, if_true, if_false, ↓reduceIte, cond_true, cond_false, ↓cond_eq_ite, and_true, true_and, and_false, false_and, or_true, true_or, or_false, false_or, not_true_eq_false, not_false_eq_true, ft_ltT, ft_ltF, ft_eqT, ft_eqF, Bool.false_eq_true, Bool.true_eq_false, Bool.not_true, Bool.not_false, Bool.and_true, Bool.true_and, Bool.and_false, Bool.false_and, decide_true, decide_false, Nat.reduceAdd, Nat.reduceMul, Nat.reduceSub, Nat.reduceEqDiff, Nat.reduceLT, Nat.zero_add, Nat.add_zero, Nat.reduceDiv, Nat.reduceMod, sm_k85 S2, sm_R85_1 S2, ↓sm_v85_1 S2, sm_R85_2 S2, ↓sm_v85_2 S2, sm_R85_3 S2, ↓sm_v85_3 S2, sm_R85_4 S2, ↓sm_v85_4 S2, sm_R85_5 S2, ↓sm_v85_5 S2, sm_R85_7 S2, ↓sm_v85_7 S2, sm_R85_11 S2, ↓sm_v85_11 S2, sm_R85_12 S2, ↓sm_v85_12 S2, sm_R85_15 S2, ↓sm_v85_15 S2, sm_R85_16 S2, ↓sm_v85_16 S2, sm_R85_17 S2, ↓sm_v85_17 S2, sm_R85_26 S2, ↓sm_v85_26 S2, sm_R85_29 S2, ↓sm_v85_29 S2, sm_R85_30 S2, ↓sm_v85_30 S2, sm_R85_32 S2, ↓sm_v85_32 S2, sm_R85_33 S2, ↓sm_v85_33 S2, sm_R85_34 S2, ↓sm_v85_34 S2, sm_R85_35 S2, ↓sm_v85_35 S2, sm_R85_36 S2, ↓sm_v85_36 S2, sm_R85_37 S2, ↓sm_v85_37 S2, sm_R85_38 S2, ↓sm_v85_38 S2, sm_R85_40 S2, ↓sm_v85_40 S2, sm_R85_41 S2, ↓sm_v85_41 S2, sm_R85_48 S2, ↓sm_v85_48 S2, sm_R85_49 S2, ↓sm_v85_49 S2, sm_k86 S2, sm_n86 S2, sm_k87 S2, sm_n87 S2, sm_k88 S2, sm_n88 S2, sm_k89 S2, sm_n89 S2, sm_k90 S2, sm_n90 S2, sm_k91 S2, sm_n91 S2, sm_k92 S2, sm_n92 S2, sm_k93 S2, sm_n93 S2, sm_k94 S2, sm_n94 S2, sm_k95 S2, sm_n95 S2, sm_k96 S2, sm_n96 S2, sm_k97 S2, sm_n97 S2, sm_k98 S2, sm_n98 S2, sm_k99 S2, sm_n99 S2, sm_k100 S2, sm_n100 S2, sm_k101 S2, sm_n101 S2, sm_k102 S2, sm_n102 S2, sm_k103 S2, sm_n103 S2, sm_k104 S2, sm_n104 S2, sm_k105 S2, sm_n105 S2, sm_k106 S2, sm_n106 S2, sm_k107 S2, sm_n107 S2, sm_k108 S2, sm_n108 S2, sm_k109 S2, sm_n109 S2, sm_k110 S2, sm_n110 S2, ↓bl, f31]
    simp (disch := first | exact sR_rfl _ _ rfl | omega) only [ft_lit, ft_m1, ft_m2, ft_m3, ft_m5, ft_m6, ft_cl, ft_lt, ft_le, ft_eq, ft_mlt, ft_ltm, ft_mltm, ft_meq, ft_eqm, ft_meqm, ft_add, ft_mul, ft_sub, ft_nm, ft_m1p, ft_and, ft_or, ft_31, ft_shl, ft_shr, ft_bz, ft_z0, ft_z1, ft_z01, ft_bb, ft_zt, ft_zf, ft_or0, ft_rv, ft_rvr, ft_rf, ft_rfn, ft_bI, ft_bJ, ft_bV, ft_bR, ft_bRn, ft_isr, ft_isn, ft_ifn, ft_ifr, ft_ov, ft_ovn, ft_in, k_sI, n_sI, R_sI, J_sI, c_sI, z_sI, k_sJ, n_sJ, R_sJ, I_sJ, c_sJ, z_sJ, k_sR, n_sR, I_sR, J_sR, c_sR, z_sR, k_wI, n_wI, R_wI, J_wI, I_wIe, k_wJ, n_wJ, R_wJ, I_wJ, J_wJe, I_wIn, J_wJn, I_sIe, J_sJe, R_sRe, I_sIn, I_sIk, J_sJn, J_sJk, R_sRn, R_sRk, eq_self, if_true, if_false, ↓reduceIte, cond_true, cond_false, ↓cond_eq_ite, and_true, true_and, and_false, false_and, or_true, true_or, or_false, false_or, not_true_eq_false, not_false_eq_true, ft_ltT, ft_ltF, ft_eqT, ft_eqF, Bool.false_eq_true, Bool.true_eq_false, Bool.not_true, Bool.not_false, Bool.and_true, Bool.true_and, Bool.and_false, Bool.false_and, decide_true, decide_false, Nat.reduceAdd, Nat.reduceMul, Nat.reduceSub, Nat.reduceEqDiff, Nat.reduceLT, Nat.zero_add, Nat.add_zero, Nat.reduceDiv, Nat.reduceMod, sm_k85 S4, sm_R85_1 S4, ↓sm_v85_1 S4, sm_R85_2 S4, ↓sm_v85_2 S4, sm_R85_3 S4, ↓sm_v85_3 S4, sm_R85_4 S4, ↓sm_v85_4 S4, sm_R85_5 S4, ↓sm_v85_5 S4, sm_R85_7 S4, ↓sm_v85_7 S4, sm_R85_11 S4, ↓sm_v85_11 S4, sm_R85_12 S4, ↓sm_v85_12 S4, sm_R85_15 S4, ↓sm_v85_15 S4, sm_R85_16 S4, ↓sm_v85_16 S4, sm_R85_17 S4, ↓sm_v85_17 S4, sm_R85_26 S4, ↓sm_v85_26 S4, sm_R85_29 S4, ↓sm_v85_29 S4, sm_R85_30 S4, ↓sm_v85_30 S4, sm_R85_32 S4, ↓sm_v85_32 S4, sm_R85_33 S4, ↓sm_v85_33 S4, sm_R85_34 S4, ↓sm_v85_34 S4, sm_R85_35 S4, ↓sm_v85_35 S4, sm_R85_36 S4, ↓sm_v85_36 S4, sm_R85_37 S4, ↓sm_v85_37 S4, sm_R85_38 S4, ↓sm_v85_38 S4, sm_R85_40 S4, ↓sm_v85_40 S4, sm_R85_41 S4, ↓sm_v85_41 S4, sm_R85_48 S4, ↓sm_v85_48 S4, sm_R85_49 S4, ↓sm_v85_49 S4, sm_k86 S4, sm_n86 S4, sm_k87 S4, sm_n87 S4, sm_k88 S4, sm_n88 S4, sm_k89 S4, sm_n89 S4, sm_k90 S4, sm_n90 S4, sm_k91 S4, sm_n91 S4, sm_k92 S4, sm_n92 S4, sm_k93 S4, sm_n93 S4, sm_k94 S4, sm_n94 S4, sm_k95 S4, sm_n95 S4, sm_k96 S4, sm_n96 S4, sm_k97 S4, sm_n97 S4, sm_k98 S4, sm_n98 S4, sm_k99 S4, sm_n99 S4, sm_k100 S4, sm_n100 S4, sm_k101 S4, sm_n101 S4, sm_k102 S4, sm_n102 S4, sm_k103 S4, sm_n103 S4, sm_k104 S4, sm_n104 S4, sm_k105 S4, sm_n105 S4, sm_k106 S4, sm_n106 S4, sm_k107 S4, sm_n107 S4, sm_k108 S4, sm_n108 S4, sm_k109 S4, sm_n109 S4, sm_k110 S4, sm_n110 S4, k187]
  · rw [x5.I (by omega), x34.I (by unfold d87; omega), x2.I (by unfold dRo; omega)]
    have := v1 i hi
    rw [Nat.mul_one] at this
    exact this
  · rw [x5.I (by omega), x34.I (by unfold d87; omega), v2 i hi, x12.I (by omega)]
/-- the reference, stopped -/
theorem M_opost {F : Nat × Nat} (hF : FF F) {h : jH} {s : St} {k6 k : Nat → Nat} {im : Nat → Option (Nat → Nat)} {u : List Ue} {tp : Nat → Nat} {tl : Nat} {sc : Sc} {kd : Nat → Nat} (M : MJ h s) (N : Nx (k6, im, u, tp, tl, sc, kd) s) (ek : ∀ i, i < 105 → k6 i = k i) (sv : ∀ i, i < 105 → j_I h 90 (105 + i) = nI (k i)) (U : u.length ≤ 16 ∧ ∀ j e, u[j]? = some e → (∀ i, i < 105 → j_I h 99 (106 * j + i) = nI (e.1 i)) ∧ j_I h 99 (106 * j + 105) = nI e.2.1) (cj : Int32) : ∃ h', jbV (m_M_takesBack F 85 (nI 1) h) (fun h19 => m_M_orders_123 F F.1 85 (nI u.length) cj (nI 0) h19) = jbI (m_M_refuses F 85 (mI 2) h') (fun r h => some (some (.int r), h)) ∧ MJ h' (k6, im, u, tp, tl, stC sc cj, kd) ∧ jX dMM jN h h' := by
  have hF1 := hF.1
  obtain ⟨k', im', u', tp', tl', sc', kd'⟩ := s
  obtain ⟨N1, N2, N3, N4⟩ := N
  replace N3 : im' = im := N3
  replace N4 : (tp', tl', sc', kd') = (tp, tl, sc, kd) := N4
  cases N4
  subst N3
  have M' : MI h k' im' u' tp tl sc kd := M
  have S := M'.1
  obtain ⟨h1, e1, x1, K1⟩ := M_takes (F := F) (k := k') (r := k) (q := 1) (by omega) 105 0 F.1 h rfl (by omega) S (by
    have : (fun i => if i < 0 then k i else k' i) = k' := funext fun i => if_neg (by omega)
    rw [this]; exact M'.2.2.2.1) (fun i hi => by rw [Nat.mul_one]; exact sv i hi)
  have a1 : m_M_takesBack F 85 (nI 1) h = some (none, h1) := by rw [q_M_takesBack]; exact e1
  have eK : bkK k' k = k6 := by
    funext i
    unfold bkK
    by_cases q : i < 105
    · rw [if_pos q]; exact (ek i q).symm
    · rw [if_neg q]; exact N2 i (by omega)
  rw [eK] at K1
  have M1 : MI h1 k6 im' u' tp tl sc kd := M'.k1 x1 K1
  obtain ⟨h2, e2, x2, v2⟩ := M_o123 (F := F) (v1 := nI u.length) (v3 := cj) 1696 0 F.1 h1 (by omega) (by omega) M1.1 (fun i hi => by omega)
  have S2 := M1.1.fr x2 (fun _ _ z => z)
  have x3 : jX dKp jN h1 (j_sI h2 85 31 (nI u.length)) := (x2.up (D' := dKp) (fun a i z => Or.inl z) (fun _ _ z => z)).sI (Or.inr ⟨rfl, rfl⟩)
  have v98 : ∀ i, i < 1696 → j_I (j_sI h2 85 31 (nI u.length)) 98 i = j_I h 99 i := fun i hi => by
    rw [I_sIn (by omega), v2 i hi, x2.I (by unfold dRo; omega), x1.I (by unfold d87; omega)]
  have U3 : MU (j_sI h2 85 31 (nI u.length)) u := by
    refine ⟨I_sIe, U.1, fun j e he => ?_⟩
    have hj : j < u.length := by
      rcases Nat.lt_or_ge j u.length with w | w
      · exact w
      · rw [List.getElem?_eq_none w] at he; cases he
    have ul := U.1
    obtain ⟨p1, p2⟩ := U.2 j e he
    exact ⟨fun i hi => by rw [v98 _ (by omega)]; exact p1 i hi, by rw [v98 _ (by omega)]; exact p2⟩
  have M3 := M1.u1 x3 U3
  have M4 := M3.st cj
  refine ⟨j_sI (j_sI h2 85 31 (nI u.length)) 85 42 cj, ?_, M4, ((d87_MM x1).t (dKp_MM x3)).sI (by unfold dMM; omega)⟩
  rw [bV_of a1, e2, show (1 : Nat) = 0 + 1 from rfl, q_M_orders_123, if_neg (by decide), if_pos (sm_k85 S2)]
  have S3 : ShM (j_sI h2 85 31 (nI u.length)) := S2
  have S4 : ShM (j_sI (j_sI h2 85 31 (nI u.length)) 85 42 cj) := S2
  show (if j_k (j_sI h2 85 31 (nI u.length)) 85 = 17 then _ else _) = _
  rw [if_pos (sm_k85 S3)]
  show (if j_k (j_sI (j_sI h2 85 31 (nI u.length)) 85 42 cj) 85 = 17 then _ else _) = _
  rw [if_pos (sm_k85 S4)]
