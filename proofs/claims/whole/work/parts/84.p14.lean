/-! CALL: row -/
theorem sg_in {a n : Nat} (ha : a < 256) (hn : n < 128) (e : sg a = nI n) : a = n := by
  unfold sg at e
  by_cases q : a < 128
  · rw [if_pos q] at e
    rw [nI_eq (by omega) (by omega)] at e; exact e
  · rw [if_neg q] at e
    rw [ft_meq (by omega) (by omega)] at e; exact e.elim
theorem sg_lo {a : Nat} (h : a < 128) : sg a = nI a := by unfold sg; rw [if_pos h]
def rwP (a b c : Nat) : Bool := decide (a < 25 ∧ b ≤ 3 ∧ c ≤ 9)
theorem canS {F : Nat × Nat} {h : jH} {a b c : Nat} (ha : a < 256) (hb : b < 256) (hc : c < 256) : m_M_canCell F (sg a) (sg b) (sg c) h = some (some (.int (nI (ft_z (rwP a b c)))), h) ∧ m_F_canLie F (nI a) (nI b) (nI c) h = some (some (.int (nI (ft_z (rwP a b c)))), h) := by
  by_cases q : a < 25 ∧ b ≤ 3 ∧ c ≤ 9
  · have z : rwP a b c = true := decide_eq_true q
    rw [z, sg_lo (by omega), sg_lo (by omega), sg_lo (by omega)]
    exact can1 q.1 q.2.1 q.2.2
  · have z : rwP a b c = false := decide_eq_false q
    rw [z]
    constructor
    · rcases canQ (sg a) (sg b) (sg c) with ⟨n, v, g, hn, hv, hg, e1, e2, e3⟩ | r
      · have := sg_in ha (by omega) e1
        have := sg_in hb (by omega) e2
        have := sg_in hc (by omega) e3
        omega
      · exact (r F h).1
    · rcases canQ (nI a) (nI b) (nI c) with ⟨n, v, g, hn, hv, hg, e1, e2, e3⟩ | r
      · rw [nI_eq (by omega) (by omega)] at e1 e2 e3
        omega
      · exact (r F h).2
def rwO (tp : Nat → Nat) (m : Nat) : Bool := rwP (tp (3 * m)) (tp (3 * m + 1)) (tp (3 * m + 2))
def rwK (k tp : Nat → Nat) : Nat → (Nat → Nat)
  | 0 => k
  | m + 1 => if rwO tp m then lyK (rwK k tp m) (tp (3 * m)) (tp (3 * m + 1)) (tp (3 * m + 2)) else rwK k tp m
theorem rwO_b {tp : Nat → Nat} {m : Nat} (h : rwO tp m = true) : tp (3 * m) < 25 ∧ tp (3 * m + 1) ≤ 3 ∧ tp (3 * m + 2) ≤ 9 := of_decide_eq_true h
theorem rwK_W {k tp : Nat → Nat} (W : WK k) : ∀ m, WK (rwK k tp m)
  | 0 => W
  | m + 1 => by
    unfold rwK
    split
    · rename_i h
      obtain ⟨h1, h2, h3⟩ := rwO_b h
      exact lyK_W (rwK_W W m) h1 h2 h3
    · exact rwK_W W m
theorem rwK_o {k tp : Nat → Nat} {i : Nat} (h : i < 105 ∨ 155 ≤ i) : ∀ m, rwK k tp m i = k i
  | 0 => rfl
  | m + 1 => by
    unfold rwK
    split
    · rename_i q
      obtain ⟨h1, h2, h3⟩ := rwO_b q
      rw [lyK_o h1 h]; exact rwK_o h m
    · exact rwK_o h m
def dRm : Nat → Nat → Prop := fun a i => a = 87 ∨ (a = 85 ∧ i = 6)
theorem M_row_40 {F : Nat × Nat} {k tp : Nat → Nat} (W : WK k) {tl r0 : Nat} (ht : tl ≤ 400) (hr : r0 ≤ 1) : ∀ d m f h, m + d = tl / 3 → d < f → ShM h → KM h (rwK k tp m) → TQ h tp tl → j_I h 85 6 = nI (r0 + (m - cnt (rwO tp) m)) → ∃ h1, m_M_row_40 F f 85 (nI tl) (nI (cnt (rwO tp) m)) (nI (3 * m)) h = m_M_good F 85 (nI (cnt (rwO tp) (tl / 3))) h1 ∧ jX dRm jN h h1 ∧ KM h1 (rwK k tp (tl / 3)) ∧ j_I h1 85 6 = nI (r0 + (tl / 3 - cnt (rwO tp) (tl / 3)))
  | 0, m, f + 1, h, e, _, S, K, T, B => by
    have hm : m = tl / 3 := by omega
    have cl := cnt_le (rwO tp) m
    refine ⟨h, ?_, jX.rf, by rw [← hm]; exact K, by rw [← hm]; exact B⟩
    rw [q_M_row_40, ft_add, if_pos (by rw [ft_lt (by omega) (by omega)]; omega), if_pos (sm_k85 S), ← hm]
    rw [bI_eta (M_good S _), M_good S]
  | d + 1, m, f + 1, h, e, hf, S, K, T, B => by
    have cl := cnt_le (rwO tp) m
    obtain ⟨t1, b1⟩ := T.2 (3 * m) (by omega)
    obtain ⟨t2, b2⟩ := T.2 (3 * m + 1) (by omega)
    obtain ⟨t3, b3⟩ := T.2 (3 * m + 2) (by omega)
    have cn := (canS (F := F) (h := h) b1 b2 b3).1
    have cb : ∀ ff : Int32 → jH → Option jO, jbI (m_M_canCell F (j_I h 92 (nI (3 * m)).toNatClampNeg) (j_I h 92 (nI (3 * m) + nI 1).toNatClampNeg) (j_I h 92 (nI (3 * m) + nI 2).toNatClampNeg) h) ff = ff (nI (ft_z (rwO tp m))) h := fun ff => by
      rw [ft_add, ft_add, ft_cl (by omega), ft_cl (by omega), ft_cl (by omega), t1, t2, t3, bI_of cn]; rfl
    have cs : cnt (rwO tp) (m + 1) = cnt (rwO tp) m + ft_z (rwO tp m) := rfl
    have e3 : 3 * (m + 1) = 3 * m + 3 := by omega
    cases q : rwO tp m with
    | false =>
      rw [q] at cb cs
      have z : rwK k tp (m + 1) = rwK k tp m := by
        show (if rwO tp m then _ else _) = _
        rw [if_neg (by rw [q]; decide)]
      have x0 : jX dRm jN h (j_sI h 85 6 (nI (r0 + (m - cnt (rwO tp) m) + 1))) := jX.rf.sI (by unfold dRm; omega)
      obtain ⟨h1, e1, x1, K1, B1⟩ := M_row_40 (F := F) (tp := tp) W ht hr d (m + 1) f (j_sI h 85 6 (nI (r0 + (m - cnt (rwO tp) m) + 1))) (by omega) (by omega) (S.fr x0 (fun _ _ z => z)) (by rw [z]; exact K.oth (by omega)) ⟨T.1, fun i hi => by rw [I_sIn (by omega)]; exact T.2 i hi⟩ (by
        rw [I_sIe, cs]
        have c0 : cnt (rwO tp) m + ft_z false = cnt (rwO tp) m := rfl
        rw [c0]
        congr 1; omega)
      refine ⟨h1, ?_, x0.t x1, K1, B1⟩
      have c0 : cnt (rwO tp) m + ft_z false = cnt (rwO tp) m := rfl
      rw [cs, c0, e3] at e1
      rw [← e1, q_M_row_40, ft_add, if_neg (by rw [ft_lt (by omega) (by omega)]; omega)]
      simp (disch := first | exact sR_rfl _ _ rfl | omega) only [ft_lit, ft_m1, ft_m2, ft_m3, ft_m5, ft_m6, ft_cl, ft_lt, ft_le, ft_eq, ft_mlt, ft_ltm, ft_mltm, ft_meq, ft_eqm, ft_meqm, ft_add, ft_mul, ft_sub, ft_nm, ft_m1p, ft_and, ft_or, ft_31, ft_shl, ft_shr, ft_bz, ft_z0, ft_z1, ft_z01, ft_bb, ft_zt, ft_zf, ft_or0, ft_rv, ft_rvr, ft_rf, ft_rfn, ft_bI, ft_bJ, ft_bV, ft_bR, ft_bRn, ft_isr, ft_isn, ft_ifn, ft_ifr, ft_ov, ft_ovn, ft_in, k_sI, n_sI, R_sI, J_sI, c_sI, z_sI, k_sJ, n_sJ, R_sJ, I_sJ, c_sJ, z_sJ, k_sR, n_sR, I_sR, J_sR, c_sR, z_sR, k_wI, n_wI, R_wI, J_wI, I_wIe, k_wJ, n_wJ, R_wJ, I_wJ, J_wJe, I_wIn, J_wJn, I_sIe, J_sJe, R_sRe, I_sIn, I_sIk, J_sJn, J_sJk, R_sRn, R_sRk, eq_self, if_true, if_false, ↓reduceIte, cond_true, cond_false, ↓cond_eq_ite, and_true, true_and, and_false, false_and, or_true, true_or, or_false, false_or, not_true_eq_false, not_false_eq_true, ft_ltT, ft_ltF, ft_eqT, ft_eqF, Bool.false_eq_true, Bool.true_eq_false, Bool.not_true, Bool.not_false, Bool.and_true, Bool.true_and, Bool.and_false, Bool.false_and, decide_true, decide_false, Nat.reduceAdd, Nat.reduceMul, Nat.reduceSub, Nat.reduceEqDiff, Nat.reduceLT, Nat.zero_add, Nat.add_zero, Nat.reduceDiv, Nat.reduceMod, sm_k85 S, sm_R85_1 S, ↓sm_v85_1 S, sm_R85_2 S, ↓sm_v85_2 S, sm_R85_3 S, ↓sm_v85_3 S, sm_R85_4 S, ↓sm_v85_4 S, sm_R85_5 S, ↓sm_v85_5 S, sm_R85_7 S, ↓sm_v85_7 S, sm_R85_11 S, ↓sm_v85_11 S, sm_R85_12 S, ↓sm_v85_12 S, sm_R85_15 S, ↓sm_v85_15 S, sm_R85_16 S, ↓sm_v85_16 S, sm_R85_17 S, ↓sm_v85_17 S, sm_R85_26 S, ↓sm_v85_26 S, sm_R85_29 S, ↓sm_v85_29 S, sm_R85_30 S, ↓sm_v85_30 S, sm_R85_32 S, ↓sm_v85_32 S, sm_R85_33 S, ↓sm_v85_33 S, sm_R85_34 S, ↓sm_v85_34 S, sm_R85_35 S, ↓sm_v85_35 S, sm_R85_36 S, ↓sm_v85_36 S, sm_R85_37 S, ↓sm_v85_37 S, sm_R85_38 S, ↓sm_v85_38 S, sm_R85_40 S, ↓sm_v85_40 S, sm_R85_41 S, ↓sm_v85_41 S, sm_R85_48 S, ↓sm_v85_48 S, sm_R85_49 S, ↓sm_v85_49 S, sm_k86 S, sm_n86 S, sm_k87 S, sm_n87 S, sm_k88 S, sm_n88 S, sm_k89 S, sm_n89 S, sm_k90 S, sm_n90 S, sm_k91 S, sm_n91 S, sm_k92 S, sm_n92 S, sm_k93 S, sm_n93 S, sm_k94 S, sm_n94 S, sm_k95 S, sm_n95 S, sm_k96 S, sm_n96 S, sm_k97 S, sm_n97 S, sm_k98 S, sm_n98 S, sm_k99 S, sm_n99 S, sm_k100 S, sm_n100 S, sm_k101 S, sm_n101 S, sm_k102 S, sm_n102 S, sm_k103 S, sm_n103 S, sm_k104 S, sm_n104 S, sm_k105 S, sm_n105 S, sm_k106 S, sm_n106 S, sm_k107 S, sm_n107 S, sm_k108 S, sm_n108 S, sm_k109 S, sm_n109 S, sm_k110 S, sm_n110 S, ↓cb, q_M_row_105, B]
    | true =>
      rw [q] at cb cs
      obtain ⟨h1, h2, h3⟩ := rwO_b q
      have z : rwK k tp (m + 1) = lyK (rwK k tp m) (tp (3 * m)) (tp (3 * m + 1)) (tp (3 * m + 2)) := by
        show (if rwO tp m then _ else _) = _
        rw [if_pos q]
      rw [sg_lo (by omega)] at t1 t2 t3
      obtain ⟨h2', e2, x2, K2⟩ := M_laysCell (F := F) S K (n := tp (3 * m)) (v := tp (3 * m + 1)) (g := tp (3 * m + 2)) h1
      have S2 := S.fr x2 (fun _ _ z => z)
      have B2 : j_I h2' 85 6 = nI (r0 + (m - cnt (rwO tp) m)) := by rw [x2.I (by unfold d87; omega)]; exact B
      have x0 : jX dRm jN h (j_sI h2' 85 6 (nI (r0 + (m - cnt (rwO tp) m)))) := (x2.up (D' := dRm) (E' := jN) (fun a i d => by unfold d87 at d; unfold dRm; omega) (fun _ _ z => z)).sI (by unfold dRm; omega)
      have c1 : cnt (rwO tp) m + ft_z true = cnt (rwO tp) m + 1 := rfl
      obtain ⟨h3', e3', x3, K3, B3⟩ := M_row_40 (F := F) (tp := tp) W ht hr d (m + 1) f (j_sI h2' 85 6 (nI (r0 + (m - cnt (rwO tp) m)))) (by omega) (by omega) (S.fr x0 (fun _ _ z => z)) (by rw [z]; exact K2.oth (by omega)) ⟨T.1, fun i hi => by rw [I_sIn (by omega), x2.I (by unfold d87; omega)]; exact T.2 i hi⟩ (by
        rw [I_sIe, cs, c1]
        congr 1; omega)
      refine ⟨h3', ?_, x0.t x3, K3, B3⟩
      have lb : ∀ ff : jH → Option jO, jbV (m_M_laysCell F 85 (j_I h 92 (nI (3 * m)).toNatClampNeg) (j_I h 92 (nI (3 * m) + nI 1).toNatClampNeg) (j_I h 92 (nI (3 * m) + nI 2).toNatClampNeg) h) ff = ff h2' := fun ff => by rw [ft_add, ft_add, ft_cl (by omega), ft_cl (by omega), ft_cl (by omega), t1, t2, t3, bV_of e2]
      have k2 := sm_k85 S2
      rw [cs, c1, e3] at e3'
      rw [← e3', q_M_row_40, ft_add, if_neg (by rw [ft_lt (by omega) (by omega)]; omega)]
      simp (disch := first | exact sR_rfl _ _ rfl | omega) only [ft_lit, ft_m1, ft_m2, ft_m3, ft_m5, ft_m6, ft_cl, ft_lt, ft_le, ft_eq, ft_mlt, ft_ltm, ft_mltm, ft_meq, ft_eqm, ft_meqm, ft_add, ft_mul, ft_sub, ft_nm, ft_m1p, ft_and, ft_or, ft_31, ft_shl, ft_shr, ft_bz, ft_z0, ft_z1, ft_z01, ft_bb, ft_zt, ft_zf, ft_or0, ft_rv, ft_rvr, ft_rf, ft_rfn, ft_bI, ft_bJ, ft_bV, ft_bR, ft_bRn, ft_isr, ft_isn, ft_ifn, ft_ifr, ft_ov, ft_ovn, ft_in, k_sI, n_sI, R_sI, J_sI, c_sI, z_sI, k_sJ, n_sJ, R_sJ, I_sJ, c_sJ, z_sJ, k_sR, n_sR, I_sR, J_sR, c_sR, z_sR, k_wI, n_wI, R_wI, J_wI, I_wIe, k_wJ, n_wJ, R_wJ, I_wJ, J_wJe, I_wIn, J_wJn, I_sIe, J_sJe, R_sRe, I_sIn, I_sIk, J_sJn, J_sJk, R_sRn, R_sRk, eq_self, if_true, if_false, ↓reduceIte, cond_true, cond_false, ↓cond_eq_ite, and_true, true_and, and_false, false_and, or_true, true_or, or_false, false_or, not_true_eq_false, not_false_eq_true, ft_ltT, ft_ltF, ft_eqT, ft_eqF, Bool.false_eq_true, Bool.true_eq_false, Bool.not_true, Bool.not_false, Bool.and_true, Bool.true_and, Bool.and_false, Bool.false_and, decide_true, decide_false, Nat.reduceAdd, Nat.reduceMul, Nat.reduceSub, Nat.reduceEqDiff, Nat.reduceLT, Nat.zero_add, Nat.add_zero, Nat.reduceDiv, Nat.reduceMod, sm_k85 S, sm_R85_1 S, ↓sm_v85_1 S, sm_R85_2 S, ↓sm_v85_2 S, sm_R85_3 S, ↓sm_v85_3 S, sm_R85_4 S, ↓sm_v85_4 S, sm_R85_5 S, ↓sm_v85_5 S, sm_R85_7 S, ↓sm_v85_7 S, sm_R85_11 S, ↓sm_v85_11 S, sm_R85_12 S, ↓sm_v85_12 S, sm_R85_15 S, ↓sm_v85_15 S, sm_R85_16 S, ↓sm_v85_16 S, sm_R85_17 S, ↓sm_v85_17 S, sm_R85_26 S, ↓sm_v85_26 S, sm_R85_29 S, ↓sm_v85_29 S, sm_R85_30 S, ↓sm_v85_30 S, sm_R85_32 S, ↓sm_v85_32 S, sm_R85_33 S, ↓sm_v85_33 S, sm_R85_34 S, ↓sm_v85_34 S, sm_R85_35 S, ↓sm_v85_35 S, sm_R85_36 S, ↓sm_v85_36 S, sm_R85_37 S, ↓sm_v85_37 S, sm_R85_38 S, ↓sm_v85_38 S, sm_R85_40 S, ↓sm_v85_40 S, sm_R85_41 S, ↓sm_v85_41 S, sm_R85_48 S, ↓sm_v85_48 S, sm_R85_49 S, ↓sm_v85_49 S, sm_k86 S, sm_n86 S, sm_k87 S, sm_n87 S, sm_k88 S, sm_n88 S, sm_k89 S, sm_n89 S, sm_k90 S, sm_n90 S, sm_k91 S, sm_n91 S, sm_k92 S, sm_n92 S, sm_k93 S, sm_n93 S, sm_k94 S, sm_n94 S, sm_k95 S, sm_n95 S, sm_k96 S, sm_n96 S, sm_k97 S, sm_n97 S, sm_k98 S, sm_n98 S, sm_k99 S, sm_n99 S, sm_k100 S, sm_n100 S, sm_k101 S, sm_n101 S, sm_k102 S, sm_n102 S, sm_k103 S, sm_n103 S, sm_k104 S, sm_n104 S, sm_k105 S, sm_n105 S, sm_k106 S, sm_n106 S, sm_k107 S, sm_n107 S, sm_k108 S, sm_n108 S, sm_k109 S, sm_n109 S, sm_k110 S, sm_n110 S, ↓cb, ↓lb]
      simp (disch := first | exact sR_rfl _ _ rfl | omega) only [ft_lit, ft_m1, ft_m2, ft_m3, ft_m5, ft_m6, ft_cl, ft_lt, ft_le, ft_eq, ft_mlt, ft_ltm, ft_mltm, ft_meq, ft_eqm, ft_meqm, ft_add, ft_mul, ft_sub, ft_nm, ft_m1p, ft_and, ft_or, ft_31, ft_shl, ft_shr, ft_bz, ft_z0, ft_z1, ft_z01, ft_bb, ft_zt, ft_zf, ft_or0, ft_rv, ft_rvr, ft_rf, ft_rfn, ft_bI, ft_bJ, ft_bV, ft_bR, ft_bRn, ft_isr, ft_isn, ft_ifn, ft_ifr, ft_ov, ft_ovn, ft_in, k_sI, n_sI, R_sI, J_sI, c_sI, z_sI, k_sJ, n_sJ, R_sJ, I_sJ, c_sJ, z_sJ, k_sR, n_sR, I_sR, J_sR, c_sR, z_sR, k_wI, n_wI, R_wI, J_wI, I_wIe, k_wJ, n_wJ, R_wJ, I_wJ, J_wJe, I_wIn, J_wJn, I_sIe, J_sJe, R_sRe, I_sIn, I_sIk, J_sJn, J_sJk, R_sRn, R_sRk, eq_self, if_true, if_false, ↓reduceIte, cond_true, cond_false, ↓cond_eq_ite, and_true, true_and, and_false, false_and, or_true, true_or, or_false, false_or, not_true_eq_false, not_false_eq_true, ft_ltT, ft_ltF, ft_eqT, ft_eqF, Bool.false_eq_true, Bool.true_eq_false, Bool.not_true, Bool.not_false, Bool.and_true, Bool.true_and, Bool.and_false, Bool.false_and, decide_true, decide_false, Nat.reduceAdd, Nat.reduceMul, Nat.reduceSub, Nat.reduceEqDiff, Nat.reduceLT, Nat.zero_add, Nat.add_zero, Nat.reduceDiv, Nat.reduceMod, q_M_row_105, k2, B2]
def blC (sc : Sc) (b : Int32) : Sc := (sc.1, sc.2.1, b, sc.2.2.2)
theorem MI.rw {h h' : jH} {k k' : Nat → Nat} {im : Nat → Option (Nat → Nat)} {u : List Ue} {tp : Nat → Nat} {tl : Nat} {sc : Sc} {kd : Nat → Nat} {b : Int32} (M : MI h k im u tp tl sc kd) (x : jX dRm jN h h') (K : KM h' k') (B : j_I h' 85 6 = b) : MI h' k' im u tp tl (blC sc b) kd := by
  obtain ⟨m1, m2, m3, m4, m5, m6, m7, m8, m9⟩ := M
  have n : ∀ a i, (a ≠ 85 ∧ a ≠ 87) ∨ (a = 85 ∧ i ≠ 6) → j_I h' a i = j_I h a i := fun a i q => x.I (fun z => by unfold dRm at z; omega)
  refine ⟨m1.fr x (fun _ _ z => z), ?_, ?_, K, ?_, ?_, ?_, ?_, ?_⟩
  · unfold WM at m2 ⊢
    simp (disch := omega) only [n]
    exact m2
  · unfold SB at m3 ⊢
    simp (disch := omega) only [n]
    exact m3
  · unfold MIm at m5 ⊢
    simp (disch := omega) only [n]
    exact m5
  · unfold MU at m6 ⊢
    simp (disch := omega) only [n]
    exact m6
  · unfold MT TQ at m7 ⊢
    simp (disch := omega) only [n]
    exact m7
  · unfold MS at m8 ⊢
    simp (disch := omega) only [n]
    exact ⟨m8.1, m8.2.1, B, m8.2.2.2⟩
  · unfold MD at m9 ⊢
    simp (disch := omega) only [n]
    exact m9
def dRc : Nat → Nat → Prop := fun a i => a = 6 ∨ a = 7 ∨ (a = 4 ∧ i = 15)
theorem C_row_28 {F : Nat × Nat} {k tp : Nat → Nat} (W : WK k) {tl : Nat} (ht : tl ≤ 400) : ∀ d m f h, m + d = tl / 3 → d + 1 < f → ShF h → LA h 5 → LI h 5 (rwK k tp m) → (∀ i, i < tl → j_I h 61 i = nI (tp i) ∧ tp i < 256) → j_I h 4 15 = nI (m - cnt (rwO tp) m) → ∃ h1, m_F_row_28 F f 4 (nI tl) (nI (cnt (rwO tp) m)) (nI (3 * m)) h = m_F_accept F 4 (nI (cnt (rwO tp) (tl / 3))) (j_sI h1 60 1 (nI 0)) ∧ jX dRc jN h h1 ∧ LI h1 5 (rwK k tp (tl / 3)) ∧ j_I h1 4 15 = nI ((if tl % 3 = 0 then 0 else 1) + (tl / 3 - cnt (rwO tp) (tl / 3)))
  | 0, m, f + 2, h, e, _, S, A, I, T, B => by
    have hm : m = tl / 3 := by omega
    have cl := cnt_le (rwO tp) m
    by_cases c0 : tl % 3 = 0
    · refine ⟨h, ?_, jX.rf, by rw [← hm]; exact I, by rw [if_pos c0, Nat.zero_add, ← hm]; exact B⟩
      rw [q_F_row_28, if_neg (by rw [ft_lt (by omega) (by omega)]; omega), if_pos (sf_k4 S), sf_v4_6 S (sR_rfl _ _ rfl), if_pos (sf_k60 S), ← hm]
      show (if j_k (j_sI h 60 1 (nI 0)) 4 = 10 then _ else _) = _
      have S2 : ShF (j_sI h 60 1 (nI 0)) := S
      rw [if_pos (sf_k4 S2), bI_eta (C_accept S2 _), C_accept S2]
    · have xs : jX (fun a i => a = 4 ∧ i = 15) jN h (j_sI h 4 15 (nI (m - cnt (rwO tp) m + 1))) := jX.rf.sI ⟨rfl, rfl⟩
      have x0 : jX dRc jN h (j_sI h 4 15 (nI (m - cnt (rwO tp) m + 1))) := xs.up (fun a i d => by unfold dRc; omega) (fun _ _ z => z)
      refine ⟨j_sI h 4 15 (nI (m - cnt (rwO tp) m + 1)), ?_, x0, by rw [← hm]; exact I.fr xs (fun j i hj => by omega), by rw [if_neg c0, I_sIe, ← hm]; congr 1; omega⟩
      have S1 := S.fr x0 (fun _ _ z => z)
      have S2 : ShF (j_sI (j_sI h 4 15 (nI (m - cnt (rwO tp) m + 1))) 60 1 (nI 0)) := S1
      have ea := bI_eta (C_accept (F := F) S2 (nI (cnt (rwO tp) m)))
      rw [← hm, C_accept (F := F) S2, ← ea, q_F_row_28, if_pos (by rw [ft_lt (by omega) (by omega)]; omega), ft_add, if_neg (by rw [ft_lt (by omega) (by omega)]; omega), if_pos (sf_k4 S), if_pos (sf_k4 S), B, ft_add, ft_add]
      show m_F_row_28 F (f + 1) 4 (nI tl) (nI (cnt (rwO tp) m)) (nI (3 * m + 3)) (j_sI h 4 15 (nI (m - cnt (rwO tp) m + 1))) = _
      rw [q_F_row_28, if_neg (by rw [ft_lt (by omega) (by omega)]; omega), if_pos (sf_k4 S1), sf_v4_6 S1 (sR_rfl _ _ rfl), if_pos (sf_k60 S1)]
      show (if j_k (j_sI (j_sI h 4 15 (nI (m - cnt (rwO tp) m + 1))) 60 1 (nI 0)) 4 = 10 then _ else _) = _
      rw [if_pos (sf_k4 S2)]
  | d + 1, m, f + 1, h, e, hf, S, A, I, T, B => by
    have cl := cnt_le (rwO tp) m
    have Wm := rwK_W (tp := tp) W m
    obtain ⟨t1, b1⟩ := T (3 * m) (by omega)
    obtain ⟨t2, b2⟩ := T (3 * m + 1) (by omega)
    obtain ⟨t3, b3⟩ := T (3 * m + 2) (by omega)
    have cn := (canS (F := F) (h := h) b1 b2 b3).2
    have cb : ∀ ff : Int32 → jH → Option jO, jbI (m_F_canLie F (j_I h 61 (nI (3 * m)).toNatClampNeg) (j_I h 61 (nI (3 * m) + nI 1).toNatClampNeg) (j_I h 61 (nI (3 * m + 2)).toNatClampNeg) h) ff = ff (nI (ft_z (rwO tp m))) h := fun ff => by
      rw [ft_add, ft_cl (by omega), ft_cl (by omega), ft_cl (by omega), t1, t2, t3, bI_of cn]; rfl
    have cs : cnt (rwO tp) (m + 1) = cnt (rwO tp) m + ft_z (rwO tp m) := rfl
    have e3 : 3 * (m + 1) = 3 * m + 3 := by omega
    cases q : rwO tp m with
    | false =>
      rw [q] at cb cs
      have z : rwK k tp (m + 1) = rwK k tp m := by
        show (if rwO tp m then _ else _) = _
        rw [if_neg (by rw [q]; decide)]
      have xs : jX (fun a i => a = 4 ∧ i = 15) jN h (j_sI h 4 15 (nI (m - cnt (rwO tp) m + 1))) := jX.rf.sI ⟨rfl, rfl⟩
      have x0 : jX dRc jN h (j_sI h 4 15 (nI (m - cnt (rwO tp) m + 1))) := xs.up (fun a i d => by unfold dRc; omega) (fun _ _ z => z)
      have c0 : cnt (rwO tp) m + ft_z false = cnt (rwO tp) m := rfl
      obtain ⟨h1, e1, x1, I1, B1⟩ := C_row_28 (F := F) (tp := tp) W ht d (m + 1) f (j_sI h 4 15 (nI (m - cnt (rwO tp) m + 1))) (by omega) (by omega) (S.fr x0 (fun _ _ z => z)) (A.fr x0 (fun _ z => z)) (by rw [z]; exact I.fr xs (fun j i hj => by omega)) (fun i hi => by rw [I_sIn (by omega)]; exact T i hi) (by
        rw [I_sIe, cs, c0]
        congr 1; omega)
      refine ⟨h1, ?_, x0.t x1, I1, B1⟩
      rw [cs, c0, e3] at e1
      rw [← e1, q_F_row_28, if_pos (by rw [ft_lt (by omega) (by omega)]; omega), ft_add, if_pos (by rw [ft_lt (by omega) (by omega)]; omega)]
      simp (disch := first | exact sR_rfl _ _ rfl | omega) only [ft_lit, ft_m1, ft_m2, ft_m3, ft_m5, ft_m6, ft_cl, ft_lt, ft_le, ft_eq, ft_mlt, ft_ltm, ft_mltm, ft_meq, ft_eqm, ft_meqm, ft_add, ft_mul, ft_sub, ft_nm, ft_m1p, ft_and, ft_or, ft_31, ft_shl, ft_shr, ft_bz, ft_z0, ft_z1, ft_z01, ft_bb, ft_zt, ft_zf, ft_or0, ft_rv, ft_rvr, ft_rf, ft_rfn, ft_bI, ft_bJ, ft_bV, ft_bR, ft_bRn, ft_isr, ft_isn, ft_ifn, ft_ifr, ft_ov, ft_ovn, ft_in, k_sI, n_sI, R_sI, J_sI, c_sI, z_sI, k_sJ, n_sJ, R_sJ, I_sJ, c_sJ, z_sJ, k_sR, n_sR, I_sR, J_sR, c_sR, z_sR, k_wI, n_wI, R_wI, J_wI, I_wIe, k_wJ, n_wJ, R_wJ, I_wJ, J_wJe, I_wIn, J_wJn, I_sIe, J_sJe, R_sRe, I_sIn, I_sIk, J_sJn, J_sJk, R_sRn, R_sRk, eq_self, if_true, if_false, ↓reduceIte, cond_true, cond_false, ↓cond_eq_ite, and_true, true_and, and_false, false_and, or_true, true_or, or_false, false_or, not_true_eq_false, not_false_eq_true, ft_ltT, ft_ltF, ft_eqT, ft_eqF, Bool.false_eq_true, Bool.true_eq_false, Bool.not_true, Bool.not_false, Bool.and_true, Bool.true_and, Bool.and_false, Bool.false_and, decide_true, decide_false, Nat.reduceAdd, Nat.reduceMul, Nat.reduceSub, Nat.reduceEqDiff, Nat.reduceLT, Nat.zero_add, Nat.add_zero, Nat.reduceDiv, Nat.reduceMod, sf_k4 S, sf_R4_0 S, ↓sf_v4_0 S, sf_R4_1 S, ↓sf_v4_1 S, sf_R4_2 S, ↓sf_v4_2 S, sf_R4_3 S, ↓sf_v4_3 S, sf_R4_4 S, ↓sf_v4_4 S, sf_R4_5 S, ↓sf_v4_5 S, sf_R4_6 S, ↓sf_v4_6 S, sf_R4_7 S, ↓sf_v4_7 S, sf_R4_8 S, ↓sf_v4_8 S, sf_R4_9 S, ↓sf_v4_9 S, sf_R4_10 S, ↓sf_v4_10 S, sf_R4_11 S, ↓sf_v4_11 S, sf_R4_12 S, ↓sf_v4_12 S, sf_k5 S, sf_R5_0 S, ↓sf_v5_0 S, sf_R5_1 S, ↓sf_v5_1 S, sf_R5_3 S, ↓sf_v5_3 S, sf_R5_4 S, ↓sf_v5_4 S, sf_R5_5 S, ↓sf_v5_5 S, sf_R5_6 S, ↓sf_v5_6 S, sf_R5_7 S, ↓sf_v5_7 S, sf_R5_9 S, ↓sf_v5_9 S, sf_R5_10 S, ↓sf_v5_10 S, sf_R5_11 S, ↓sf_v5_11 S, sf_R5_12 S, ↓sf_v5_12 S, sf_k17 S, sf_R17_0 S, ↓sf_v17_0 S, sf_R17_1 S, ↓sf_v17_1 S, sf_R17_3 S, ↓sf_v17_3 S, sf_R17_4 S, ↓sf_v17_4 S, sf_R17_5 S, ↓sf_v17_5 S, sf_R17_6 S, ↓sf_v17_6 S, sf_R17_7 S, ↓sf_v17_7 S, sf_R17_9 S, ↓sf_v17_9 S, sf_R17_10 S, ↓sf_v17_10 S, sf_R17_11 S, ↓sf_v17_11 S, sf_R17_12 S, ↓sf_v17_12 S, sf_k29 S, sf_R29_0 S, ↓sf_v29_0 S, sf_R29_1 S, ↓sf_v29_1 S, sf_R29_3 S, ↓sf_v29_3 S, sf_R29_4 S, ↓sf_v29_4 S, sf_R29_5 S, ↓sf_v29_5 S, sf_R29_6 S, ↓sf_v29_6 S, sf_R29_7 S, ↓sf_v29_7 S, sf_R29_9 S, ↓sf_v29_9 S, sf_R29_10 S, ↓sf_v29_10 S, sf_R29_11 S, ↓sf_v29_11 S, sf_R29_12 S, ↓sf_v29_12 S, sf_k41 S, sf_n41 S, sf_k42 S, sf_R42_0 S, ↓sf_v42_0 S, sf_R42_1 S, ↓sf_v42_1 S, sf_R42_2 S, ↓sf_v42_2 S, sf_R42_3 S, ↓sf_v42_3 S, sf_R42_4 S, ↓sf_v42_4 S, sf_R42_5 S, ↓sf_v42_5 S, sf_R42_6 S, ↓sf_v42_6 S, sf_R42_7 S, ↓sf_v42_7 S, sf_k51 S, sf_R51_0 S, ↓sf_v51_0 S, sf_R51_1 S, ↓sf_v51_1 S, sf_R51_2 S, ↓sf_v51_2 S, sf_R51_3 S, ↓sf_v51_3 S, sf_R51_4 S, ↓sf_v51_4 S, sf_R51_5 S, ↓sf_v51_5 S, sf_R51_6 S, ↓sf_v51_6 S, sf_R51_7 S, ↓sf_v51_7 S, sf_k60 S, sf_R60_0 S, ↓sf_v60_0 S, sf_R60_3 S, ↓sf_v60_3 S, sf_R60_4 S, ↓sf_v60_4 S, sf_R60_5 S, ↓sf_v60_5 S, sf_R60_6 S, ↓sf_v60_6 S, sf_k72 S, sf_R72_0 S, ↓sf_v72_0 S, sf_R72_1 S, ↓sf_v72_1 S, sf_k75 S, sf_R75_0 S, ↓sf_v75_0 S, sf_R75_1 S, ↓sf_v75_1 S, sf_R75_2 S, ↓sf_v75_2 S, sf_R75_3 S, ↓sf_v75_3 S, sf_R75_4 S, ↓sf_v75_4 S, sf_k81 S, sf_n81 S, sf_k82 S, sf_n82 S, sf_k83 S, sf_n83 S, sf_k84 S, sf_n84 S, sf_k6 S, sf_n6 S, sf_k7 S, sf_n7 S, sf_k8 S, sf_n8 S, sf_k9 S, sf_n9 S, sf_k10 S, sf_n10 S, sf_k11 S, sf_n11 S, sf_k12 S, sf_n12 S, sf_k13 S, sf_n13 S, sf_k14 S, sf_n14 S, sf_k15 S, sf_n15 S, sf_k16 S, sf_n16 S, sf_k18 S, sf_n18 S, sf_k19 S, sf_n19 S, sf_k20 S, sf_n20 S, sf_k21 S, sf_n21 S, sf_k22 S, sf_n22 S, sf_k23 S, sf_n23 S, sf_k24 S, sf_n24 S, sf_k25 S, sf_n25 S, sf_k26 S, sf_n26 S, sf_k27 S, sf_n27 S, sf_k28 S, sf_n28 S, sf_k30 S, sf_n30 S, sf_k31 S, sf_n31 S, sf_k32 S, sf_n32 S, sf_k33 S, sf_n33 S, sf_k34 S, sf_n34 S, sf_k35 S, sf_n35 S, sf_k36 S, sf_n36 S, sf_k37 S, sf_n37 S, sf_k38 S, sf_n38 S, sf_k39 S, sf_n39 S, sf_k40 S, sf_n40 S, sf_k43 S, sf_n43 S, sf_k44 S, sf_n44 S, sf_k45 S, sf_n45 S, sf_k46 S, sf_n46 S, sf_k47 S, sf_n47 S, sf_k48 S, sf_n48 S, sf_k49 S, sf_n49 S, sf_k50 S, sf_n50 S, sf_k52 S, sf_n52 S, sf_k53 S, sf_n53 S, sf_k54 S, sf_n54 S, sf_k55 S, sf_n55 S, sf_k56 S, sf_n56 S, sf_k57 S, sf_n57 S, sf_k58 S, sf_n58 S, sf_k59 S, sf_n59 S, sf_k61 S, sf_n61 S, sf_k62 S, sf_R62_0 S, ↓sf_v62_0 S, sf_R62_1 S, ↓sf_v62_1 S, sf_R62_2 S, ↓sf_v62_2 S, sf_R62_3 S, ↓sf_v62_3 S, sf_R62_4 S, ↓sf_v62_4 S, sf_R62_5 S, ↓sf_v62_5 S, sf_k69 S, sf_n69 S, sf_k70 S, sf_n70 S, sf_k71 S, sf_n71 S, sf_k73 S, sf_n73 S, sf_k74 S, sf_n74 S, sf_k76 S, sf_n76 S, sf_k77 S, sf_n77 S, sf_k78 S, sf_n78 S, sf_k79 S, sf_n79 S, sf_k80 S, sf_n80 S, sf_k63 S, sf_n63 S, sf_k64 S, sf_n64 S, sf_k65 S, sf_n65 S, sf_k66 S, sf_n66 S, sf_k67 S, sf_n67 S, sf_k68 S, sf_n68 S, ↓cb, B]
    | true =>
      rw [q] at cb cs
      obtain ⟨h1, h2, h3⟩ := rwO_b q
      have z : rwK k tp (m + 1) = lyK (rwK k tp m) (tp (3 * m)) (tp (3 * m + 1)) (tp (3 * m + 2)) := by
        show (if rwO tp m then _ else _) = _
        rw [if_pos q]
      obtain ⟨h2', e2, x2, I2⟩ := L_lay (F := F) A I Wm (n := tp (3 * m)) (v := tp (3 * m + 1)) (g := tp (3 * m + 2)) h1
      have x0 : jX dRc jN h h2' := x2.up (fun a i d => by unfold dRc; omega) (fun _ _ z => z)
      have c1 : cnt (rwO tp) m + ft_z true = cnt (rwO tp) m + 1 := rfl
      obtain ⟨h3', e3', x3, I3, B3⟩ := C_row_28 (F := F) (tp := tp) W ht d (m + 1) f h2' (by omega) (by omega) (S.fr x0 (fun _ _ z => z)) (A.fr x0 (fun _ z => z)) (by rw [z]; exact I2) (fun i hi => by rw [x2.I (by omega)]; exact T i hi) (by
        rw [x2.I (by omega), B, cs, c1]
        congr 1; omega)
      refine ⟨h3', ?_, x0.t x3, I3, B3⟩
      have lb : ∀ ff : jH → Option jO, jbV (m_L_lay F 5 (j_I h 61 (nI (3 * m)).toNatClampNeg) (j_I h 61 (nI (3 * m) + nI 1).toNatClampNeg) (j_I h 61 (nI (3 * m + 2)).toNatClampNeg) h) ff = ff h2' := fun ff => by rw [ft_add, ft_cl (by omega), ft_cl (by omega), ft_cl (by omega), t1, t2, t3, bV_of e2]
      rw [cs, c1, e3] at e3'
      rw [← e3', q_F_row_28, if_pos (by rw [ft_lt (by omega) (by omega)]; omega), ft_add, if_pos (by rw [ft_lt (by omega) (by omega)]; omega)]
      simp (disch := first | exact sR_rfl _ _ rfl | omega) only [ft_lit, ft_m1, ft_m2, ft_m3, ft_m5, ft_m6, ft_cl, ft_lt, ft_le, ft_eq, ft_mlt, ft_ltm, ft_mltm, ft_meq, ft_eqm, ft_meqm, ft_add, ft_mul, ft_sub, ft_nm, ft_m1p, ft_and, ft_or, ft_31, ft_shl, ft_shr, ft_bz, ft_z0, ft_z1, ft_z01, ft_bb, ft_zt, ft_zf, ft_or0, ft_rv, ft_rvr, ft_rf, ft_rfn, ft_bI, ft_bJ, ft_bV, ft_bR, ft_bRn, ft_isr, ft_isn, ft_ifn, ft_ifr, ft_ov, ft_ovn, ft_in, k_sI, n_sI, R_sI, J_sI, c_sI, z_sI, k_sJ, n_sJ, R_sJ, I_sJ, c_sJ, z_sJ, k_sR, n_sR, I_sR, J_sR, c_sR, z_sR, k_wI, n_wI, R_wI, J_wI, I_wIe, k_wJ, n_wJ, R_wJ, I_wJ, J_wJe, I_wIn, J_wJn, I_sIe, J_sJe, R_sRe, I_sIn, I_sIk, J_sJn, J_sJk, R_sRn, R_sRk, eq_self, if_true, if_false, ↓reduceIte, cond_true, cond_false, ↓cond_eq_ite, and_true, true_and, and_false, false_and, or_true, true_or, or_false, false_or, not_true_eq_false, not_false_eq_true, ft_ltT, ft_ltF, ft_eqT, ft_eqF, Bool.false_eq_true, Bool.true_eq_false, Bool.not_true, Bool.not_false, Bool.and_true, Bool.true_and, Bool.and_false, Bool.false_and, decide_true, decide_false, Nat.reduceAdd, Nat.reduceMul, Nat.reduceSub, Nat.reduceEqDiff, Nat.reduceLT, Nat.zero_add, Nat.add_zero, Nat.reduceDiv, Nat.reduceMod, sf_k4 S, sf_R4_0 S, ↓sf_v4_0 S, sf_R4_1 S, ↓sf_v4_1 S, sf_R4_2 S, ↓sf_v4_2 S, sf_R4_3 S, ↓sf_v4_3 S, sf_R4_4 S, ↓sf_v4_4 S, sf_R4_5 S, ↓sf_v4_5 S, sf_R4_6 S, ↓sf_v4_6 S, sf_R4_7 S, ↓sf_v4_7 S, sf_R4_8 S, ↓sf_v4_8 S, sf_R4_9 S, ↓sf_v4_9 S, sf_R4_10 S, ↓sf_v4_10 S, sf_R4_11 S, ↓sf_v4_11 S, sf_R4_12 S, ↓sf_v4_12 S, sf_k5 S, sf_R5_0 S, ↓sf_v5_0 S, sf_R5_1 S, ↓sf_v5_1 S, sf_R5_3 S, ↓sf_v5_3 S, sf_R5_4 S, ↓sf_v5_4 S, sf_R5_5 S, ↓sf_v5_5 S, sf_R5_6 S, ↓sf_v5_6 S, sf_R5_7 S, ↓sf_v5_7 S, sf_R5_9 S, ↓sf_v5_9 S, sf_R5_10 S, ↓sf_v5_10 S, sf_R5_11 S, ↓sf_v5_11 S, sf_R5_12 S, ↓sf_v5_12 S, sf_k17 S, sf_R17_0 S, ↓sf_v17_0 S, sf_R17_1 S, ↓sf_v17_1 S, sf_R17_3 S, ↓sf_v17_3 S, sf_R17_4 S, ↓sf_v17_4 S, sf_R17_5 S, ↓sf_v17_5 S, sf_R17_6 S, ↓sf_v17_6 S, sf_R17_7 S, ↓sf_v17_7 S, sf_R17_9 S, ↓sf_v17_9 S, sf_R17_10 S, ↓sf_v17_10 S, sf_R17_11 S, ↓sf_v17_11 S, sf_R17_12 S, ↓sf_v17_12 S, sf_k29 S, sf_R29_0 S, ↓sf_v29_0 S, sf_R29_1 S, ↓sf_v29_1 S, sf_R29_3 S, ↓sf_v29_3 S, sf_R29_4 S, ↓sf_v29_4 S, sf_R29_5 S, ↓sf_v29_5 S, sf_R29_6 S, ↓sf_v29_6 S, sf_R29_7 S, ↓sf_v29_7 S, sf_R29_9 S, ↓sf_v29_9 S, sf_R29_10 S, ↓sf_v29_10 S, sf_R29_11 S, ↓sf_v29_11 S, sf_R29_12 S, ↓sf_v29_12 S, sf_k41 S, sf_n41 S, sf_k42 S, sf_R42_0 S, ↓sf_v42_0 S, sf_R42_1 S, ↓sf_v42_1 S, sf_R42_2 S, ↓sf_v42_2 S, sf_R42_3 S, ↓sf_v42_3 S, sf_R42_4 S, ↓sf_v42_4 S, sf_R42_5 S, ↓sf_v42_5 S, sf_R42_6 S, ↓sf_v42_6 S, sf_R42_7 S, ↓sf_v42_7 S, sf_k51 S, sf_R51_0 S, ↓sf_v51_0 S, sf_R51_1 S, ↓sf_v51_1 S, sf_R51_2 S, ↓sf_v51_2 S, sf_R51_3 S, ↓sf_v51_3 S, sf_R51_4 S, ↓sf_v51_4 S, sf_R51_5 S, ↓sf_v51_5 S, sf_R51_6 S, ↓sf_v51_6 S, sf_R51_7 S, ↓sf_v51_7 S, sf_k60 S, sf_R60_0 S, ↓sf_v60_0 S, sf_R60_3 S, ↓sf_v60_3 S, sf_R60_4 S, ↓sf_v60_4 S, sf_R60_5 S, ↓sf_v60_5 S, sf_R60_6 S, ↓sf_v60_6 S, sf_k72 S, sf_R72_0 S, ↓sf_v72_0 S, sf_R72_1 S, ↓sf_v72_1 S, sf_k75 S, sf_R75_0 S, ↓sf_v75_0 S, sf_R75_1 S, ↓sf_v75_1 S, sf_R75_2 S, ↓sf_v75_2 S, sf_R75_3 S, ↓sf_v75_3 S, sf_R75_4 S, ↓sf_v75_4 S, sf_k81 S, sf_n81 S, sf_k82 S, sf_n82 S, sf_k83 S, sf_n83 S, sf_k84 S, sf_n84 S, sf_k6 S, sf_n6 S, sf_k7 S, sf_n7 S, sf_k8 S, sf_n8 S, sf_k9 S, sf_n9 S, sf_k10 S, sf_n10 S, sf_k11 S, sf_n11 S, sf_k12 S, sf_n12 S, sf_k13 S, sf_n13 S, sf_k14 S, sf_n14 S, sf_k15 S, sf_n15 S, sf_k16 S, sf_n16 S, sf_k18 S, sf_n18 S, sf_k19 S, sf_n19 S, sf_k20 S, sf_n20 S, sf_k21 S, sf_n21 S, sf_k22 S, sf_n22 S, sf_k23 S, sf_n23 S, sf_k24 S, sf_n24 S, sf_k25 S, sf_n25 S, sf_k26 S, sf_n26 S, sf_k27 S, sf_n27 S, sf_k28 S, sf_n28 S, sf_k30 S, sf_n30 S, sf_k31 S, sf_n31 S, sf_k32 S, sf_n32 S, sf_k33 S, sf_n33 S, sf_k34 S, sf_n34 S, sf_k35 S, sf_n35 S, sf_k36 S, sf_n36 S, sf_k37 S, sf_n37 S, sf_k38 S, sf_n38 S, sf_k39 S, sf_n39 S, sf_k40 S, sf_n40 S, sf_k43 S, sf_n43 S, sf_k44 S, sf_n44 S, sf_k45 S, sf_n45 S, sf_k46 S, sf_n46 S, sf_k47 S, sf_n47 S, sf_k48 S, sf_n48 S, sf_k49 S, sf_n49 S, sf_k50 S, sf_n50 S, sf_k52 S, sf_n52 S, sf_k53 S, sf_n53 S, sf_k54 S, sf_n54 S, sf_k55 S, sf_n55 S, sf_k56 S, sf_n56 S, sf_k57 S, sf_n57 S, sf_k58 S, sf_n58 S, sf_k59 S, sf_n59 S, sf_k61 S, sf_n61 S, sf_k62 S, sf_R62_0 S, ↓sf_v62_0 S, sf_R62_1 S, ↓sf_v62_1 S, sf_R62_2 S, ↓sf_v62_2 S, sf_R62_3 S, ↓sf_v62_3 S, sf_R62_4 S, ↓sf_v62_4 S, sf_R62_5 S, ↓sf_v62_5 S, sf_k69 S, sf_n69 S, sf_k70 S, sf_n70 S, sf_k71 S, sf_n71 S, sf_k73 S, sf_n73 S, sf_k74 S, sf_n74 S, sf_k76 S, sf_n76 S, sf_k77 S, sf_n77 S, sf_k78 S, sf_n78 S, sf_k79 S, sf_n79 S, sf_k80 S, sf_n80 S, sf_k63 S, sf_n63 S, sf_k64 S, sf_n64 S, sf_k65 S, sf_n65 S, sf_k66 S, sf_n66 S, sf_k67 S, sf_n67 S, sf_k68 S, sf_n68 S, ↓cb, ↓lb]
theorem K_row {F : Nat × Nat} (hF : FF F) {s : St} (w : WJ s) : Alk (m_M_row F 85) (m_F_row F 4) s := by
  obtain ⟨k, im, u, tp, tl, sc, kd⟩ := s
  have w' : WS k im u := w
  have W := w'.1
  have hF1 := hF.1
  by_cases ht : 400 < tl
  · refine ⟨(mI 0), _, w, fun h M => ?_, fun h C => ?_⟩
    · have := (show MI h k im u tp tl sc kd from M).2.2.2.2.2.2.1.1.1
      omega
    · have := (show CI h k im u tp tl sc kd from C).2.2.2.2.2.1.2.1
      omega
  by_cases c0 : tl = 0
  · subst c0
    refine ⟨_, _, ?_, Mst.pre (m2 := m_M_refuses F 85 (mI 5)) (s1 := (k, im, u, tp, 0, sc, kd)) (fun h M => ?_) (M_ref (by omega)), Cst.eta (m2 := m_F_refuse F 4 (mI 5)) (fun h C => ?_) (C_ref (by omega))⟩
    · exact w'
    · have M' : MI h k im u tp 0 sc kd := M
      have S := M'.1
      have i1 := M'.2.2.2.2.2.2.1.2
      have x : jX (fun a i => (a = 85 ∧ i = 13) ∨ a = 92 ∨ a = 93) jN h (j_sI h 85 13 (nI 0)) := jX.rf.sI (by omega)
      refine ⟨_, ?_, M'.tp (tp' := tp) (tl' := 0) x ⟨⟨by omega, fun i hi => absurd hi (by omega)⟩, I_sIe⟩, x.up (fun a i d => by unfold dMM; omega) (fun _ _ z => z)⟩
      have S2 : ShM (j_sI h 85 13 (nI 0)) := S
      rw [q_M_row, if_pos (sm_k85 S), i1, if_pos (sm_k85 S)]
      show (if nI 0 = nI 0 then _ else _) = _
      rw [if_pos rfl]
      show (if j_k (j_sI h 85 13 (nI 0)) 85 = 17 then _ else _) = _
      rw [if_pos (sm_k85 S2), bI_eta (M_refuses S2 (by omega)), M_refuses S2 (by omega)]
    · have C' : CI h k im u tp 0 sc kd := C
      have S := C'.1
      have T := C'.2.2.2.2.2.1
      rw [q_F_row, if_pos (sf_k4 S), sf_v4_6 S (sR_rfl _ _ rfl), if_pos (sf_k60 S), T.1]
      show (if nI 0 = nI 0 then _ else _) = _
      rw [if_pos rfl, if_pos (sf_k4 S)]
  · refine ⟨(nI (cnt (rwO tp) (tl / 3))), (rwK k tp (tl / 3), im, u, tp, 0, gdC (blC sc (nI ((if tl % 3 = 0 then 0 else 1) + (tl / 3 - cnt (rwO tp) (tl / 3))))), kd), ⟨rwK_W W _, w'.2.1, ?_⟩, Mst.pre (fun h M => ?_) (M_gd (F := F) _), Cst.pre (fun h C => ?_) (C_gd (F := F) _)⟩
    · show UC (rwK k tp (tl / 3) 177) _ u
      rw [rwK_o (by omega)]
      exact w'.2.2.e (fun i hi => rwK_o (by omega) _)
    · have M' : MI h k im u tp tl sc kd := M
      have S := M'.1
      have T := M'.2.2.2.2.2.2.1
      have i1 := T.2
      have x : jX (fun a i => (a = 85 ∧ i = 13) ∨ a = 92 ∨ a = 93) jN h (j_sI h 85 13 (nI 0)) := jX.rf.sI (by omega)
      have M1 := M'.tp (tp' := tp) (tl' := 0) x ⟨⟨by omega, fun i hi => absurd hi (by omega)⟩, I_sIe⟩
      have x2 : jX dRm jN (j_sI h 85 13 (nI 0)) (j_sI (j_sI h 85 13 (nI 0)) 85 6 (nI (if tl % 3 = 0 then 0 else 1))) := jX.rf.sI (by unfold dRm; omega)
      have S2 := M1.1.fr x2 (fun _ _ z => z)
      obtain ⟨h3, e3, x3, K3, B3⟩ := M_row_40 (F := F) (tp := tp) (r0 := if tl % 3 = 0 then 0 else 1) W (by omega) (by split <;> omega) (tl / 3) 0 F.1 (j_sI (j_sI h 85 13 (nI 0)) 85 6 (nI (if tl % 3 = 0 then 0 else 1))) (by omega) (by omega) S2 (M1.2.2.2.1.oth (by omega)) ⟨T.1.1, fun i hi => by rw [I_sIn (by omega), I_sIn (by omega)]; exact T.1.2 i hi⟩ I_sIe
      refine ⟨h3, ?_, M1.rw (x2.t x3) K3 B3, (x.up (D' := dMM) (E' := jN) (fun a i d => by unfold dMM; omega) (fun _ _ z => z)).t ((x2.t x3).up (fun a i d => by unfold dRm at d; unfold dMM; omega) (fun _ _ z => z))⟩
      rw [← e3, q_M_row, if_pos (sm_k85 S), i1, if_pos (sm_k85 S)]
      show (if nI tl = nI 0 then _ else _) = _
      rw [if_neg (by rw [ft_eq (by omega) (by omega)]; exact c0), ft_div (by omega) (by omega) (by omega), ft_mul, ft_rem2]
      have k1 : j_k (j_sI h 85 13 (nI 0)) 85 = 17 := sm_k85 S
      by_cases c3 : tl % 3 = 0
      · rw [if_pos (by rw [c3]), if_pos k1, if_pos c3]; rfl
      · rw [if_neg (by rw [ft_eq (by omega) (by omega)]; exact c3), if_pos k1, if_neg c3]; rfl
    · have C' : CI h k im u tp tl sc kd := C
      have S := C'.1
      have T := C'.2.2.2.2.2.1
      have L := C'.2.2.1
      have xs : jX (fun a i => a = 4 ∧ i = 15) jN h (j_sI h 4 15 (nI 0)) := jX.rf.sI ⟨rfl, rfl⟩
      have x0 : jX dRc jN h (j_sI h 4 15 (nI 0)) := xs.up (fun a i d => by unfold dRc; omega) (fun _ _ z => z)
      obtain ⟨h1, e1, x1, I1, B1⟩ := C_row_28 (F := F) (tp := tp) W (tl := tl) (by omega) (tl / 3) 0 F.1 (j_sI h 4 15 (nI 0)) (by omega) (by omega) (S.fr x0 (fun _ _ z => z)) (L.1.fr x0 (fun _ z => z)) (L.2.1.fr xs (fun j i hj => by omega)) (fun i hi => by rw [I_sIn (by omega)]; exact T.2.2 i hi) I_sIe
      have xx := x0.t x1
      have x60 : jX (fun a i => (a = 60 ∧ i = 1) ∨ a = 61) jN h1 (j_sI h1 60 1 (nI 0)) := jX.rf.sI (by omega)
      have C1 : CI h1 (rwK k tp (tl / 3)) im u tp tl (blC sc (nI ((if tl % 3 = 0 then 0 else 1) + (tl / 3 - cnt (rwO tp) (tl / 3))))) kd := by
        obtain ⟨c1, c2, c3, c4, c5, c6, c7, c8, c9⟩ := C'
        refine ⟨c1.fr xx (fun _ _ z => z), by rw [xx.2.1]; exact c2, c3.k xx (fun a i q z => by unfold dRc at z; omega) I1 (rwK_o (by omega) _) (fun i hi => rwK_o (by omega) _), c4.fr xx (fun a i q z => by unfold dRc at z; omega) (fun _ _ _ z => z), c5.fr xx (fun a i q1 q2 z => by unfold dRc at z; omega), c6.fr xx (fun z => by unfold dRc at z; omega) (fun i z => by unfold dRc at z; omega), ?_, c8.fr xx (fun a i q1 q2 z => by unfold dRc at z; omega), c9.fr xx (fun a i q z => by unfold dRc at z; omega)⟩
        have n : ∀ a i, ((a = 4 ∧ i ≠ 15) ∨ a = 84 ∨ a = 60) → j_I h1 a i = j_I h a i := fun a i q => xx.I (fun z => by unfold dRc at z; omega)
        unfold CS at c7 ⊢
        simp (disch := omega) only [n]
        exact ⟨c7.1, c7.2.1, B1, c7.2.2.2⟩
      refine ⟨j_sI h1 60 1 (nI 0), ?_, C1.tp (tp' := tp) (tl' := 0) x60 ⟨I_sIe, by omega, fun i hi => absurd hi (by omega)⟩, (xx.up (D' := fun a _ => 2 < a ∧ a < 85) (E' := jN) (fun a i d => by unfold dRc at d; omega) (fun _ _ z => z)).sI (by omega)⟩
      rw [← e1, q_F_row, if_pos (sf_k4 S), sf_v4_6 S (sR_rfl _ _ rfl), if_pos (sf_k60 S), T.1]
      show (if nI tl = nI 0 then _ else _) = _
      rw [if_neg (by rw [ft_eq (by omega) (by omega)]; exact c0), if_pos (sf_k4 S)]
      rfl
