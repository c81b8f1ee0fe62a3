/-! CALLS: yard, cover -/
def gl (k : Nat → Nat) (c y : Nat) : Nat := match ft_nb c y with
  | none => 4
  | some t => k (105 + t)
theorem gl_le {k : Nat → Nat} (W : WK k) {c y : Nat} (hc : c < 25) : gl k c y ≤ 4 := by
  unfold gl
  cases q : ft_nb c y with
  | none => exact Nat.le_refl _
  | some t => have := W.kind (ft_nb_lt hc q); show k (105 + t) ≤ 4; omega
theorem M_glm {F : Nat × Nat} {h : jH} {k : Nat → Nat} (S : ShM h) (K : KM h k) {c y : Nat} (hc : c < 25) (hy : y < 5) : m_M_glimpsed F 85 (nI c) (nI y) h = some (some (.int (nI (gl k c y))), h) := by
  have b1 := bI_of (M_cellAt (F := F) (h := h) hc hy)
  unfold gl
  cases q : ft_nb c y with
  | none =>
    rw [q] at b1
    have eo : oI none = mI 0 := rfl
    rw [eo] at b1
    rw [q_M_glimpsed, b1, if_pos rfl]
  | some t =>
    rw [q] at b1
    have eo : oI (some t) = nI t := rfl
    rw [eo] at b1
    have ht := ft_nb_lt hc q
    have i1 := km K (i := 105 + t) (by omega) (by omega)
    rw [q_M_glimpsed, b1]
    simp (disch := first | exact sR_rfl _ _ rfl | omega) only [ft_lit, ft_m1, ft_m2, ft_m3, ft_m5, ft_m6, ft_cl, ft_lt, ft_le, ft_eq, ft_mlt, ft_ltm, ft_mltm, ft_meq, ft_eqm, ft_meqm, ft_add, ft_mul, ft_sub, ft_nm, ft_m1p, ft_and, ft_or, ft_31, ft_shl, ft_shr, ft_bz, ft_z0, ft_z1, ft_z01, ft_bb, ft_zt, ft_zf, ft_or0, ft_rv, ft_rvr, ft_rf, ft_rfn, ft_bI, ft_bJ, ft_bV, ft_bR, ft_bRn, ft_isr, ft_isn, ft_ifn, ft_ifr, ft_ov, ft_ovn, ft_in, k_sI, n_sI, R_sI, J_sI, c_sI, z_sI, k_sJ, n_sJ, R_sJ, I_sJ, c_sJ, z_sJ, k_sR, n_sR, I_sR, J_sR, c_sR, z_sR, k_wI, n_wI, R_wI, J_wI, I_wIe, k_wJ, n_wJ, R_wJ, I_wJ, J_wJe, I_wIn, J_wJn, I_sIe, J_sJe, R_sRe, I_sIn, I_sIk, J_sJn, J_sJk, R_sRn, R_sRk, eq_self, if_true, if_false, ↓reduceIte, cond_true, cond_false, ↓cond_eq_ite, and_true, true_and, and_false, false_and, or_true, true_or, or_false, false_or, not_true_eq_false, not_false_eq_true, ft_ltT, ft_ltF, ft_eqT, ft_eqF, Bool.false_eq_true, Bool.true_eq_false, Bool.not_true, Bool.not_false, Bool.and_true, Bool.true_and, Bool.and_false, Bool.false_and, decide_true, decide_false, Nat.reduceAdd, Nat.reduceMul, Nat.reduceSub, Nat.reduceEqDiff, Nat.reduceLT, Nat.zero_add, Nat.add_zero, Nat.reduceDiv, Nat.reduceMod, sm_k85 S, sm_R85_1 S, ↓sm_v85_1 S, sm_R85_2 S, ↓sm_v85_2 S, sm_R85_3 S, ↓sm_v85_3 S, sm_R85_4 S, ↓sm_v85_4 S, sm_R85_5 S, ↓sm_v85_5 S, sm_R85_7 S, ↓sm_v85_7 S, sm_R85_11 S, ↓sm_v85_11 S, sm_R85_12 S, ↓sm_v85_12 S, sm_R85_15 S, ↓sm_v85_15 S, sm_R85_16 S, ↓sm_v85_16 S, sm_R85_17 S, ↓sm_v85_17 S, sm_R85_26 S, ↓sm_v85_26 S, sm_R85_29 S, ↓sm_v85_29 S, sm_R85_30 S, ↓sm_v85_30 S, sm_R85_32 S, ↓sm_v85_32 S, sm_R85_33 S, ↓sm_v85_33 S, sm_R85_34 S, ↓sm_v85_34 S, sm_R85_35 S, ↓sm_v85_35 S, sm_R85_36 S, ↓sm_v85_36 S, sm_R85_37 S, ↓sm_v85_37 S, sm_R85_38 S, ↓sm_v85_38 S, sm_R85_40 S, ↓sm_v85_40 S, sm_R85_41 S, ↓sm_v85_41 S, sm_R85_48 S, ↓sm_v85_48 S, sm_R85_49 S, ↓sm_v85_49 S, sm_k86 S, sm_n86 S, sm_k87 S, sm_n87 S, sm_k88 S, sm_n88 S, sm_k89 S, sm_n89 S, sm_k90 S, sm_n90 S, sm_k91 S, sm_n91 S, sm_k92 S, sm_n92 S, sm_k93 S, sm_n93 S, sm_k94 S, sm_n94 S, sm_k95 S, sm_n95 S, sm_k96 S, sm_n96 S, sm_k97 S, sm_n97 S, sm_k98 S, sm_n98 S, sm_k99 S, sm_n99 S, sm_k100 S, sm_n100 S, sm_k101 S, sm_n101 S, sm_k102 S, sm_n102 S, sm_k103 S, sm_n103 S, sm_k104 S, sm_n104 S, sm_k105 S, sm_n105 S, sm_k106 S, sm_n106 S, sm_k107 S, sm_n107 S, sm_k108 S, sm_n108 S, sm_k109 S, sm_n109 S, sm_k110 S, sm_n110 S, i1]
theorem M_glm_b {F : Nat × Nat} {h : jH} {k : Nat → Nat} (S : ShM h) (K : KM h k) {c y : Nat} (hc : c < 25) (hy : y < 5) (ff : Int32 → jH → Option jO) : jbI (m_M_glimpsed F 85 (nI c) (nI y) h) ff = ff ((nI (gl k c y))) (h) := bI_of (M_glm (F := F) (h := h) (k := k) (S := S) (K := K) (c := c) (y := y) (hc := hc) (hy := hy)) ff
theorem U_kbw {F : Nat × Nat} {h : jH} {o : Nat} {k : Nat → Nat} (A : LA h o) (I : LI h o k) {c y : Nat} (hc : c < 25) (hy : y < 5) : m_L_kindByWay F o (nI c) (nI y) h = some (some (.int (nI (gl k c y))), h) := by
  have b1 := bI_of (C_nb (F := F) (h := h) hc hy)
  unfold gl
  cases q : ft_nb c y with
  | none =>
    rw [q] at b1
    have eo : oI none = mI 0 := rfl
    rw [eo] at b1
    rw [q_L_kindByWay, b1, if_pos rfl]
  | some t =>
    rw [q] at b1
    have eo : oI (some t) = nI t := rfl
    rw [eo] at b1
    have ht := ft_nb_lt hc q
    have i1 := I.1 t ht
    rw [q_L_kindByWay, b1]
    simp (disch := first | exact sR_rfl _ _ rfl | omega) only [ft_lit, ft_m1, ft_m2, ft_m3, ft_m5, ft_m6, ft_cl, ft_lt, ft_le, ft_eq, ft_mlt, ft_ltm, ft_mltm, ft_meq, ft_eqm, ft_meqm, ft_add, ft_mul, ft_sub, ft_nm, ft_m1p, ft_and, ft_or, ft_31, ft_shl, ft_shr, ft_bz, ft_z0, ft_z1, ft_z01, ft_bb, ft_zt, ft_zf, ft_or0, ft_rv, ft_rvr, ft_rf, ft_rfn, ft_bI, ft_bJ, ft_bV, ft_bR, ft_bRn, ft_isr, ft_isn, ft_ifn, ft_ifr, ft_ov, ft_ovn, ft_in, k_sI, n_sI, R_sI, J_sI, c_sI, z_sI, k_sJ, n_sJ, R_sJ, I_sJ, c_sJ, z_sJ, k_sR, n_sR, I_sR, J_sR, c_sR, z_sR, k_wI, n_wI, R_wI, J_wI, I_wIe, k_wJ, n_wJ, R_wJ, I_wJ, J_wJe, I_wIn, J_wJn, I_sIe, J_sJe, R_sRe, I_sIn, I_sIk, J_sJn, J_sJk, R_sRn, R_sRk, eq_self, if_true, if_false, ↓reduceIte, cond_true, cond_false, ↓cond_eq_ite, and_true, true_and, and_false, false_and, or_true, true_or, or_false, false_or, not_true_eq_false, not_false_eq_true, ft_ltT, ft_ltF, ft_eqT, ft_eqF, Bool.false_eq_true, Bool.true_eq_false, Bool.not_true, Bool.not_false, Bool.and_true, Bool.true_and, Bool.and_false, Bool.false_and, decide_true, decide_false, Nat.reduceAdd, Nat.reduceMul, Nat.reduceSub, Nat.reduceEqDiff, Nat.reduceLT, Nat.zero_add, Nat.add_zero, Nat.reduceDiv, Nat.reduceMod, A.1, ↓la_v0 A, ↓la_v1 A, ↓la_v3 A, ↓la_v4 A, ↓la_v5 A, ↓la_v6 A, ↓la_v7 A, ↓la_v9 A, ↓la_v10 A, ↓la_v11 A, ↓la_v12 A, la_k1 A, la_n1 A, la_k2 A, la_n2 A, la_k3 A, la_n3 A, la_k4 A, la_n4 A, la_k5 A, la_n5 A, la_k6 A, la_n6 A, la_k7 A, la_n7 A, la_k8 A, la_n8 A, la_k9 A, la_n9 A, la_k10 A, la_n10 A, la_k11 A, la_n11 A, i1]
theorem U_kbw_b {F : Nat × Nat} {h : jH} {o : Nat} {k : Nat → Nat} (A : LA h o) (I : LI h o k) {c y : Nat} (hc : c < 25) (hy : y < 5) (ff : Int32 → jH → Option jO) : jbI (m_L_kindByWay F o (nI c) (nI y) h) ff = ff ((nI (gl k c y))) (h) := bI_of (U_kbw (F := F) (h := h) (o := o) (k := k) (A := A) (I := I) (c := c) (y := y) (hc := hc) (hy := hy)) ff
def ydG (k : Nat → Nat) (c : Nat) : Nat → Bool
  | 0 => true
  | n + 1 => ydG k c n && decide (gl k c (k (163 + 2 * n)) = k (164 + 2 * n))
def ydS (k : Nat → Nat) : Nat → Bool := fun c => ydG k c (k 178)
theorem ydG_f {k : Nat → Nat} {c : Nat} : ∀ d n, ydG k c n = false → ydG k c (n + d) = false
  | 0, n, h => h
  | d + 1, n, h => by
    show (ydG k c (n + d) && _) = false
    rw [ydG_f d n h, Bool.false_and]
theorem M_yard_15 {F : Nat × Nat} {h : jH} {k : Nat → Nat} (S : ShM h) (K : KM h k) (W : WK k) {kk : Nat → Int32 → Int32 → jH → Option jO} {set c : Nat} (hc : c < 25) : ∀ d n f, n + d = k 178 → d < f → m_M_yard_15 F kk f 85 (nI set) (nI c) (nI (ft_z (ydG k c n))) (nI n) h = kk 85 (nI (set ||| if ydS k c then 1 <<< c else 0)) (nI (c + 1)) h
  | 0, n, f + 1, e, _ => by
    have bg := W.glm
    have i1 := km K (i := 178) (by omega) (by omega)
    have hn : n = k 178 := by omega
    have e31 : c &&& 31 = c := ft_31 (by omega)
    have ys : ydS k c = ydG k c n := by rw [hn]; rfl
    rw [ys, q_M_yard_15]
    cases q : ydG k c n with
    | true => simp (disch := first | exact sR_rfl _ _ rfl | omega) only [ft_lit, ft_m1, ft_m2, ft_m3, ft_m5, ft_m6, ft_cl, ft_lt, ft_le, ft_eq, ft_mlt, ft_ltm, ft_mltm, ft_meq, ft_eqm, ft_meqm, ft_add, ft_mul, ft_sub, ft_nm, ft_m1p, ft_and, ft_or, ft_31, ft_shl, ft_shr, ft_bz, ft_z0, ft_z1, ft_z01, ft_bb, ft_zt, ft_zf, ft_or0, ft_rv, ft_rvr, ft_rf, ft_rfn, ft_bI, ft_bJ, ft_bV, ft_bR, ft_bRn, ft_isr, ft_isn, ft_ifn, ft_ifr, ft_ov, ft_ovn, ft_in, k_sI, n_sI, R_sI, J_sI, c_sI, z_sI, k_sJ, n_sJ, R_sJ, I_sJ, c_sJ, z_sJ, k_sR, n_sR, I_sR, J_sR, c_sR, z_sR, k_wI, n_wI, R_wI, J_wI, I_wIe, k_wJ, n_wJ, R_wJ, I_wJ, J_wJe, I_wIn, J_wJn, I_sIe, J_sJe, R_sRe, I_sIn, I_sIk, J_sJn, J_sJk, R_sRn, R_sRk, eq_self, if_true, if_false, ↓reduceIte, cond_true, cond_false, ↓cond_eq_ite, and_true, true_and, and_false, false_and, or_true, true_or, or_false, false_or, not_true_eq_false, not_false_eq_true, ft_ltT, ft_ltF, ft_eqT, ft_eqF, Bool.false_eq_true, Bool.true_eq_false, Bool.not_true, Bool.not_false, Bool.and_true, Bool.true_and, Bool.and_false, Bool.false_and, decide_true, decide_false, Nat.reduceAdd, Nat.reduceMul, Nat.reduceSub, Nat.reduceEqDiff, Nat.reduceLT, Nat.zero_add, Nat.add_zero, Nat.reduceDiv, Nat.reduceMod, sm_k85 S, sm_R85_1 S, ↓sm_v85_1 S, sm_R85_2 S, ↓sm_v85_2 S, sm_R85_3 S, ↓sm_v85_3 S, sm_R85_4 S, ↓sm_v85_4 S, sm_R85_5 S, ↓sm_v85_5 S, sm_R85_7 S, ↓sm_v85_7 S, sm_R85_11 S, ↓sm_v85_11 S, sm_R85_12 S, ↓sm_v85_12 S, sm_R85_15 S, ↓sm_v85_15 S, sm_R85_16 S, ↓sm_v85_16 S, sm_R85_17 S, ↓sm_v85_17 S, sm_R85_26 S, ↓sm_v85_26 S, sm_R85_29 S, ↓sm_v85_29 S, sm_R85_30 S, ↓sm_v85_30 S, sm_R85_32 S, ↓sm_v85_32 S, sm_R85_33 S, ↓sm_v85_33 S, sm_R85_34 S, ↓sm_v85_34 S, sm_R85_35 S, ↓sm_v85_35 S, sm_R85_36 S, ↓sm_v85_36 S, sm_R85_37 S, ↓sm_v85_37 S, sm_R85_38 S, ↓sm_v85_38 S, sm_R85_40 S, ↓sm_v85_40 S, sm_R85_41 S, ↓sm_v85_41 S, sm_R85_48 S, ↓sm_v85_48 S, sm_R85_49 S, ↓sm_v85_49 S, sm_k86 S, sm_n86 S, sm_k87 S, sm_n87 S, sm_k88 S, sm_n88 S, sm_k89 S, sm_n89 S, sm_k90 S, sm_n90 S, sm_k91 S, sm_n91 S, sm_k92 S, sm_n92 S, sm_k93 S, sm_n93 S, sm_k94 S, sm_n94 S, sm_k95 S, sm_n95 S, sm_k96 S, sm_n96 S, sm_k97 S, sm_n97 S, sm_k98 S, sm_n98 S, sm_k99 S, sm_n99 S, sm_k100 S, sm_n100 S, sm_k101 S, sm_n101 S, sm_k102 S, sm_n102 S, sm_k103 S, sm_n103 S, sm_k104 S, sm_n104 S, sm_k105 S, sm_n105 S, sm_k106 S, sm_n106 S, sm_k107 S, sm_n107 S, sm_k108 S, sm_n108 S, sm_k109 S, sm_n109 S, sm_k110 S, sm_n110 S, i1, e31]
    | false => simp (disch := first | exact sR_rfl _ _ rfl | omega) only [ft_lit, ft_m1, ft_m2, ft_m3, ft_m5, ft_m6, ft_cl, ft_lt, ft_le, ft_eq, ft_mlt, ft_ltm, ft_mltm, ft_meq, ft_eqm, ft_meqm, ft_add, ft_mul, ft_sub, ft_nm, ft_m1p, ft_and, ft_or, ft_31, ft_shl, ft_shr, ft_bz, ft_z0, ft_z1, ft_z01, ft_bb, ft_zt, ft_zf, ft_or0, ft_rv, ft_rvr, ft_rf, ft_rfn, ft_bI, ft_bJ, ft_bV, ft_bR, ft_bRn, ft_isr, ft_isn, ft_ifn, ft_ifr, ft_ov, ft_ovn, ft_in, k_sI, n_sI, R_sI, J_sI, c_sI, z_sI, k_sJ, n_sJ, R_sJ, I_sJ, c_sJ, z_sJ, k_sR, n_sR, I_sR, J_sR, c_sR, z_sR, k_wI, n_wI, R_wI, J_wI, I_wIe, k_wJ, n_wJ, R_wJ, I_wJ, J_wJe, I_wIn, J_wJn, I_sIe, J_sJe, R_sRe, I_sIn, I_sIk, J_sJn, J_sJk, R_sRn, R_sRk, eq_self, if_true, if_false, ↓reduceIte, cond_true, cond_false, ↓cond_eq_ite, and_true, true_and, and_false, false_and, or_true, true_or, or_false, false_or, not_true_eq_false, not_false_eq_true, ft_ltT, ft_ltF, ft_eqT, ft_eqF, Bool.false_eq_true, Bool.true_eq_false, Bool.not_true, Bool.not_false, Bool.and_true, Bool.true_and, Bool.and_false, Bool.false_and, decide_true, decide_false, Nat.reduceAdd, Nat.reduceMul, Nat.reduceSub, Nat.reduceEqDiff, Nat.reduceLT, Nat.zero_add, Nat.add_zero, Nat.reduceDiv, Nat.reduceMod, sm_k85 S, sm_R85_1 S, ↓sm_v85_1 S, sm_R85_2 S, ↓sm_v85_2 S, sm_R85_3 S, ↓sm_v85_3 S, sm_R85_4 S, ↓sm_v85_4 S, sm_R85_5 S, ↓sm_v85_5 S, sm_R85_7 S, ↓sm_v85_7 S, sm_R85_11 S, ↓sm_v85_11 S, sm_R85_12 S, ↓sm_v85_12 S, sm_R85_15 S, ↓sm_v85_15 S, sm_R85_16 S, ↓sm_v85_16 S, sm_R85_17 S, ↓sm_v85_17 S, sm_R85_26 S, ↓sm_v85_26 S, sm_R85_29 S, ↓sm_v85_29 S, sm_R85_30 S, ↓sm_v85_30 S, sm_R85_32 S, ↓sm_v85_32 S, sm_R85_33 S, ↓sm_v85_33 S, sm_R85_34 S, ↓sm_v85_34 S, sm_R85_35 S, ↓sm_v85_35 S, sm_R85_36 S, ↓sm_v85_36 S, sm_R85_37 S, ↓sm_v85_37 S, sm_R85_38 S, ↓sm_v85_38 S, sm_R85_40 S, ↓sm_v85_40 S, sm_R85_41 S, ↓sm_v85_41 S, sm_R85_48 S, ↓sm_v85_48 S, sm_R85_49 S, ↓sm_v85_49 S, sm_k86 S, sm_n86 S, sm_k87 S, sm_n87 S, sm_k88 S, sm_n88 S, sm_k89 S, sm_n89 S, sm_k90 S, sm_n90 S, sm_k91 S, sm_n91 S, sm_k92 S, sm_n92 S, sm_k93 S, sm_n93 S, sm_k94 S, sm_n94 S, sm_k95 S, sm_n95 S, sm_k96 S, sm_n96 S, sm_k97 S, sm_n97 S, sm_k98 S, sm_n98 S, sm_k99 S, sm_n99 S, sm_k100 S, sm_n100 S, sm_k101 S, sm_n101 S, sm_k102 S, sm_n102 S, sm_k103 S, sm_n103 S, sm_k104 S, sm_n104 S, sm_k105 S, sm_n105 S, sm_k106 S, sm_n106 S, sm_k107 S, sm_n107 S, sm_k108 S, sm_n108 S, sm_k109 S, sm_n109 S, sm_k110 S, sm_n110 S, i1, e31]
  | d + 1, n, f + 1, e, hf => by
    have bg := W.glm
    have i1 := km K (i := 178) (by omega) (by omega)
    have i2 := km K (i := 163 + 2 * n) (by omega) (by omega)
    have i3 := km K (i := 164 + 2 * n) (by omega) (by omega)
    have g1 := W.gl (g := 2 * n) (by omega)
    have g2 := W.gl (g := 2 * n + 1) (by omega)
    have ea : 163 + (2 * n + 1) = 164 + 2 * n := by omega
    have eb : 163 + 2 * n + 1 = 164 + 2 * n := by omega
    rw [ea] at g2
    have gle := gl_le W (y := k (163 + 2 * n)) hc
    have b1 := bI_of (M_glm (F := F) S K hc (y := k (163 + 2 * n)) (by omega))
    have ih := M_yard_15 (F := F) S K W (kk := kk) (set := set) hc d (n + 1) f (by omega) (by omega)
    have st : ydG k c (n + 1) = (ydG k c n && decide (gl k c (k (163 + 2 * n)) = k (164 + 2 * n))) := rfl
    rw [st] at ih
    rw [← ih, q_M_yard_15]
    cases q : ydG k c n with
    | false => simp (disch := first | exact sR_rfl _ _ rfl | omega) only [ft_lit, ft_m1, ft_m2, ft_m3, ft_m5, ft_m6, ft_cl, ft_lt, ft_le, ft_eq, ft_mlt, ft_ltm, ft_mltm, ft_meq, ft_eqm, ft_meqm, ft_add, ft_mul, ft_sub, ft_nm, ft_m1p, ft_and, ft_or, ft_31, ft_shl, ft_shr, ft_bz, ft_z0, ft_z1, ft_z01, ft_bb, ft_zt, ft_zf, ft_or0, ft_rv, ft_rvr, ft_rf, ft_rfn, ft_bI, ft_bJ, ft_bV, ft_bR, ft_bRn, ft_isr, ft_isn, ft_ifn, ft_ifr, ft_ov, ft_ovn, ft_in, k_sI, n_sI, R_sI, J_sI, c_sI, z_sI, k_sJ, n_sJ, R_sJ, I_sJ, c_sJ, z_sJ, k_sR, n_sR, I_sR, J_sR, c_sR, z_sR, k_wI, n_wI, R_wI, J_wI, I_wIe, k_wJ, n_wJ, R_wJ, I_wJ, J_wJe, I_wIn, J_wJn, I_sIe, J_sJe, R_sRe, I_sIn, I_sIk, J_sJn, J_sJk, R_sRn, R_sRk, eq_self, if_true, if_false, ↓reduceIte, cond_true, cond_false, ↓cond_eq_ite, and_true, true_and, and_false, false_and, or_true, true_or, or_false, false_or, not_true_eq_false, not_false_eq_true, ft_ltT, ft_ltF, ft_eqT, ft_eqF, Bool.false_eq_true, Bool.true_eq_false, Bool.not_true, Bool.not_false, Bool.and_true, Bool.true_and, Bool.and_false, Bool.false_and, decide_true, decide_false, Nat.reduceAdd, Nat.reduceMul, Nat.reduceSub, Nat.reduceEqDiff, Nat.reduceLT, Nat.zero_add, Nat.add_zero, Nat.reduceDiv, Nat.reduceMod, sm_k85 S, sm_R85_1 S, ↓sm_v85_1 S, sm_R85_2 S, ↓sm_v85_2 S, sm_R85_3 S, ↓sm_v85_3 S, sm_R85_4 S, ↓sm_v85_4 S, sm_R85_5 S, ↓sm_v85_5 S, sm_R85_7 S, ↓sm_v85_7 S, sm_R85_11 S, ↓sm_v85_11 S, sm_R85_12 S, ↓sm_v85_12 S, sm_R85_15 S, ↓sm_v85_15 S, sm_R85_16 S, ↓sm_v85_16 S, sm_R85_17 S, ↓sm_v85_17 S, sm_R85_26 S, ↓sm_v85_26 S, sm_R85_29 S, ↓sm_v85_29 S, sm_R85_30 S, ↓sm_v85_30 S, sm_R85_32 S, ↓sm_v85_32 S, sm_R85_33 S, ↓sm_v85_33 S, sm_R85_34 S, ↓sm_v85_34 S, sm_R85_35 S, ↓sm_v85_35 S, sm_R85_36 S, ↓sm_v85_36 S, sm_R85_37 S, ↓sm_v85_37 S, sm_R85_38 S, ↓sm_v85_38 S, sm_R85_40 S, ↓sm_v85_40 S, sm_R85_41 S, ↓sm_v85_41 S, sm_R85_48 S, ↓sm_v85_48 S, sm_R85_49 S, ↓sm_v85_49 S, sm_k86 S, sm_n86 S, sm_k87 S, sm_n87 S, sm_k88 S, sm_n88 S, sm_k89 S, sm_n89 S, sm_k90 S, sm_n90 S, sm_k91 S, sm_n91 S, sm_k92 S, sm_n92 S, sm_k93 S, sm_n93 S, sm_k94 S, sm_n94 S, sm_k95 S, sm_n95 S, sm_k96 S, sm_n96 S, sm_k97 S, sm_n97 S, sm_k98 S, sm_n98 S, sm_k99 S, sm_n99 S, sm_k100 S, sm_n100 S, sm_k101 S, sm_n101 S, sm_k102 S, sm_n102 S, sm_k103 S, sm_n103 S, sm_k104 S, sm_n104 S, sm_k105 S, sm_n105 S, sm_k106 S, sm_n106 S, sm_k107 S, sm_n107 S, sm_k108 S, sm_n108 S, sm_k109 S, sm_n109 S, sm_k110 S, sm_n110 S, i1]
    | true =>
      by_cases q2 : gl k c (k (163 + 2 * n)) = k (164 + 2 * n)
      · simp (disch := first | exact sR_rfl _ _ rfl | omega) only [ft_lit, ft_m1, ft_m2, ft_m3, ft_m5, ft_m6, ft_cl, ft_lt, ft_le, ft_eq, ft_mlt, ft_ltm, ft_mltm, ft_meq, ft_eqm, ft_meqm, ft_add, ft_mul, ft_sub, ft_nm, ft_m1p, ft_and, ft_or, ft_31, ft_shl, ft_shr, ft_bz, ft_z0, ft_z1, ft_z01, ft_bb, ft_zt, ft_zf, ft_or0, ft_rv, ft_rvr, ft_rf, ft_rfn, ft_bI, ft_bJ, ft_bV, ft_bR, ft_bRn, ft_isr, ft_isn, ft_ifn, ft_ifr, ft_ov, ft_ovn, ft_in, k_sI, n_sI, R_sI, J_sI, c_sI, z_sI, k_sJ, n_sJ, R_sJ, I_sJ, c_sJ, z_sJ, k_sR, n_sR, I_sR, J_sR, c_sR, z_sR, k_wI, n_wI, R_wI, J_wI, I_wIe, k_wJ, n_wJ, R_wJ, I_wJ, J_wJe, I_wIn, J_wJn, I_sIe, J_sJe, R_sRe, I_sIn, I_sIk, J_sJn, J_sJk, R_sRn, R_sRk, eq_self, if_true, if_false, ↓reduceIte, cond_true, cond_false, ↓cond_eq_ite, and_true, true_and, and_false, false_and, or_true, true_or, or_false, false_or, not_true_eq_false, not_false_eq_true, ft_ltT, ft_ltF, ft_eqT, ft_eqF, Bool.false_eq_true, Bool.true_eq_false, Bool.not_true, Bool.not_false, Bool.and_true, Bool.true_and, Bool.and_false, Bool.false_and, decide_true, decide_false, Nat.reduceAdd, Nat.reduceMul, Nat.reduceSub, Nat.reduceEqDiff, Nat.reduceLT, Nat.zero_add, Nat.add_zero, Nat.reduceDiv, Nat.reduceMod, sm_k85 S, sm_R85_1 S, ↓sm_v85_1 S, sm_R85_2 S, ↓sm_v85_2 S, sm_R85_3 S, ↓sm_v85_3 S, sm_R85_4 S, ↓sm_v85_4 S, sm_R85_5 S, ↓sm_v85_5 S, sm_R85_7 S, ↓sm_v85_7 S, sm_R85_11 S, ↓sm_v85_11 S, sm_R85_12 S, ↓sm_v85_12 S, sm_R85_15 S, ↓sm_v85_15 S, sm_R85_16 S, ↓sm_v85_16 S, sm_R85_17 S, ↓sm_v85_17 S, sm_R85_26 S, ↓sm_v85_26 S, sm_R85_29 S, ↓sm_v85_29 S, sm_R85_30 S, ↓sm_v85_30 S, sm_R85_32 S, ↓sm_v85_32 S, sm_R85_33 S, ↓sm_v85_33 S, sm_R85_34 S, ↓sm_v85_34 S, sm_R85_35 S, ↓sm_v85_35 S, sm_R85_36 S, ↓sm_v85_36 S, sm_R85_37 S, ↓sm_v85_37 S, sm_R85_38 S, ↓sm_v85_38 S, sm_R85_40 S, ↓sm_v85_40 S, sm_R85_41 S, ↓sm_v85_41 S, sm_R85_48 S, ↓sm_v85_48 S, sm_R85_49 S, ↓sm_v85_49 S, sm_k86 S, sm_n86 S, sm_k87 S, sm_n87 S, sm_k88 S, sm_n88 S, sm_k89 S, sm_n89 S, sm_k90 S, sm_n90 S, sm_k91 S, sm_n91 S, sm_k92 S, sm_n92 S, sm_k93 S, sm_n93 S, sm_k94 S, sm_n94 S, sm_k95 S, sm_n95 S, sm_k96 S, sm_n96 S, sm_k97 S, sm_n97 S, sm_k98 S, sm_n98 S, sm_k99 S, sm_n99 S, sm_k100 S, sm_n100 S, sm_k101 S, sm_n101 S, sm_k102 S, sm_n102 S, sm_k103 S, sm_n103 S, sm_k104 S, sm_n104 S, sm_k105 S, sm_n105 S, sm_k106 S, sm_n106 S, sm_k107 S, sm_n107 S, sm_k108 S, sm_n108 S, sm_k109 S, sm_n109 S, sm_k110 S, sm_n110 S, i1, i2, i3, eb, ↓b1, q2]
      · simp (disch := first | exact sR_rfl _ _ rfl | omega) only [ft_lit, ft_m1, ft_m2, ft_m3, ft_m5, ft_m6, ft_cl, ft_lt, ft_le, ft_eq, ft_mlt, ft_ltm, ft_mltm, ft_meq, ft_eqm, ft_meqm, ft_add, ft_mul, ft_sub, ft_nm, ft_m1p, ft_and, ft_or, ft_31, ft_shl, ft_shr, ft_bz, ft_z0, ft_z1, ft_z01, ft_bb, ft_zt, ft_zf, ft_or0, ft_rv, ft_rvr, ft_rf, ft_rfn, ft_bI, ft_bJ, ft_bV, ft_bR, ft_bRn, ft_isr, ft_isn, ft_ifn, ft_ifr, ft_ov, ft_ovn, ft_in, k_sI, n_sI, R_sI, J_sI, c_sI, z_sI, k_sJ, n_sJ, R_sJ, I_sJ, c_sJ, z_sJ, k_sR, n_sR, I_sR, J_sR, c_sR, z_sR, k_wI, n_wI, R_wI, J_wI, I_wIe, k_wJ, n_wJ, R_wJ, I_wJ, J_wJe, I_wIn, J_wJn, I_sIe, J_sJe, R_sRe, I_sIn, I_sIk, J_sJn, J_sJk, R_sRn, R_sRk, eq_self, if_true, if_false, ↓reduceIte, cond_true, cond_false, ↓cond_eq_ite, and_true, true_and, and_false, false_and, or_true, true_or, or_false, false_or, not_true_eq_false, not_false_eq_true, ft_ltT, ft_ltF, ft_eqT, ft_eqF, Bool.false_eq_true, Bool.true_eq_false, Bool.not_true, Bool.not_false, Bool.and_true, Bool.true_and, Bool.and_false, Bool.false_and, decide_true, decide_false, Nat.reduceAdd, Nat.reduceMul, Nat.reduceSub, Nat.reduceEqDiff, Nat.reduceLT, Nat.zero_add, Nat.add_zero, Nat.reduceDiv, Nat.reduceMod, sm_k85 S, sm_R85_1 S, ↓sm_v85_1 S, sm_R85_2 S, ↓sm_v85_2 S, sm_R85_3 S, ↓sm_v85_3 S, sm_R85_4 S, ↓sm_v85_4 S, sm_R85_5 S, ↓sm_v85_5 S, sm_R85_7 S, ↓sm_v85_7 S, sm_R85_11 S, ↓sm_v85_11 S, sm_R85_12 S, ↓sm_v85_12 S, sm_R85_15 S, ↓sm_v85_15 S, sm_R85_16 S, ↓sm_v85_16 S, sm_R85_17 S, ↓sm_v85_17 S, sm_R85_26 S, ↓sm_v85_26 S, sm_R85_29 S, ↓sm_v85_29 S, sm_R85_30 S, ↓sm_v85_30 S, sm_R85_32 S, ↓sm_v85_32 S, sm_R85_33 S, ↓sm_v85_33 S, sm_R85_34 S, ↓sm_v85_34 S, sm_R85_35 S, ↓sm_v85_35 S, sm_R85_36 S, ↓sm_v85_36 S, sm_R85_37 S, ↓sm_v85_37 S, sm_R85_38 S, ↓sm_v85_38 S, sm_R85_40 S, ↓sm_v85_40 S, sm_R85_41 S, ↓sm_v85_41 S, sm_R85_48 S, ↓sm_v85_48 S, sm_R85_49 S, ↓sm_v85_49 S, sm_k86 S, sm_n86 S, sm_k87 S, sm_n87 S, sm_k88 S, sm_n88 S, sm_k89 S, sm_n89 S, sm_k90 S, sm_n90 S, sm_k91 S, sm_n91 S, sm_k92 S, sm_n92 S, sm_k93 S, sm_n93 S, sm_k94 S, sm_n94 S, sm_k95 S, sm_n95 S, sm_k96 S, sm_n96 S, sm_k97 S, sm_n97 S, sm_k98 S, sm_n98 S, sm_k99 S, sm_n99 S, sm_k100 S, sm_n100 S, sm_k101 S, sm_n101 S, sm_k102 S, sm_n102 S, sm_k103 S, sm_n103 S, sm_k104 S, sm_n104 S, sm_k105 S, sm_n105 S, sm_k106 S, sm_n106 S, sm_k107 S, sm_n107 S, sm_k108 S, sm_n108 S, sm_k109 S, sm_n109 S, sm_k110 S, sm_n110 S, i1, i2, i3, eb, ↓b1, q2]
theorem M_yard_4 {F : Nat × Nat} (hF : FF F) {h : jH} {k : Nat → Nat} (S : ShM h) (K : KM h k) (W : WK k) : ∀ d n f, n + d = 25 → d < f → m_M_yard_4 F f 85 (nI (ft_bs (ydS k) n)) (nI n) h = some (some (.int (nI (ft_bs (ydS k) 25))), h)
  | 0, n, f + 1, e, _ => by
    have : n = 25 := by omega
    subst this
    rw [q_M_yard_4]
    simp (disch := first | exact sR_rfl _ _ rfl | omega) only [ft_lit, ft_m1, ft_m2, ft_m3, ft_m5, ft_m6, ft_cl, ft_lt, ft_le, ft_eq, ft_mlt, ft_ltm, ft_mltm, ft_meq, ft_eqm, ft_meqm, ft_add, ft_mul, ft_sub, ft_nm, ft_m1p, ft_and, ft_or, ft_31, ft_shl, ft_shr, ft_bz, ft_z0, ft_z1, ft_z01, ft_bb, ft_zt, ft_zf, ft_or0, ft_rv, ft_rvr, ft_rf, ft_rfn, ft_bI, ft_bJ, ft_bV, ft_bR, ft_bRn, ft_isr, ft_isn, ft_ifn, ft_ifr, ft_ov, ft_ovn, ft_in, k_sI, n_sI, R_sI, J_sI, c_sI, z_sI, k_sJ, n_sJ, R_sJ, I_sJ, c_sJ, z_sJ, k_sR, n_sR, I_sR, J_sR, c_sR, z_sR, k_wI, n_wI, R_wI, J_wI, I_wIe, k_wJ, n_wJ, R_wJ, I_wJ, J_wJe, I_wIn, J_wJn, I_sIe, J_sJe, R_sRe, I_sIn, I_sIk, J_sJn, J_sJk, R_sRn, R_sRk, eq_self, if_true, if_false, ↓reduceIte, cond_true, cond_false, ↓cond_eq_ite, and_true, true_and, and_false, false_and, or_true, true_or, or_false, false_or, not_true_eq_false, not_false_eq_true, ft_ltT, ft_ltF, ft_eqT, ft_eqF, Bool.false_eq_true, Bool.true_eq_false, Bool.not_true, Bool.not_false, Bool.and_true, Bool.true_and, Bool.and_false, Bool.false_and, decide_true, decide_false, Nat.reduceAdd, Nat.reduceMul, Nat.reduceSub, Nat.reduceEqDiff, Nat.reduceLT, Nat.zero_add, Nat.add_zero, Nat.reduceDiv, Nat.reduceMod]
  | d + 1, n, f + 1, e, hf => by
    have bg := W.glm
    have hF1 := hF.1
    have ih := M_yard_4 (F := F) hF S K W d (n + 1) f (by omega) (by omega)
    rw [ft_bs_s _ n] at ih
    rw [← ih, q_M_yard_4, if_pos (by rw [ft_lt (by omega) (by omega)]; omega)]
    exact M_yard_15 S K W (by omega) (k 178) 0 F.1 (by omega) (by omega)
theorem M_yard {F : Nat × Nat} (hF : FF F) {h : jH} {k : Nat → Nat} (S : ShM h) (K : KM h k) (W : WK k) : m_M_yard F 85 h = some (some (.int (nI (ft_bs (ydS k) 25))), h) := M_yard_4 hF S K W 25 0 F.1 rfl (by have := hF.1; omega)
theorem M_yard_b {F : Nat × Nat} (hF : FF F) {h : jH} {k : Nat → Nat} (S : ShM h) (K : KM h k) (W : WK k) (ff : Int32 → jH → Option jO) : jbI (m_M_yard F 85 h) ff = ff ((nI (ft_bs (ydS k) 25))) (h) := bI_of (M_yard (F := F) (hF := hF) (h := h) (k := k) (S := S) (K := K) (W := W)) ff
def yb (k : Nat → Nat) (n g : Nat) : Nat := ft_bs (fun i => if i < n then ydS k i else if i = n then ydG k n g else true) 25
theorem U_yard_13 {F : Nat × Nat} {h : jH} {o : Nat} {k : Nat → Nat} (A : LA h o) (I : LI h o k) (W : WK k) {kk : Nat → Int32 → Int32 → jH → Option jO} {c : Nat} (hc : c < 25) : ∀ d n f, n + d = k 178 → d < f → m_L_yardCells_13 F kk f o (nI (yb k c n)) (nI c) (nI n) h = kk o (nI (yb k c (k 178))) (nI (c + 1)) h
  | 0, n, f + 1, e, _ => by
    have bg := W.glm
    have i1 := I.2.2.2.2.1
    have hn : n = k 178 := by omega
    rw [hn, q_L_yardCells_13]
    simp (disch := first | exact sR_rfl _ _ rfl | omega) only [ft_lit, ft_m1, ft_m2, ft_m3, ft_m5, ft_m6, ft_cl, ft_lt, ft_le, ft_eq, ft_mlt, ft_ltm, ft_mltm, ft_meq, ft_eqm, ft_meqm, ft_add, ft_mul, ft_sub, ft_nm, ft_m1p, ft_and, ft_or, ft_31, ft_shl, ft_shr, ft_bz, ft_z0, ft_z1, ft_z01, ft_bb, ft_zt, ft_zf, ft_or0, ft_rv, ft_rvr, ft_rf, ft_rfn, ft_bI, ft_bJ, ft_bV, ft_bR, ft_bRn, ft_isr, ft_isn, ft_ifn, ft_ifr, ft_ov, ft_ovn, ft_in, k_sI, n_sI, R_sI, J_sI, c_sI, z_sI, k_sJ, n_sJ, R_sJ, I_sJ, c_sJ, z_sJ, k_sR, n_sR, I_sR, J_sR, c_sR, z_sR, k_wI, n_wI, R_wI, J_wI, I_wIe, k_wJ, n_wJ, R_wJ, I_wJ, J_wJe, I_wIn, J_wJn, I_sIe, J_sJe, R_sRe, I_sIn, I_sIk, J_sJn, J_sJk, R_sRn, R_sRk, eq_self, if_true, if_false, ↓reduceIte, cond_true, cond_false, ↓cond_eq_ite, and_true, true_and, and_false, false_and, or_true, true_or, or_false, false_or, not_true_eq_false, not_false_eq_true, ft_ltT, ft_ltF, ft_eqT, ft_eqF, Bool.false_eq_true, Bool.true_eq_false, Bool.not_true, Bool.not_false, Bool.and_true, Bool.true_and, Bool.and_false, Bool.false_and, decide_true, decide_false, Nat.reduceAdd, Nat.reduceMul, Nat.reduceSub, Nat.reduceEqDiff, Nat.reduceLT, Nat.zero_add, Nat.add_zero, Nat.reduceDiv, Nat.reduceMod, A.1, i1]
  | d + 1, n, f + 1, e, hf => by
    have bg := W.glm
    have i1 := I.2.2.2.2.1
    have i2 := (I.2.2.2.2.2.1 n (by omega)).1
    have i3 := (I.2.2.2.2.2.1 n (by omega)).2
    have g1 := W.gl (g := 2 * n) (by omega)
    have g2 := W.gl (g := 2 * n + 1) (by omega)
    have ea : 163 + (2 * n + 1) = 164 + 2 * n := by omega
    rw [ea] at g2
    have e31 : c &&& 31 = c := ft_31 (by omega)
    have gle := gl_le W (y := k (163 + 2 * n)) hc
    have b1 := bI_of (U_kbw (F := F) A I hc (y := k (163 + 2 * n)) (by omega))
    have ih := U_yard_13 (F := F) A I W (kk := kk) hc d (n + 1) f (by omega) (by omega)
    have lt : yb k c n < 33554432 := ft_bs_lt _ 25
    have x6 := x_clr lt hc
    rw [← ih, q_L_yardCells_13]
    by_cases q2 : gl k c (k (163 + 2 * n)) = k (164 + 2 * n)
    · have z : yb k c (n + 1) = yb k c n := by
        unfold yb
        apply ft_bs_e
        intro i hi
        have st : ydG k c (n + 1) = (ydG k c n && decide (gl k c (k (163 + 2 * n)) = k (164 + 2 * n))) := rfl
        rw [st, decide_eq_true q2, Bool.and_true]
      rw [z]
      simp (disch := first | exact sR_rfl _ _ rfl | omega) only [ft_lit, ft_m1, ft_m2, ft_m3, ft_m5, ft_m6, ft_cl, ft_lt, ft_le, ft_eq, ft_mlt, ft_ltm, ft_mltm, ft_meq, ft_eqm, ft_meqm, ft_add, ft_mul, ft_sub, ft_nm, ft_m1p, ft_and, ft_or, ft_31, ft_shl, ft_shr, ft_bz, ft_z0, ft_z1, ft_z01, ft_bb, ft_zt, ft_zf, ft_or0, ft_rv, ft_rvr, ft_rf, ft_rfn, ft_bI, ft_bJ, ft_bV, ft_bR, ft_bRn, ft_isr, ft_isn, ft_ifn, ft_ifr, ft_ov, ft_ovn, ft_in, k_sI, n_sI, R_sI, J_sI, c_sI, z_sI, k_sJ, n_sJ, R_sJ, I_sJ, c_sJ, z_sJ, k_sR, n_sR, I_sR, J_sR, c_sR, z_sR, k_wI, n_wI, R_wI, J_wI, I_wIe, k_wJ, n_wJ, R_wJ, I_wJ, J_wJe, I_wIn, J_wJn, I_sIe, J_sJe, R_sRe, I_sIn, I_sIk, J_sJn, J_sJk, R_sRn, R_sRk, eq_self, if_true, if_false, ↓reduceIte, cond_true, cond_false, ↓cond_eq_ite, and_true, true_and, and_false, false_and, or_true, true_or, or_false, false_or, not_true_eq_false, not_false_eq_true, ft_ltT, ft_ltF, ft_eqT, ft_eqF, Bool.false_eq_true, Bool.true_eq_false, Bool.not_true, Bool.not_false, Bool.and_true, Bool.true_and, Bool.and_false, Bool.false_and, decide_true, decide_false, Nat.reduceAdd, Nat.reduceMul, Nat.reduceSub, Nat.reduceEqDiff, Nat.reduceLT, Nat.zero_add, Nat.add_zero, Nat.reduceDiv, Nat.reduceMod, A.1, ↓la_v0 A, ↓la_v1 A, ↓la_v3 A, ↓la_v4 A, ↓la_v5 A, ↓la_v6 A, ↓la_v7 A, ↓la_v9 A, ↓la_v10 A, ↓la_v11 A, ↓la_v12 A, la_k1 A, la_n1 A, la_k2 A, la_n2 A, la_k3 A, la_n3 A, la_k4 A, la_n4 A, la_k5 A, la_n5 A, la_k6 A, la_n6 A, la_k7 A, la_n7 A, la_k8 A, la_n8 A, la_k9 A, la_n9 A, la_k10 A, la_n10 A, la_k11 A, la_n11 A, i1, i2, i3, ↓b1, q2]
    · have z : ft_bs (fun i => (yb k c n).testBit i && !decide (i = c)) 25 = yb k c (n + 1) := by
        unfold yb
        apply ft_bs_e
        intro i hi
        rw [bs_tb hi]
        have st : ydG k c (n + 1) = (ydG k c n && decide (gl k c (k (163 + 2 * n)) = k (164 + 2 * n))) := rfl
        rw [st, decide_eq_false q2, Bool.and_false]
        by_cases w1 : i < c
        · simp [w1, Nat.ne_of_lt w1]
        · by_cases w2 : i = c
          · simp [w2]
          · simp [w1, w2]
      rw [z] at x6
      simp (disch := first | exact sR_rfl _ _ rfl | omega) only [ft_lit, ft_m1, ft_m2, ft_m3, ft_m5, ft_m6, ft_cl, ft_lt, ft_le, ft_eq, ft_mlt, ft_ltm, ft_mltm, ft_meq, ft_eqm, ft_meqm, ft_add, ft_mul, ft_sub, ft_nm, ft_m1p, ft_and, ft_or, ft_31, ft_shl, ft_shr, ft_bz, ft_z0, ft_z1, ft_z01, ft_bb, ft_zt, ft_zf, ft_or0, ft_rv, ft_rvr, ft_rf, ft_rfn, ft_bI, ft_bJ, ft_bV, ft_bR, ft_bRn, ft_isr, ft_isn, ft_ifn, ft_ifr, ft_ov, ft_ovn, ft_in, k_sI, n_sI, R_sI, J_sI, c_sI, z_sI, k_sJ, n_sJ, R_sJ, I_sJ, c_sJ, z_sJ, k_sR, n_sR, I_sR, J_sR, c_sR, z_sR, k_wI, n_wI, R_wI, J_wI, I_wIe, k_wJ, n_wJ, R_wJ, I_wJ, J_wJe, I_wIn, J_wJn, I_sIe, J_sJe, R_sRe, I_sIn, I_sIk, J_sJn, J_sJk, R_sRn, R_sRk, eq_self, if_true, if_false, ↓reduceIte, cond_true, cond_false, ↓cond_eq_ite, and_true, true_and, and_false, false_and, or_true, true_or, or_false, false_or, not_true_eq_false, not_false_eq_true, ft_ltT, ft_ltF, ft_eqT, ft_eqF, Bool.false_eq_true, Bool.true_eq_false, Bool.not_true, Bool.not_false, Bool.and_true, Bool.true_and, Bool.and_false, Bool.false_and, decide_true, decide_false, Nat.reduceAdd, Nat.reduceMul, Nat.reduceSub, Nat.reduceEqDiff, Nat.reduceLT, Nat.zero_add, Nat.add_zero, Nat.reduceDiv, Nat.reduceMod, A.1, ↓la_v0 A, ↓la_v1 A, ↓la_v3 A, ↓la_v4 A, ↓la_v5 A, ↓la_v6 A, ↓la_v7 A, ↓la_v9 A, ↓la_v10 A, ↓la_v11 A, ↓la_v12 A, la_k1 A, la_n1 A, la_k2 A, la_n2 A, la_k3 A, la_n3 A, la_k4 A, la_n4 A, la_k5 A, la_n5 A, la_k6 A, la_n6 A, la_k7 A, la_n7 A, la_k8 A, la_n8 A, la_k9 A, la_n9 A, la_k10 A, la_n10 A, la_k11 A, la_n11 A, i1, i2, i3, ↓b1, q2, e31, x6]
theorem U_yard_5 {F : Nat × Nat} (hF : FF F) {h : jH} {o : Nat} {k : Nat → Nat} (A : LA h o) (I : LI h o k) (W : WK k) : ∀ d n f, n + d = 25 → d < f → m_L_yardCells_5 F f o (nI (yb k n 0)) (nI n) h = some (some (.int (nI (ft_bs (ydS k) 25))), h)
  | 0, n, f + 1, e, _ => by
    have : n = 25 := by omega
    subst this
    have z : yb k 25 0 = ft_bs (ydS k) 25 := ft_bs_e 25 (fun i hi => by rw [if_pos hi])
    rw [q_L_yardCells_5, z]
    simp (disch := first | exact sR_rfl _ _ rfl | omega) only [ft_lit, ft_m1, ft_m2, ft_m3, ft_m5, ft_m6, ft_cl, ft_lt, ft_le, ft_eq, ft_mlt, ft_ltm, ft_mltm, ft_meq, ft_eqm, ft_meqm, ft_add, ft_mul, ft_sub, ft_nm, ft_m1p, ft_and, ft_or, ft_31, ft_shl, ft_shr, ft_bz, ft_z0, ft_z1, ft_z01, ft_bb, ft_zt, ft_zf, ft_or0, ft_rv, ft_rvr, ft_rf, ft_rfn, ft_bI, ft_bJ, ft_bV, ft_bR, ft_bRn, ft_isr, ft_isn, ft_ifn, ft_ifr, ft_ov, ft_ovn, ft_in, k_sI, n_sI, R_sI, J_sI, c_sI, z_sI, k_sJ, n_sJ, R_sJ, I_sJ, c_sJ, z_sJ, k_sR, n_sR, I_sR, J_sR, c_sR, z_sR, k_wI, n_wI, R_wI, J_wI, I_wIe, k_wJ, n_wJ, R_wJ, I_wJ, J_wJe, I_wIn, J_wJn, I_sIe, J_sJe, R_sRe, I_sIn, I_sIk, J_sJn, J_sJk, R_sRn, R_sRk, eq_self, if_true, if_false, ↓reduceIte, cond_true, cond_false, ↓cond_eq_ite, and_true, true_and, and_false, false_and, or_true, true_or, or_false, false_or, not_true_eq_false, not_false_eq_true, ft_ltT, ft_ltF, ft_eqT, ft_eqF, Bool.false_eq_true, Bool.true_eq_false, Bool.not_true, Bool.not_false, Bool.and_true, Bool.true_and, Bool.and_false, Bool.false_and, decide_true, decide_false, Nat.reduceAdd, Nat.reduceMul, Nat.reduceSub, Nat.reduceEqDiff, Nat.reduceLT, Nat.zero_add, Nat.add_zero, Nat.reduceDiv, Nat.reduceMod]
  | d + 1, n, f + 1, e, hf => by
    have bg := W.glm
    have hF1 := hF.1
    have ih := U_yard_5 (F := F) hF A I W d (n + 1) f (by omega) (by omega)
    have z : yb k (n + 1) 0 = yb k n (k 178) := by
      unfold yb
      apply ft_bs_e
      intro i hi
      by_cases w1 : i < n
      · rw [if_pos (by omega), if_pos w1]
      · by_cases w2 : i = n
        · rw [if_pos (by omega), if_neg w1, if_pos w2, w2]; rfl
        · by_cases w3 : i = n + 1
          · rw [if_neg (by omega), if_pos w3, if_neg w1, if_neg w2]; rfl
          · rw [if_neg (by omega), if_neg w3, if_neg w1, if_neg w2]
    rw [z] at ih
    rw [← ih, q_L_yardCells_5, if_pos (by rw [ft_lt (by omega) (by omega)]; omega)]
    exact U_yard_13 A I W (by omega) (k 178) 0 F.1 (by omega) (by omega)
theorem U_yard {F : Nat × Nat} (hF : FF F) {h : jH} {o : Nat} {k : Nat → Nat} (A : LA h o) (I : LI h o k) (W : WK k) : m_L_yardCells F o h = some (some (.int (nI (ft_bs (ydS k) 25))), h) := by
  have e := U_yard_5 (F := F) hF A I W 25 0 F.1 rfl (by have := hF.1; omega)
  have z : yb k 0 0 = 33554431 := by
    have : yb k 0 0 = ft_bs (fun _ => true) 25 := ft_bs_e 25 (fun i hi => by
      show (if i < 0 then _ else if i = 0 then ydG k 0 0 else true) = true
      rw [if_neg (by omega)]
      by_cases w : i = 0
      · rw [if_pos w]; rfl
      · rw [if_neg w])
    rw [this]; decide
  rw [z] at e
  rw [← e, q_L_yardCells]
theorem U_yard_b {F : Nat × Nat} (hF : FF F) {h : jH} {o : Nat} {k : Nat → Nat} (A : LA h o) (I : LI h o k) (W : WK k) (ff : Int32 → jH → Option jO) : jbI (m_L_yardCells F o h) ff = ff ((nI (ft_bs (ydS k) 25))) (h) := bI_of (U_yard (F := F) (hF := hF) (h := h) (o := o) (k := k) (A := A) (I := I) (W := W)) ff
theorem K_yard {F : Nat × Nat} (hF : FF F) {s : St} (w : WJ s) : Alk (m_M_yard F 85) (m_F_yard F 4) s := by
  obtain ⟨k, im, u, tp, tl, sc, kd⟩ := s
  have w' : WS k im u := w
  have W := w'.1
  refine ⟨(nI (ft_bs (ydS k) 25)), _, w, Mst.id (fun h M => ?_), Cst.id (fun h C => ?_)⟩
  · have M' : MI h k im u tp tl sc kd := M
    exact M_yard hF M'.1 M'.2.2.2.1 W
  · have C' : CI h k im u tp tl sc kd := C
    have S := C'.1
    have b1 := bI_of (U_yard (F := F) hF C'.2.2.1.1 C'.2.2.1.2.1 W)
    rw [q_F_yard]
    simp (disch := first | exact sR_rfl _ _ rfl | omega) only [ft_lit, ft_m1, ft_m2, ft_m3, ft_m5, ft_m6, ft_cl, ft_lt, ft_le, ft_eq, ft_mlt, ft_ltm, ft_mltm, ft_meq, ft_eqm, ft_meqm, ft_add, ft_mul, ft_sub, ft_nm, ft_m1p, ft_and, ft_or, ft_31, ft_shl, ft_shr, ft_bz, ft_z0, ft_z1, ft_z01, ft_bb, ft_zt, ft_zf, ft_or0, ft_rv, ft_rvr, ft_rf, ft_rfn, ft_bI, ft_bJ, ft_bV, ft_bR, ft_bRn, ft_isr, ft_isn, ft_ifn, ft_ifr, ft_ov, ft_ovn, ft_in, k_sI, n_sI, R_sI, J_sI, c_sI, z_sI, k_sJ, n_sJ, R_sJ, I_sJ, c_sJ, z_sJ, k_sR, n_sR, I_sR, J_sR, c_sR, z_sR, k_wI, n_wI, R_wI, J_wI, I_wIe, k_wJ, n_wJ, R_wJ, I_wJ, J_wJe, I_wIn, J_wJn, I_sIe, J_sJe, R_sRe, I_sIn, I_sIk, J_sJn, J_sJk, R_sRn, R_sRk, eq_self, if_true, if_false, ↓reduceIte, cond_true, cond_false, ↓cond_eq_ite, and_true, true_and, and_false, false_and, or_true, true_or, or_false, false_or, not_true_eq_false, not_false_eq_true, ft_ltT, ft_ltF, ft_eqT, ft_eqF, Bool.false_eq_true, Bool.true_eq_false, Bool.not_true, Bool.not_false, Bool.and_true, Bool.true_and, Bool.and_false, Bool.false_and, decide_true, decide_false, Nat.reduceAdd, Nat.reduceMul, Nat.reduceSub, Nat.reduceEqDiff, Nat.reduceLT, Nat.zero_add, Nat.add_zero, Nat.reduceDiv, Nat.reduceMod, sf_k4 S, sf_R4_0 S, ↓sf_v4_0 S, sf_R4_1 S, ↓sf_v4_1 S, sf_R4_2 S, ↓sf_v4_2 S, sf_R4_3 S, ↓sf_v4_3 S, sf_R4_4 S, ↓sf_v4_4 S, sf_R4_5 S, ↓sf_v4_5 S, sf_R4_6 S, ↓sf_v4_6 S, sf_R4_7 S, ↓sf_v4_7 S, sf_R4_8 S, ↓sf_v4_8 S, sf_R4_9 S, ↓sf_v4_9 S, sf_R4_10 S, ↓sf_v4_10 S, sf_R4_11 S, ↓sf_v4_11 S, sf_R4_12 S, ↓sf_v4_12 S, sf_k5 S, sf_R5_0 S, ↓sf_v5_0 S, sf_R5_1 S, ↓sf_v5_1 S, sf_R5_3 S, ↓sf_v5_3 S, sf_R5_4 S, ↓sf_v5_4 S, sf_R5_5 S, ↓sf_v5_5 S, sf_R5_6 S, ↓sf_v5_6 S, sf_R5_7 S, ↓sf_v5_7 S, sf_R5_9 S, ↓sf_v5_9 S, sf_R5_10 S, ↓sf_v5_10 S, sf_R5_11 S, ↓sf_v5_11 S, sf_R5_12 S, ↓sf_v5_12 S, sf_k17 S, sf_R17_0 S, ↓sf_v17_0 S, sf_R17_1 S, ↓sf_v17_1 S, sf_R17_3 S, ↓sf_v17_3 S, sf_R17_4 S, ↓sf_v17_4 S, sf_R17_5 S, ↓sf_v17_5 S, sf_R17_6 S, ↓sf_v17_6 S, sf_R17_7 S, ↓sf_v17_7 S, sf_R17_9 S, ↓sf_v17_9 S, sf_R17_10 S, ↓sf_v17_10 S, sf_R17_11 S, ↓sf_v17_11 S, sf_R17_12 S, ↓sf_v17_12 S, sf_k29 S, sf_R29_0 S, ↓sf_v29_0 S, sf_R29_1 S, ↓sf_v29_1 S, sf_R29_3 S, ↓sf_v29_3 S, sf_R29_4 S, ↓sf_v29_4 S, sf_R29_5 S, ↓sf_v29_5 S, sf_R29_6 S, ↓sf_v29_6 S, sf_R29_7 S, ↓sf_v29_7 S, sf_R29_9 S, ↓sf_v29_9 S, sf_R29_10 S, ↓sf_v29_10 S, sf_R29_11 S, ↓sf_v29_11 S, sf_R29_12 S, ↓sf_v29_12 S, sf_k41 S, sf_n41 S, sf_k42 S, sf_R42_0 S, ↓sf_v42_0 S, sf_R42_1 S, ↓sf_v42_1 S, sf_R42_2 S, ↓sf_v42_2 S, sf_R42_3 S, ↓sf_v42_3 S, sf_R42_4 S, ↓sf_v42_4 S, sf_R42_5 S, ↓sf_v42_5 S, sf_R42_6 S, ↓sf_v42_6 S, sf_R42_7 S, ↓sf_v42_7 S, sf_k51 S, sf_R51_0 S, ↓sf_v51_0 S, sf_R51_1 S, ↓sf_v51_1 S, sf_R51_2 S, ↓sf_v51_2 S, sf_R51_3 S, ↓sf_v51_3 S, sf_R51_4 S, ↓sf_v51_4 S, sf_R51_5 S, ↓sf_v51_5 S, sf_R51_6 S, ↓sf_v51_6 S, sf_R51_7 S, ↓sf_v51_7 S, sf_k60 S, sf_R60_0 S, ↓sf_v60_0 S, sf_R60_3 S, ↓sf_v60_3 S, sf_R60_4 S, ↓sf_v60_4 S, sf_R60_5 S, ↓sf_v60_5 S, sf_R60_6 S, ↓sf_v60_6 S, sf_k72 S, sf_R72_0 S, ↓sf_v72_0 S, sf_R72_1 S, ↓sf_v72_1 S, sf_k75 S, sf_R75_0 S, ↓sf_v75_0 S, sf_R75_1 S, ↓sf_v75_1 S, sf_R75_2 S, ↓sf_v75_2 S, sf_R75_3 S, ↓sf_v75_3 S, sf_R75_4 S, ↓sf_v75_4 S, sf_k81 S, sf_n81 S, sf_k82 S, sf_n82 S, sf_k83 S, sf_n83 S, sf_k84 S, sf_n84 S, sf_k6 S, sf_n6 S, sf_k7 S, sf_n7 S, sf_k8 S, sf_n8 S, sf_k9 S, sf_n9 S, sf_k10 S, sf_n10 S, sf_k11 S, sf_n11 S, sf_k12 S, sf_n12 S, sf_k13 S, sf_n13 S, sf_k14 S, sf_n14 S, sf_k15 S, sf_n15 S, sf_k16 S, sf_n16 S, sf_k18 S, sf_n18 S, sf_k19 S, sf_n19 S, sf_k20 S, sf_n20 S, sf_k21 S, sf_n21 S, sf_k22 S, sf_n22 S, sf_k23 S, sf_n23 S, sf_k24 S, sf_n24 S, sf_k25 S, sf_n25 S, sf_k26 S, sf_n26 S, sf_k27 S, sf_n27 S, sf_k28 S, sf_n28 S, sf_k30 S, sf_n30 S, sf_k31 S, sf_n31 S, sf_k32 S, sf_n32 S, sf_k33 S, sf_n33 S, sf_k34 S, sf_n34 S, sf_k35 S, sf_n35 S, sf_k36 S, sf_n36 S, sf_k37 S, sf_n37 S, sf_k38 S, sf_n38 S, sf_k39 S, sf_n39 S, sf_k40 S, sf_n40 S, sf_k43 S, sf_n43 S, sf_k44 S, sf_n44 S, sf_k45 S, sf_n45 S, sf_k46 S, sf_n46 S, sf_k47 S, sf_n47 S, sf_k48 S, sf_n48 S, sf_k49 S, sf_n49 S, sf_k50 S, sf_n50 S, sf_k52 S, sf_n52 S, sf_k53 S, sf_n53 S, sf_k54 S, sf_n54 S, sf_k55 S, sf_n55 S, sf_k56 S, sf_n56 S, sf_k57 S, sf_n57 S, sf_k58 S, sf_n58 S, sf_k59 S, sf_n59 S, sf_k61 S, sf_n61 S, sf_k62 S, sf_R62_0 S, ↓sf_v62_0 S, sf_R62_1 S, ↓sf_v62_1 S, sf_R62_2 S, ↓sf_v62_2 S, sf_R62_3 S, ↓sf_v62_3 S, sf_R62_4 S, ↓sf_v62_4 S, sf_R62_5 S, ↓sf_v62_5 S, sf_k69 S, sf_n69 S, sf_k70 S, sf_n70 S, sf_k71 S, sf_n71 S, sf_k73 S, sf_n73 S, sf_k74 S, sf_n74 S, sf_k76 S, sf_n76 S, sf_k77 S, sf_n77 S, sf_k78 S, sf_n78 S, sf_k79 S, sf_n79 S, sf_k80 S, sf_n80 S, sf_k63 S, sf_n63 S, sf_k64 S, sf_n64 S, sf_k65 S, sf_n65 S, sf_k66 S, sf_n66 S, sf_k67 S, sf_n67 S, sf_k68 S, sf_n68 S, ↓b1]
/-- the sheets of a set of walkers together -/
def shO (k : Nat → Nat) (who : Nat) : Nat → Nat
  | 0 => 0
  | n + 1 => if who.testBit n then shO k who n ||| ft_bs (ft_sh k n) 25 else shO k who n
theorem shO_lt (k : Nat → Nat) (who : Nat) : ∀ n, shO k who n < 2 ^ 25
  | 0 => (show 0 < 2 ^ 25 by decide)
  | n + 1 => by
    unfold shO
    split
    · exact Nat.or_lt_two_pow (shO_lt k who n) (ft_bs_lt _ 25)
    · exact shO_lt k who n
theorem M_shs_4 {F : Nat × Nat} (hF : FF F) {h : jH} {k : Nat → Nat} (S : ShM h) (K : KM h k) (W : WK k) {who : Nat} (hw : who < 2147483648) : ∀ d n f, n + d = k 177 → d < f → m_M_sheetsOf_4 F f 85 (nI who) (nI (shO k who n)) (nI n) h = some (some (.int (nI (shO k who (k 177)))), h)
  | 0, n, f + 1, e, _ => by
    have bm := W.many
    have b1 := bI_of (M_many (F := F) S K)
    have : n = k 177 := by omega
    rw [q_M_sheetsOf_4, if_pos (sm_k85 S), b1, if_neg (by rw [ft_lt (by omega) (by omega)]; omega), this]
  | d + 1, n, f + 1, e, hf => by
    have bm := W.many
    have b1 := bI_of (M_many (F := F) S K)
    have b2 := bI_of (M_isIn (F := F) (h := h) (s := who) (c := n) hw (by omega))
    have b3 := bI_of (M_sheetOf (F := F) hF S K W.b31 (w := n) (by omega))
    have ih := M_shs_4 (F := F) hF S K W hw d (n + 1) f (by omega) (by omega)
    have z : shO k who (n + 1) = if who.testBit n then shO k who n ||| ft_bs (ft_sh k n) 25 else shO k who n := rfl
    rw [z] at ih
    rw [q_M_sheetsOf_4, if_pos (sm_k85 S), b1, if_pos (by rw [ft_lt (by omega) (by omega)]; omega), b2]
    cases q : who.testBit n with
    | true =>
      rw [q, if_pos rfl] at ih
      rw [if_neg (by decide), if_pos (sm_k85 S), b3, ← ih]
      simp (disch := first | exact sR_rfl _ _ rfl | omega) only [ft_lit, ft_m1, ft_m2, ft_m3, ft_m5, ft_m6, ft_cl, ft_lt, ft_le, ft_eq, ft_mlt, ft_ltm, ft_mltm, ft_meq, ft_eqm, ft_meqm, ft_add, ft_mul, ft_sub, ft_nm, ft_m1p, ft_and, ft_or, ft_31, ft_shl, ft_shr, ft_bz, ft_z0, ft_z1, ft_z01, ft_bb, ft_zt, ft_zf, ft_or0, ft_rv, ft_rvr, ft_rf, ft_rfn, ft_bI, ft_bJ, ft_bV, ft_bR, ft_bRn, ft_isr, ft_isn, ft_ifn, ft_ifr, ft_ov, ft_ovn, ft_in, k_sI, n_sI, R_sI, J_sI, c_sI, z_sI, k_sJ, n_sJ, R_sJ, I_sJ, c_sJ, z_sJ, k_sR, n_sR, I_sR, J_sR, c_sR, z_sR, k_wI, n_wI, R_wI, J_wI, I_wIe, k_wJ, n_wJ, R_wJ, I_wJ, J_wJe, I_wIn, J_wJn, I_sIe, J_sJe, R_sRe, I_sIn, I_sIk, J_sJn, J_sJk, R_sRn, R_sRk, eq_self, if_true, if_false, ↓reduceIte, cond_true, cond_false, ↓cond_eq_ite, and_true, true_and, and_false, false_and, or_true, true_or, or_false, false_or, not_true_eq_false, not_false_eq_true, ft_ltT, ft_ltF, ft_eqT, ft_eqF, Bool.false_eq_true, Bool.true_eq_false, Bool.not_true, Bool.not_false, Bool.and_true, Bool.true_and, Bool.and_false, Bool.false_and, decide_true, decide_false, Nat.reduceAdd, Nat.reduceMul, Nat.reduceSub, Nat.reduceEqDiff, Nat.reduceLT, Nat.zero_add, Nat.add_zero, Nat.reduceDiv, Nat.reduceMod]
    | false =>
      rw [q, if_neg (by decide)] at ih
      rw [if_pos (show nI (ft_z false) = nI 0 from rfl), ← ih]
      simp (disch := first | exact sR_rfl _ _ rfl | omega) only [ft_lit, ft_m1, ft_m2, ft_m3, ft_m5, ft_m6, ft_cl, ft_lt, ft_le, ft_eq, ft_mlt, ft_ltm, ft_mltm, ft_meq, ft_eqm, ft_meqm, ft_add, ft_mul, ft_sub, ft_nm, ft_m1p, ft_and, ft_or, ft_31, ft_shl, ft_shr, ft_bz, ft_z0, ft_z1, ft_z01, ft_bb, ft_zt, ft_zf, ft_or0, ft_rv, ft_rvr, ft_rf, ft_rfn, ft_bI, ft_bJ, ft_bV, ft_bR, ft_bRn, ft_isr, ft_isn, ft_ifn, ft_ifr, ft_ov, ft_ovn, ft_in, k_sI, n_sI, R_sI, J_sI, c_sI, z_sI, k_sJ, n_sJ, R_sJ, I_sJ, c_sJ, z_sJ, k_sR, n_sR, I_sR, J_sR, c_sR, z_sR, k_wI, n_wI, R_wI, J_wI, I_wIe, k_wJ, n_wJ, R_wJ, I_wJ, J_wJe, I_wIn, J_wJn, I_sIe, J_sJe, R_sRe, I_sIn, I_sIk, J_sJn, J_sJk, R_sRn, R_sRk, eq_self, if_true, if_false, ↓reduceIte, cond_true, cond_false, ↓cond_eq_ite, and_true, true_and, and_false, false_and, or_true, true_or, or_false, false_or, not_true_eq_false, not_false_eq_true, ft_ltT, ft_ltF, ft_eqT, ft_eqF, Bool.false_eq_true, Bool.true_eq_false, Bool.not_true, Bool.not_false, Bool.and_true, Bool.true_and, Bool.and_false, Bool.false_and, decide_true, decide_false, Nat.reduceAdd, Nat.reduceMul, Nat.reduceSub, Nat.reduceEqDiff, Nat.reduceLT, Nat.zero_add, Nat.add_zero, Nat.reduceDiv, Nat.reduceMod]
theorem U_shs_4 {F : Nat × Nat} {h : jH} {o : Nat} {k : Nat → Nat} (A : LA h o) (I : LI h o k) (W : WK k) {who : Nat} (hw : who < 2147483648) : ∀ d n f, n + d = k 177 → d < f → m_L_mappedBy_4 F f o (nI who) (nI (shO k who n)) (nI n) h = some (some (.int (nI (shO k who (k 177)))), h)
  | 0, n, f + 1, e, _ => by
    have bm := W.many
    have i2 := I.2.2.1
    have : n = k 177 := by omega
    rw [q_L_mappedBy_4, if_pos A.1, i2, if_neg (by rw [ft_lt (by omega) (by omega)]; omega), this]
  | d + 1, n, f + 1, e, hf => by
    have bm := W.many
    have i2 := I.2.2.1
    have i6 := (I.2.2.2.1 n (by omega)).2.2.2.1
    have e31 : n &&& 31 = n := ft_31 (by omega)
    have ih := U_shs_4 (F := F) A I W hw d (n + 1) f (by omega) (by omega)
    have z : shO k who (n + 1) = if who.testBit n then shO k who n ||| ft_bs (ft_sh k n) 25 else shO k who n := rfl
    rw [z] at ih
    cases q : who.testBit n with
    | true =>
      rw [q, if_pos rfl] at ih
      rw [← ih, q_L_mappedBy_4]
      simp (disch := first | exact sR_rfl _ _ rfl | omega) only [ft_lit, ft_m1, ft_m2, ft_m3, ft_m5, ft_m6, ft_cl, ft_lt, ft_le, ft_eq, ft_mlt, ft_ltm, ft_mltm, ft_meq, ft_eqm, ft_meqm, ft_add, ft_mul, ft_sub, ft_nm, ft_m1p, ft_and, ft_or, ft_31, ft_shl, ft_shr, ft_bz, ft_z0, ft_z1, ft_z01, ft_bb, ft_zt, ft_zf, ft_or0, ft_rv, ft_rvr, ft_rf, ft_rfn, ft_bI, ft_bJ, ft_bV, ft_bR, ft_bRn, ft_isr, ft_isn, ft_ifn, ft_ifr, ft_ov, ft_ovn, ft_in, k_sI, n_sI, R_sI, J_sI, c_sI, z_sI, k_sJ, n_sJ, R_sJ, I_sJ, c_sJ, z_sJ, k_sR, n_sR, I_sR, J_sR, c_sR, z_sR, k_wI, n_wI, R_wI, J_wI, I_wIe, k_wJ, n_wJ, R_wJ, I_wJ, J_wJe, I_wIn, J_wJn, I_sIe, J_sJe, R_sRe, I_sIn, I_sIk, J_sJn, J_sJk, R_sRn, R_sRk, eq_self, if_true, if_false, ↓reduceIte, cond_true, cond_false, ↓cond_eq_ite, and_true, true_and, and_false, false_and, or_true, true_or, or_false, false_or, not_true_eq_false, not_false_eq_true, ft_ltT, ft_ltF, ft_eqT, ft_eqF, Bool.false_eq_true, Bool.true_eq_false, Bool.not_true, Bool.not_false, Bool.and_true, Bool.true_and, Bool.and_false, Bool.false_and, decide_true, decide_false, Nat.reduceAdd, Nat.reduceMul, Nat.reduceSub, Nat.reduceEqDiff, Nat.reduceLT, Nat.zero_add, Nat.add_zero, Nat.reduceDiv, Nat.reduceMod, A.1, ↓la_v0 A, ↓la_v1 A, ↓la_v3 A, ↓la_v4 A, ↓la_v5 A, ↓la_v6 A, ↓la_v7 A, ↓la_v9 A, ↓la_v10 A, ↓la_v11 A, ↓la_v12 A, la_k1 A, la_n1 A, la_k2 A, la_n2 A, la_k3 A, la_n3 A, la_k4 A, la_n4 A, la_k5 A, la_n5 A, la_k6 A, la_n6 A, la_k7 A, la_n7 A, la_k8 A, la_n8 A, la_k9 A, la_n9 A, la_k10 A, la_n10 A, la_k11 A, la_n11 A, i2, i6, e31, q]
    | false =>
      rw [q, if_neg (by decide)] at ih
      rw [← ih, q_L_mappedBy_4]
      simp (disch := first | exact sR_rfl _ _ rfl | omega) only [ft_lit, ft_m1, ft_m2, ft_m3, ft_m5, ft_m6, ft_cl, ft_lt, ft_le, ft_eq, ft_mlt, ft_ltm, ft_mltm, ft_meq, ft_eqm, ft_meqm, ft_add, ft_mul, ft_sub, ft_nm, ft_m1p, ft_and, ft_or, ft_31, ft_shl, ft_shr, ft_bz, ft_z0, ft_z1, ft_z01, ft_bb, ft_zt, ft_zf, ft_or0, ft_rv, ft_rvr, ft_rf, ft_rfn, ft_bI, ft_bJ, ft_bV, ft_bR, ft_bRn, ft_isr, ft_isn, ft_ifn, ft_ifr, ft_ov, ft_ovn, ft_in, k_sI, n_sI, R_sI, J_sI, c_sI, z_sI, k_sJ, n_sJ, R_sJ, I_sJ, c_sJ, z_sJ, k_sR, n_sR, I_sR, J_sR, c_sR, z_sR, k_wI, n_wI, R_wI, J_wI, I_wIe, k_wJ, n_wJ, R_wJ, I_wJ, J_wJe, I_wIn, J_wJn, I_sIe, J_sJe, R_sRe, I_sIn, I_sIk, J_sJn, J_sJk, R_sRn, R_sRk, eq_self, if_true, if_false, ↓reduceIte, cond_true, cond_false, ↓cond_eq_ite, and_true, true_and, and_false, false_and, or_true, true_or, or_false, false_or, not_true_eq_false, not_false_eq_true, ft_ltT, ft_ltF, ft_eqT, ft_eqF, Bool.false_eq_true, Bool.true_eq_false, Bool.not_true, Bool.not_false, Bool.and_true, Bool.true_and, Bool.and_false, Bool.false_and, decide_true, decide_false, Nat.reduceAdd, Nat.reduceMul, Nat.reduceSub, Nat.reduceEqDiff, Nat.reduceLT, Nat.zero_add, Nat.add_zero, Nat.reduceDiv, Nat.reduceMod, A.1, ↓la_v0 A, ↓la_v1 A, ↓la_v3 A, ↓la_v4 A, ↓la_v5 A, ↓la_v6 A, ↓la_v7 A, ↓la_v9 A, ↓la_v10 A, ↓la_v11 A, ↓la_v12 A, la_k1 A, la_n1 A, la_k2 A, la_n2 A, la_k3 A, la_n3 A, la_k4 A, la_n4 A, la_k5 A, la_n5 A, la_k6 A, la_n6 A, la_k7 A, la_n7 A, la_k8 A, la_n8 A, la_k9 A, la_n9 A, la_k10 A, la_n10 A, la_k11 A, la_n11 A, i2, e31, q]
def cvS (k : Nat → Nat) (all : Nat) : Nat → Nat
  | 0 => all
  | n + 1 => if ft_pc n 25 < ft_pc (cvS k all n) 25 ∧ shO k n (k 177) = shO k all (k 177) then n else cvS k all n
theorem cvS_le {k : Nat → Nat} {all : Nat} : ∀ n, n ≤ all → cvS k all n ≤ all
  | 0, _ => Nat.le_refl _
  | n + 1, h => by
    unfold cvS
    split
    · omega
    · exact cvS_le n (by omega)
theorem M_cv_25 {F : Nat × Nat} (hF : FF F) {h : jH} {k : Nat → Nat} (S : ShM h) (K : KM h k) (W : WK k) {all t : Nat} (ha : all < 16) (ht : t < 2) : ∀ d n f, n + d = all → d < f → m_M_cover_25 F f 85 (nI t) (nI all) (nI (cvS k all n)) (nI n) h = some (some (.int (nI (if t = 0 then ft_pc (cvS k all all) 25 else cvS k all all))), h)
  | 0, n, f + 1, e, _ => by
    have hn : n = all := by omega
    have le := cvS_le (k := k) (all := all) n (by omega)
    have b1 := bI_of (M_ones (F := F) hF (h := h) (n := cvS k all n) (by omega))
    rw [hn] at b1 le
    rw [hn, q_M_cover_25, if_neg (by rw [ft_lt (by omega) (by omega)]; omega)]
    obtain rfl | rfl : t = 0 ∨ t = 1 := by omega
    · rw [if_pos rfl, b1, if_pos rfl]
    · rw [if_neg (by decide), if_neg (by decide)]
  | d + 1, n, f + 1, e, hf => by
    have bm := W.many
    have hF1 := hF.1
    have le := cvS_le (k := k) (all := all) n (by omega)
    have b1 := bI_of (M_ones (F := F) hF (h := h) (n := n) (by omega))
    have b2 := bI_of (M_ones (F := F) hF (h := h) (n := cvS k all n) (by omega))
    have p1 := ft_pc_le n 25
    have p2 := ft_pc_le (cvS k all n) 25
    have s1 := bI_of (show m_M_sheetsOf F 85 (nI n) h = _ from M_shs_4 (F := F) hF S K W (who := n) (by omega) (k 177) 0 F.1 (by omega) (by omega))
    have s2 := bI_of (show m_M_sheetsOf F 85 (nI all) h = _ from M_shs_4 (F := F) hF S K W (who := all) (by omega) (k 177) 0 F.1 (by omega) (by omega))
    have l1 := shO_lt k n (k 177)
    have l2 := shO_lt k all (k 177)
    have ih := M_cv_25 (F := F) hF S K W (all := all) (t := t) ha ht d (n + 1) f (by omega) (by omega)
    have z : cvS k all (n + 1) = if ft_pc n 25 < ft_pc (cvS k all n) 25 ∧ shO k n (k 177) = shO k all (k 177) then n else cvS k all n := rfl
    rw [z] at ih
    rw [q_M_cover_25, if_pos (by rw [ft_lt (by omega) (by omega)]; omega), b1, b2]
    by_cases q1 : ft_pc n 25 < ft_pc (cvS k all n) 25
    · rw [if_pos (by rw [ft_lt (by omega) (by omega)]; exact q1), if_pos (sm_k85 S), s1, if_pos (sm_k85 S), s2]
      by_cases q2 : shO k n (k 177) = shO k all (k 177)
      · rw [if_pos ⟨q1, q2⟩] at ih
        rw [if_pos (by rw [q2]), ft_add]; exact ih
      · rw [if_neg (fun z => q2 z.2)] at ih
        rw [if_neg (by rw [ft_eq (by omega) (by omega)]; exact q2), ft_add]; exact ih
    · rw [if_neg (fun z => q1 z.1)] at ih
      rw [if_neg (by rw [ft_lt (by omega) (by omega)]; exact q1), ft_add]; exact ih
theorem C_cv_38 {F : Nat × Nat} (hF : FF F) {h : jH} {k : Nat → Nat} (S : ShF h) (L : LL h 5 k) (W : WK k) {all t : Nat} (ha : all < 16) (ht : t < 2) : ∀ d n f, n + d = all → d < f → m_F_cover_38 F f 4 (nI t) (nI all) (nI (shO k all (k 177))) (nI (cvS k all n)) (nI n) h = some (some (.int (nI (if t = 0 then ft_pc (cvS k all all) 25 else cvS k all all))), h)
  | 0, n, f + 1, e, _ => by
    have hn : n = all := by omega
    have le := cvS_le (k := k) (all := all) n (by omega)
    have b1 := bI_of (C_bits (F := F) (h := h) (n := cvS k all n) (by omega))
    rw [hn] at b1 le
    rw [hn, q_F_cover_38, if_neg (by rw [ft_lt (by omega) (by omega)]; omega)]
    obtain rfl | rfl : t = 0 ∨ t = 1 := by omega
    · rw [if_pos rfl, b1, if_pos rfl]
    · rw [if_neg (by decide), if_neg (by decide)]
  | d + 1, n, f + 1, e, hf => by
    have bm := W.many
    have hF1 := hF.1
    have le := cvS_le (k := k) (all := all) n (by omega)
    have b1 := bI_of (C_bits (F := F) (h := h) (n := n) (by omega))
    have b2 := bI_of (C_bits (F := F) (h := h) (n := cvS k all n) (by omega))
    have p1 := ft_pc_le n 25
    have p2 := ft_pc_le (cvS k all n) 25
    have s1 := bI_of (show m_L_mappedBy F 5 (nI n) h = _ from U_shs_4 (F := F) L.1 L.2.1 W (who := n) (by omega) (k 177) 0 F.1 (by omega) (by omega))
    have l1 := shO_lt k n (k 177)
    have l2 := shO_lt k all (k 177)
    have ih := C_cv_38 (F := F) hF S L W (all := all) (t := t) ha ht d (n + 1) f (by omega) (by omega)
    have z : cvS k all (n + 1) = if ft_pc n 25 < ft_pc (cvS k all n) 25 ∧ shO k n (k 177) = shO k all (k 177) then n else cvS k all n := rfl
    rw [z] at ih
    rw [q_F_cover_38, if_pos (by rw [ft_lt (by omega) (by omega)]; omega), if_pos (sf_k4 S), sf_v4_0 S (sR_rfl _ _ rfl), if_pos (sf_k5 S), s1]
    by_cases q2 : shO k n (k 177) = shO k all (k 177)
    · rw [if_pos (by rw [q2]), b1, b2]
      by_cases q1 : ft_pc n 25 < ft_pc (cvS k all n) 25
      · rw [if_pos ⟨q1, q2⟩] at ih
        rw [if_pos (by rw [ft_lt (by omega) (by omega)]; exact q1), ft_add]; exact ih
      · rw [if_neg (fun z => q1 z.1)] at ih
        rw [if_neg (by rw [ft_lt (by omega) (by omega)]; exact q1), ft_add]; exact ih
    · rw [if_neg (fun z => q2 z.2)] at ih
      rw [if_neg (by rw [ft_eq (by omega) (by omega)]; exact q2), ft_add]; exact ih
theorem w_all : ∀ m, m ≤ 4 → (nI 1 <<< (nI m &&& nI 31)) - nI 1 = nI (2 ^ m - 1) ∧ 2 ^ m - 1 < 16 := by decide
theorem K_cover {F : Nat × Nat} (hF : FF F) {s : St} (w : WJ s) (a : Int32) : Alk (m_M_cover F 85 a) (m_F_cover F 4 a) s := by
  obtain ⟨k, im, u, tp, tl, sc, kd⟩ := s
  have w' : WS k im u := w
  have W := w'.1
  have bm := W.many
  have hF1 := hF.1
  obtain ⟨wa, wl⟩ := w_all (k 177) bm
  rcases litQ a 2 (by omega) with ⟨t, ht, rfl⟩ | q
  · refine ⟨(nI (if t = 0 then ft_pc (cvS k (2 ^ k 177 - 1) (2 ^ k 177 - 1)) 25 else cvS k (2 ^ k 177 - 1) (2 ^ k 177 - 1))), _, w, Mst.id (fun h M => ?_), Cst.id (fun h C => ?_)⟩
    · have M' : MI h k im u tp tl sc kd := M
      have S := M'.1
      rw [q_M_cover, bI_of (lie1 (Nat.zero_le _) (by omega) (by omega)), if_neg (by decide), if_pos (sm_k85 S), bI_of (M_many S M'.2.2.2.1)]
      show m_M_cover_25 F F.1 85 (nI t) ((nI 1 <<< (nI (k 177) &&& nI 31)) - nI 1) ((nI 1 <<< (nI (k 177) &&& nI 31)) - nI 1) (nI 0) h = _
      rw [wa]
      exact M_cv_25 hF S M'.2.2.2.1 W wl ht (2 ^ k 177 - 1) 0 F.1 (by omega) (by omega)
    · have C' : CI h k im u tp tl sc kd := C
      have S := C'.1
      have L := C'.2.2.1
      have i2 : j_I h 5 2 = nI (k 177) := L.2.1.2.2.1
      have s1 := bI_of (show m_L_mappedBy F 5 (nI (2 ^ k 177 - 1)) h = _ from U_shs_4 (F := F) L.1 L.2.1 W (who := 2 ^ k 177 - 1) (by omega) (k 177) 0 F.1 (by omega) (by omega))
      have e := C_cv_38 (F := F) hF S L W (all := 2 ^ k 177 - 1) (t := t) wl ht (2 ^ k 177 - 1) 0 F.1 (by omega) (by omega)
      rw [← e, q_F_cover]
      obtain rfl | rfl : t = 0 ∨ t = 1 := by omega
      · rw [if_pos rfl, if_pos (sf_k4 S), sf_v4_0 S (sR_rfl _ _ rfl), if_pos (sf_k5 S), i2, if_pos (sf_k4 S), sf_v4_0 S (sR_rfl _ _ rfl), if_pos (sf_k5 S)]
        show jbI (m_L_mappedBy F 5 ((nI 1 <<< (nI (k 177) &&& nI 31)) - nI 1) h) _ = _
        rw [wa, s1]
        rfl
      · rw [if_neg (by decide), if_pos rfl, if_pos (sf_k4 S), sf_v4_0 S (sR_rfl _ _ rfl), if_pos (sf_k5 S), i2, if_pos (sf_k4 S), sf_v4_0 S (sR_rfl _ _ rfl), if_pos (sf_k5 S)]
        show jbI (m_L_mappedBy F 5 ((nI 1 <<< (nI (k 177) &&& nI 31)) - nI 1) h) _ = _
        rw [wa, s1]
        rfl
  · have n0 := q 0 (by omega)
    have n1 := q 1 (by omega)
    have ql : ∀ h, m_M_lies F a (nI 0) (nI 1) h = some (some (.int (nI 0)), h) := by
      intro h
      rcases rngQ a (lo := 0) (hi := 1) (by omega) (by omega) with ⟨m, h1, h2, rfl⟩ | c
      · exfalso
        obtain rfl | rfl : m = 0 ∨ m = 1 := by omega
        · exact absurd n0 (by simp)
        · exact absurd n1 (by simp)
      · exact lie0 c
    refine ⟨(mI 0), _, w, Mst.id (fun h M => ?_), Cst.id (fun h C => ?_)⟩
    · rw [q_M_cover, bI_of (ql h), if_pos rfl]
    · rw [q_F_cover, if_neg (by rw [n0]; exact fun z => z), if_neg (by rw [n1]; exact fun z => z)]
