/-! TOURS: THE REFERENCE -/
theorem va_uu (d : Nat → Nat) (a x y : Nat) : va_up (va_up d a x) a y = va_up d a y := funext fun i => by
  by_cases e : i = a
  · rw [e, va_e, va_e]
  · rw [va_n e, va_n e, va_n e]
/-- the least by the ways up to j -/
def tBs (nd : Nat → Nat → Nat) (sn : Nat → Nat) (pr : Nat → Nat → Nat) (d : Nat → Nat) (u c : Nat) : Nat → Nat
  | 0 => d (nd c u)
  | j + 1 => if tBs nd sn pr d u c j < tCb nd sn pr d u c (j + 1) then tBs nd sn pr d u c j else tCb nd sn pr d u c (j + 1)
theorem tBs_le {nd : Nat → Nat → Nat} {sn : Nat → Nat} {pr : Nat → Nat → Nat} {d : Nat → Nat} {u c : Nat} : ∀ j, tBs nd sn pr d u c j ≤ d (nd c u)
  | 0 => Nat.le_refl _
  | j + 1 => by
    have := tBs_le (nd := nd) (sn := sn) (pr := pr) (d := d) (u := u) (c := c) j
    unfold tBs
    split <;> omega
theorem tnd_v {nd : Nat → Nat → Nat} (h : nOk nd) {n : Nat} {sn : Nat → Nat} (k : tOk n sn) {pr : Nat → Nat → Nat} {c u : Nat} (hc : c < 25) (hu : u < 2 ^ n) (s : wSt) (sb : s.1 (nd c u) ≤ 1000000) : ∀ j, j ≤ 4 → tnd nd sn pr c u j s = if tBs nd sn pr s.1 u c j < s.1 (nd c u) then (va_up s.1 (nd c u) (tBs nd sn pr s.1 u c j), true) else s
  | 0, _ => by
    rw [if_neg (by show ¬ s.1 (nd c u) < _; omega)]; rfl
  | j + 1, hj => by
    have ih := tnd_v h k (pr := pr) hc hu s sb j (by omega)
    have bl := tBs_le (nd := nd) (sn := sn) (pr := pr) (d := s.1) (u := u) (c := c) j
    have p6 := (pw6 k.1).1
    have val : (tnd nd sn pr c u j s).1 (nd c u) = tBs nd sn pr s.1 u c j := by
      rw [ih]
      by_cases q : tBs nd sn pr s.1 u c j < s.1 (nd c u)
      · rw [if_pos q]; exact va_e
      · rw [if_neg q]; omega
    have oth : ∀ b, b ≠ nd c u → (tnd nd sn pr c u j s).1 b = s.1 b := fun b hb => by
      rw [ih]
      by_cases q : tBs nd sn pr s.1 u c j < s.1 (nd c u)
      · rw [if_pos q]; exact va_n hb
      · rw [if_neg q]
    have fl : ∀ x, va_up (tnd nd sn pr c u j s).1 (nd c u) x = va_up s.1 (nd c u) x := fun x => by
      rw [ih]
      by_cases q : tBs nd sn pr s.1 u c j < s.1 (nd c u)
      · rw [if_pos q]; exact va_uu _ _ _ _
      · rw [if_neg q]
    show tst nd sn pr c u (j + 1) (tnd nd sn pr c u j s) = _
    have keep : tst nd sn pr c u (j + 1) (tnd nd sn pr c u j s) = tnd nd sn pr c u j s → tBs nd sn pr s.1 u c (j + 1) = tBs nd sn pr s.1 u c j → tst nd sn pr c u (j + 1) (tnd nd sn pr c u j s) = if tBs nd sn pr s.1 u c (j + 1) < s.1 (nd c u) then (va_up s.1 (nd c u) (tBs nd sn pr s.1 u c (j + 1)), true) else s := fun e1 e2 => by rw [e1, e2, ih]
    have far : tCb nd sn pr s.1 u c (j + 1) = 1000000 → tBs nd sn pr s.1 u c (j + 1) = tBs nd sn pr s.1 u c j := fun e => by
      show (if _ then _ else _) = _
      rw [e]
      by_cases q : tBs nd sn pr s.1 u c j < 1000000
      · rw [if_pos q]
      · rw [if_neg q]; omega
    rcases Nat.eq_zero_or_pos (pr c (j + 1)) with p | p
    · exact keep (tst_0 p) (far (tCb_0 p))
    · cases nb : ft_nb c (j + 1) with
      | none => exact keep (tst_n nb) (far (tCb_n nb))
      | some t =>
        have ht := ft_nb_lt hc nb
        have o2 := k.or hu t
        have ne : nd t (u ||| sn t) ≠ nd c u := fun e => ft_nb_ne (y := j + 1) (by omega) nb (h.2 _ _ _ _ ht hc (by omega) (by omega) e).1
        have e1 := tst_1 (nd := nd) (sn := sn) (pr := pr) (u := u) (s := tnd nd sn pr c u j s) nb p
        have e2 := tCb_1 (nd := nd) (sn := sn) (pr := pr) (d := s.1) (u := u) nb p
        by_cases l : pr c (j + 1) + s.1 (nd t (u ||| sn t)) < tBs nd sn pr s.1 u c j
        · rw [e1, rlx_1 (by rw [val, oth _ ne]; exact l), fl, oth _ ne]
          rw [if_pos (by omega)] at e2
          have e3 : tBs nd sn pr s.1 u c (j + 1) = pr c (j + 1) + s.1 (nd t (u ||| sn t)) := by
            show (if _ then _ else _) = _
            rw [e2, if_neg (by omega)]
          rw [e3, if_pos (by omega)]
        · refine keep (by rw [e1, rlx_0 (by rw [val, oth _ ne]; exact l)]) ?_
          show (if _ then _ else _) = _
          by_cases q : pr c (j + 1) + s.1 (nd t (u ||| sn t)) < 1000000
          · rw [if_pos q] at e2
            rw [e2]
            by_cases q2 : tBs nd sn pr s.1 u c j < pr c (j + 1) + s.1 (nd t (u ||| sn t))
            · rw [if_pos q2]
            · rw [if_neg q2]; omega
          · rw [if_neg q] at e2
            rw [e2]
            by_cases q2 : tBs nd sn pr s.1 u c j < 1000000
            · rw [if_pos q2]
            · rw [if_neg q2]; omega
/-! what of a set is wanted -/
def RWn (h : jH) (at' : Nat → Nat) (n : Nat) : Prop := j_I h 85 39 = nI n ∧ ∀ i, i < n → j_I h 104 i = nI (at' i)
theorem M_wIn_4 {F : Nat × Nat} {h : jH} (S : ShM h) {at' : Nat → Nat} {n : Nat} (hn : n ≤ 6) (R : RWn h at' n) (ab : ∀ i, i < n → at' i < 25) {set : Nat} (hs : set < 33554432) : ∀ d j f, j + d = n → d < f → m_M_wantedIn_4 F f 85 (nI set) (nI (ft_bs (fun i => set.testBit (at' i)) j)) (nI j) h = some (some (.int (nI (ft_bs (fun i => set.testBit (at' i)) n))), h)
  | 0, j, f + 1, e, _ => by
    have : j = n := by omega
    subst this
    have r1 := R.1
    rw [q_M_wantedIn_4]
    simp (disch := first | exact sR_rfl _ _ rfl | omega) only [ft_lit, ft_m1, ft_m2, ft_m3, ft_m5, ft_m6, ft_cl, ft_lt, ft_le, ft_eq, ft_mlt, ft_ltm, ft_mltm, ft_meq, ft_eqm, ft_meqm, ft_add, ft_mul, ft_sub, ft_nm, ft_m1p, ft_and, ft_or, ft_31, ft_shl, ft_shr, ft_bz, ft_z0, ft_z1, ft_z01, ft_bb, ft_zt, ft_zf, ft_or0, ft_rv, ft_rvr, ft_rf, ft_rfn, ft_bI, ft_bJ, ft_bV, ft_bR, ft_bRn, ft_isr, ft_isn, ft_ifn, ft_ifr, ft_ov, ft_ovn, ft_in, k_sI, n_sI, R_sI, J_sI, c_sI, z_sI, k_sJ, n_sJ, R_sJ, I_sJ, c_sJ, z_sJ, k_sR, n_sR, I_sR, J_sR, c_sR, z_sR, k_wI, n_wI, R_wI, J_wI, I_wIe, k_wJ, n_wJ, R_wJ, I_wJ, J_wJe, I_wIn, J_wJn, I_sIe, J_sJe, R_sRe, I_sIn, I_sIk, J_sJn, J_sJk, R_sRn, R_sRk, eq_self, if_true, if_false, ↓reduceIte, cond_true, cond_false, ↓cond_eq_ite, and_true, true_and, and_false, false_and, or_true, true_or, or_false, false_or, not_true_eq_false, not_false_eq_true, ft_ltT, ft_ltF, ft_eqT, ft_eqF, Bool.false_eq_true, Bool.true_eq_false, Bool.not_true, Bool.not_false, Bool.and_true, Bool.true_and, Bool.and_false, Bool.false_and, decide_true, decide_false, Nat.reduceAdd, Nat.reduceMul, Nat.reduceSub, Nat.reduceEqDiff, Nat.reduceLT, Nat.zero_add, Nat.add_zero, Nat.reduceDiv, Nat.reduceMod, sm_k85 S, sm_R85_1 S, ↓sm_v85_1 S, sm_R85_2 S, ↓sm_v85_2 S, sm_R85_3 S, ↓sm_v85_3 S, sm_R85_4 S, ↓sm_v85_4 S, sm_R85_5 S, ↓sm_v85_5 S, sm_R85_7 S, ↓sm_v85_7 S, sm_R85_11 S, ↓sm_v85_11 S, sm_R85_12 S, ↓sm_v85_12 S, sm_R85_15 S, ↓sm_v85_15 S, sm_R85_16 S, ↓sm_v85_16 S, sm_R85_17 S, ↓sm_v85_17 S, sm_R85_26 S, ↓sm_v85_26 S, sm_R85_29 S, ↓sm_v85_29 S, sm_R85_30 S, ↓sm_v85_30 S, sm_R85_32 S, ↓sm_v85_32 S, sm_R85_33 S, ↓sm_v85_33 S, sm_R85_34 S, ↓sm_v85_34 S, sm_R85_35 S, ↓sm_v85_35 S, sm_R85_36 S, ↓sm_v85_36 S, sm_R85_37 S, ↓sm_v85_37 S, sm_R85_38 S, ↓sm_v85_38 S, sm_R85_40 S, ↓sm_v85_40 S, sm_R85_41 S, ↓sm_v85_41 S, sm_R85_48 S, ↓sm_v85_48 S, sm_R85_49 S, ↓sm_v85_49 S, sm_k86 S, sm_n86 S, sm_k87 S, sm_n87 S, sm_k88 S, sm_n88 S, sm_k89 S, sm_n89 S, sm_k90 S, sm_n90 S, sm_k91 S, sm_n91 S, sm_k92 S, sm_n92 S, sm_k93 S, sm_n93 S, sm_k94 S, sm_n94 S, sm_k95 S, sm_n95 S, sm_k96 S, sm_n96 S, sm_k97 S, sm_n97 S, sm_k98 S, sm_n98 S, sm_k99 S, sm_n99 S, sm_k100 S, sm_n100 S, sm_k101 S, sm_n101 S, sm_k102 S, sm_n102 S, sm_k103 S, sm_n103 S, sm_k104 S, sm_n104 S, sm_k105 S, sm_n105 S, sm_k106 S, sm_n106 S, sm_k107 S, sm_n107 S, sm_k108 S, sm_n108 S, sm_k109 S, sm_n109 S, sm_k110 S, sm_n110 S, r1]
  | d + 1, j, f + 1, e, hf => by
    have ih := M_wIn_4 (F := F) S hn R ab hs d (j + 1) f (by omega) (by omega)
    have r1 := R.1
    have r2 := R.2 j (by omega)
    have a1 := ab j (by omega)
    have b1 := bI_of (M_isIn (F := F) (h := h) (s := set) (c := at' j) (by omega) (by omega))
    have b2 : ft_bs (fun i => set.testBit (at' i)) j < 64 := Nat.lt_of_lt_of_le (ft_bs_lt _ _) (pw6 (n := j) (by omega)).1
    rw [ft_bs_s] at ih
    rw [← ih, q_M_wantedIn_4]
    cases sx : set.testBit (at' j) with
    | false =>
      rw [sx] at b1
      simp (disch := first | exact sR_rfl _ _ rfl | omega) only [ft_lit, ft_m1, ft_m2, ft_m3, ft_m5, ft_m6, ft_cl, ft_lt, ft_le, ft_eq, ft_mlt, ft_ltm, ft_mltm, ft_meq, ft_eqm, ft_meqm, ft_add, ft_mul, ft_sub, ft_nm, ft_m1p, ft_and, ft_or, ft_31, ft_shl, ft_shr, ft_bz, ft_z0, ft_z1, ft_z01, ft_bb, ft_zt, ft_zf, ft_or0, ft_rv, ft_rvr, ft_rf, ft_rfn, ft_bI, ft_bJ, ft_bV, ft_bR, ft_bRn, ft_isr, ft_isn, ft_ifn, ft_ifr, ft_ov, ft_ovn, ft_in, k_sI, n_sI, R_sI, J_sI, c_sI, z_sI, k_sJ, n_sJ, R_sJ, I_sJ, c_sJ, z_sJ, k_sR, n_sR, I_sR, J_sR, c_sR, z_sR, k_wI, n_wI, R_wI, J_wI, I_wIe, k_wJ, n_wJ, R_wJ, I_wJ, J_wJe, I_wIn, J_wJn, I_sIe, J_sJe, R_sRe, I_sIn, I_sIk, J_sJn, J_sJk, R_sRn, R_sRk, eq_self, if_true, if_false, ↓reduceIte, cond_true, cond_false, ↓cond_eq_ite, and_true, true_and, and_false, false_and, or_true, true_or, or_false, false_or, not_true_eq_false, not_false_eq_true, ft_ltT, ft_ltF, ft_eqT, ft_eqF, Bool.false_eq_true, Bool.true_eq_false, Bool.not_true, Bool.not_false, Bool.and_true, Bool.true_and, Bool.and_false, Bool.false_and, decide_true, decide_false, Nat.reduceAdd, Nat.reduceMul, Nat.reduceSub, Nat.reduceEqDiff, Nat.reduceLT, Nat.zero_add, Nat.add_zero, Nat.reduceDiv, Nat.reduceMod, sm_k85 S, sm_R85_1 S, ↓sm_v85_1 S, sm_R85_2 S, ↓sm_v85_2 S, sm_R85_3 S, ↓sm_v85_3 S, sm_R85_4 S, ↓sm_v85_4 S, sm_R85_5 S, ↓sm_v85_5 S, sm_R85_7 S, ↓sm_v85_7 S, sm_R85_11 S, ↓sm_v85_11 S, sm_R85_12 S, ↓sm_v85_12 S, sm_R85_15 S, ↓sm_v85_15 S, sm_R85_16 S, ↓sm_v85_16 S, sm_R85_17 S, ↓sm_v85_17 S, sm_R85_26 S, ↓sm_v85_26 S, sm_R85_29 S, ↓sm_v85_29 S, sm_R85_30 S, ↓sm_v85_30 S, sm_R85_32 S, ↓sm_v85_32 S, sm_R85_33 S, ↓sm_v85_33 S, sm_R85_34 S, ↓sm_v85_34 S, sm_R85_35 S, ↓sm_v85_35 S, sm_R85_36 S, ↓sm_v85_36 S, sm_R85_37 S, ↓sm_v85_37 S, sm_R85_38 S, ↓sm_v85_38 S, sm_R85_40 S, ↓sm_v85_40 S, sm_R85_41 S, ↓sm_v85_41 S, sm_R85_48 S, ↓sm_v85_48 S, sm_R85_49 S, ↓sm_v85_49 S, sm_k86 S, sm_n86 S, sm_k87 S, sm_n87 S, sm_k88 S, sm_n88 S, sm_k89 S, sm_n89 S, sm_k90 S, sm_n90 S, sm_k91 S, sm_n91 S, sm_k92 S, sm_n92 S, sm_k93 S, sm_n93 S, sm_k94 S, sm_n94 S, sm_k95 S, sm_n95 S, sm_k96 S, sm_n96 S, sm_k97 S, sm_n97 S, sm_k98 S, sm_n98 S, sm_k99 S, sm_n99 S, sm_k100 S, sm_n100 S, sm_k101 S, sm_n101 S, sm_k102 S, sm_n102 S, sm_k103 S, sm_n103 S, sm_k104 S, sm_n104 S, sm_k105 S, sm_n105 S, sm_k106 S, sm_n106 S, sm_k107 S, sm_n107 S, sm_k108 S, sm_n108 S, sm_k109 S, sm_n109 S, sm_k110 S, sm_n110 S, r1, r2, ↓b1, if_false, Bool.false_eq_true]
    | true =>
      rw [sx] at b1
      simp (disch := first | exact sR_rfl _ _ rfl | omega) only [ft_lit, ft_m1, ft_m2, ft_m3, ft_m5, ft_m6, ft_cl, ft_lt, ft_le, ft_eq, ft_mlt, ft_ltm, ft_mltm, ft_meq, ft_eqm, ft_meqm, ft_add, ft_mul, ft_sub, ft_nm, ft_m1p, ft_and, ft_or, ft_31, ft_shl, ft_shr, ft_bz, ft_z0, ft_z1, ft_z01, ft_bb, ft_zt, ft_zf, ft_or0, ft_rv, ft_rvr, ft_rf, ft_rfn, ft_bI, ft_bJ, ft_bV, ft_bR, ft_bRn, ft_isr, ft_isn, ft_ifn, ft_ifr, ft_ov, ft_ovn, ft_in, k_sI, n_sI, R_sI, J_sI, c_sI, z_sI, k_sJ, n_sJ, R_sJ, I_sJ, c_sJ, z_sJ, k_sR, n_sR, I_sR, J_sR, c_sR, z_sR, k_wI, n_wI, R_wI, J_wI, I_wIe, k_wJ, n_wJ, R_wJ, I_wJ, J_wJe, I_wIn, J_wJn, I_sIe, J_sJe, R_sRe, I_sIn, I_sIk, J_sJn, J_sJk, R_sRn, R_sRk, eq_self, if_true, if_false, ↓reduceIte, cond_true, cond_false, ↓cond_eq_ite, and_true, true_and, and_false, false_and, or_true, true_or, or_false, false_or, not_true_eq_false, not_false_eq_true, ft_ltT, ft_ltF, ft_eqT, ft_eqF, Bool.false_eq_true, Bool.true_eq_false, Bool.not_true, Bool.not_false, Bool.and_true, Bool.true_and, Bool.and_false, Bool.false_and, decide_true, decide_false, Nat.reduceAdd, Nat.reduceMul, Nat.reduceSub, Nat.reduceEqDiff, Nat.reduceLT, Nat.zero_add, Nat.add_zero, Nat.reduceDiv, Nat.reduceMod, sm_k85 S, sm_R85_1 S, ↓sm_v85_1 S, sm_R85_2 S, ↓sm_v85_2 S, sm_R85_3 S, ↓sm_v85_3 S, sm_R85_4 S, ↓sm_v85_4 S, sm_R85_5 S, ↓sm_v85_5 S, sm_R85_7 S, ↓sm_v85_7 S, sm_R85_11 S, ↓sm_v85_11 S, sm_R85_12 S, ↓sm_v85_12 S, sm_R85_15 S, ↓sm_v85_15 S, sm_R85_16 S, ↓sm_v85_16 S, sm_R85_17 S, ↓sm_v85_17 S, sm_R85_26 S, ↓sm_v85_26 S, sm_R85_29 S, ↓sm_v85_29 S, sm_R85_30 S, ↓sm_v85_30 S, sm_R85_32 S, ↓sm_v85_32 S, sm_R85_33 S, ↓sm_v85_33 S, sm_R85_34 S, ↓sm_v85_34 S, sm_R85_35 S, ↓sm_v85_35 S, sm_R85_36 S, ↓sm_v85_36 S, sm_R85_37 S, ↓sm_v85_37 S, sm_R85_38 S, ↓sm_v85_38 S, sm_R85_40 S, ↓sm_v85_40 S, sm_R85_41 S, ↓sm_v85_41 S, sm_R85_48 S, ↓sm_v85_48 S, sm_R85_49 S, ↓sm_v85_49 S, sm_k86 S, sm_n86 S, sm_k87 S, sm_n87 S, sm_k88 S, sm_n88 S, sm_k89 S, sm_n89 S, sm_k90 S, sm_n90 S, sm_k91 S, sm_n91 S, sm_k92 S, sm_n92 S, sm_k93 S, sm_n93 S, sm_k94 S, sm_n94 S, sm_k95 S, sm_n95 S, sm_k96 S, sm_n96 S, sm_k97 S, sm_n97 S, sm_k98 S, sm_n98 S, sm_k99 S, sm_n99 S, sm_k100 S, sm_n100 S, sm_k101 S, sm_n101 S, sm_k102 S, sm_n102 S, sm_k103 S, sm_n103 S, sm_k104 S, sm_n104 S, sm_k105 S, sm_n105 S, sm_k106 S, sm_n106 S, sm_k107 S, sm_n107 S, sm_k108 S, sm_n108 S, sm_k109 S, sm_n109 S, sm_k110 S, sm_n110 S, r1, r2, ↓b1, if_true]
theorem M_wIn {F : Nat × Nat} (hF : FF F) {h : jH} (S : ShM h) {at' : Nat → Nat} {n : Nat} (hn : n ≤ 6) (R : RWn h at' n) (ab : ∀ i, i < n → at' i < 25) {set : Nat} (hs : set < 33554432) : m_M_wantedIn F 85 (nI set) h = some (some (.int (nI (ft_bs (fun i => set.testBit (at' i)) n))), h) := by
  rw [q_M_wantedIn]
  exact M_wIn_4 S hn R ab hs n 0 F.1 (by omega) (by have := hF.1; omega)
theorem M_wIn_b {F : Nat × Nat} (hF : FF F) {h : jH} (S : ShM h) {at' : Nat → Nat} {n : Nat} (hn : n ≤ 6) (R : RWn h at' n) (ab : ∀ i, i < n → at' i < 25) {set : Nat} (hs : set < 33554432) (ff : Int32 → jH → Option jO) : jbI (m_M_wantedIn F 85 (nI set) h) ff = ff ((nI (ft_bs (fun i => set.testBit (at' i)) n))) (h) := bI_of (M_wIn (F := F) (hF := hF) (h := h) (S := S) (at' := at') (n := n) (hn := hn) (R := R) (ab := ab) (set := set) (hs := hs)) ff
/-! left by tours -/
def RQ (h : jH) (d : Nat → Nat) (N : Nat) : Prop := ∀ c u, c < 25 → u < N → j_I h 106 (nR c u) = nI (d (nR c u))
theorem RQ.up {h : jH} {d : Nat → Nat} {N : Nat} (R : RQ h d N) (a x : Nat) : RQ (j_sI h 106 a (nI x)) (va_up d a x) N := fun c u hc hu => by
  by_cases e : nR c u = a
  · rw [e, I_sIe, va_e]
  · rw [I_sIk e, va_n e]; exact R c u hc hu
theorem M_lAt {F : Nat × Nat} {h : jH} (S : ShM h) {d : Nat → Nat} {N : Nat} (hN : N ≤ 64) (R : RQ h d N) {c u : Nat} (hc : c < 25) (hu : u < N) : m_M_leftAt F 85 (nI c) (nI u) h = some (some (.int (nI (d (nR c u)))), h) := by
  have r1 := R c u hc hu
  have ei : 64 * c + u = nR c u := rfl
  have na := nR_ok.1 c u hc (by omega)
  rw [q_M_leftAt]
  simp (disch := first | exact sR_rfl _ _ rfl | omega) only [ft_lit, ft_m1, ft_m2, ft_m3, ft_m5, ft_m6, ft_cl, ft_lt, ft_le, ft_eq, ft_mlt, ft_ltm, ft_mltm, ft_meq, ft_eqm, ft_meqm, ft_add, ft_mul, ft_sub, ft_nm, ft_m1p, ft_and, ft_or, ft_31, ft_shl, ft_shr, ft_bz, ft_z0, ft_z1, ft_z01, ft_bb, ft_zt, ft_zf, ft_or0, ft_rv, ft_rvr, ft_rf, ft_rfn, ft_bI, ft_bJ, ft_bV, ft_bR, ft_bRn, ft_isr, ft_isn, ft_ifn, ft_ifr, ft_ov, ft_ovn, ft_in, k_sI, n_sI, R_sI, J_sI, c_sI, z_sI, k_sJ, n_sJ, R_sJ, I_sJ, c_sJ, z_sJ, k_sR, n_sR, I_sR, J_sR, c_sR, z_sR, k_wI, n_wI, R_wI, J_wI, I_wIe, k_wJ, n_wJ, R_wJ, I_wJ, J_wJe, I_wIn, J_wJn, I_sIe, J_sJe, R_sRe, I_sIn, I_sIk, J_sJn, J_sJk, R_sRn, R_sRk, eq_self, if_true, if_false, ↓reduceIte, cond_true, cond_false, ↓cond_eq_ite, and_true, true_and, and_false, false_and, or_true, true_or, or_false, false_or, not_true_eq_false, not_false_eq_true, ft_ltT, ft_ltF, ft_eqT, ft_eqF, Bool.false_eq_true, Bool.true_eq_false, Bool.not_true, Bool.not_false, Bool.and_true, Bool.true_and, Bool.and_false, Bool.false_and, decide_true, decide_false, Nat.reduceAdd, Nat.reduceMul, Nat.reduceSub, Nat.reduceEqDiff, Nat.reduceLT, Nat.zero_add, Nat.add_zero, Nat.reduceDiv, Nat.reduceMod, sm_k85 S, sm_R85_1 S, ↓sm_v85_1 S, sm_R85_2 S, ↓sm_v85_2 S, sm_R85_3 S, ↓sm_v85_3 S, sm_R85_4 S, ↓sm_v85_4 S, sm_R85_5 S, ↓sm_v85_5 S, sm_R85_7 S, ↓sm_v85_7 S, sm_R85_11 S, ↓sm_v85_11 S, sm_R85_12 S, ↓sm_v85_12 S, sm_R85_15 S, ↓sm_v85_15 S, sm_R85_16 S, ↓sm_v85_16 S, sm_R85_17 S, ↓sm_v85_17 S, sm_R85_26 S, ↓sm_v85_26 S, sm_R85_29 S, ↓sm_v85_29 S, sm_R85_30 S, ↓sm_v85_30 S, sm_R85_32 S, ↓sm_v85_32 S, sm_R85_33 S, ↓sm_v85_33 S, sm_R85_34 S, ↓sm_v85_34 S, sm_R85_35 S, ↓sm_v85_35 S, sm_R85_36 S, ↓sm_v85_36 S, sm_R85_37 S, ↓sm_v85_37 S, sm_R85_38 S, ↓sm_v85_38 S, sm_R85_40 S, ↓sm_v85_40 S, sm_R85_41 S, ↓sm_v85_41 S, sm_R85_48 S, ↓sm_v85_48 S, sm_R85_49 S, ↓sm_v85_49 S, sm_k86 S, sm_n86 S, sm_k87 S, sm_n87 S, sm_k88 S, sm_n88 S, sm_k89 S, sm_n89 S, sm_k90 S, sm_n90 S, sm_k91 S, sm_n91 S, sm_k92 S, sm_n92 S, sm_k93 S, sm_n93 S, sm_k94 S, sm_n94 S, sm_k95 S, sm_n95 S, sm_k96 S, sm_n96 S, sm_k97 S, sm_n97 S, sm_k98 S, sm_n98 S, sm_k99 S, sm_n99 S, sm_k100 S, sm_n100 S, sm_k101 S, sm_n101 S, sm_k102 S, sm_n102 S, sm_k103 S, sm_n103 S, sm_k104 S, sm_n104 S, sm_k105 S, sm_n105 S, sm_k106 S, sm_n106 S, sm_k107 S, sm_n107 S, sm_k108 S, sm_n108 S, sm_k109 S, sm_n109 S, sm_k110 S, sm_n110 S, ei, r1]
theorem M_lAt_b {F : Nat × Nat} {h : jH} (S : ShM h) {d : Nat → Nat} {N : Nat} (hN : N ≤ 64) (R : RQ h d N) {c u : Nat} (hc : c < 25) (hu : u < N) (ff : Int32 → jH → Option jO) : jbI (m_M_leftAt F 85 (nI c) (nI u) h) ff = ff ((nI (d (nR c u)))) (h) := bI_of (M_lAt (F := F) (h := h) (S := S) (d := d) (N := N) (hN := hN) (R := R) (c := c) (u := u) (hc := hc) (hu := hu)) ff
theorem M_less {F : Nat × Nat} {h : jH} {a b : Nat} (ha : a < 2147483648) (hb : b < 2147483648) : m_M_lesser F (nI a) (nI b) h = some (some (.int (nI (if a < b then a else b))), h) := by
  rw [q_M_lesser]
  by_cases q : a < b
  · rw [if_pos q, if_pos (by rw [ft_lt ha hb]; exact q)]
  · rw [if_neg q, if_neg (by rw [ft_lt ha hb]; exact q)]
theorem M_less_b {F : Nat × Nat} {h : jH} {a b : Nat} (ha : a < 2147483648) (hb : b < 2147483648) (ff : Int32 → jH → Option jO) : jbI (m_M_lesser F (nI a) (nI b) h) ff = ff ((nI (if a < b then a else b))) (h) := bI_of (M_less (F := F) (h := h) (a := a) (b := b) (ha := ha) (hb := hb)) ff
theorem M_lw {F : Nat × Nat} {h : jH} (S : ShM h) {pr : Nat → Nat → Nat} (P : SRn h pr 125) (pb : ∀ c y, pr c y ≤ 9) (pn : ∀ c y, ft_nb c y = none → pr c y = 0) {n : Nat} {sn : Nat → Nat} (k : tOk n sn) (Q : RS h 105 sn) {d : Nat → Nat} (R : RQ h d (2 ^ n)) (sb : ∀ a, a < 1600 → d a ≤ 1000000) {u c y : Nat} (hu : u < 2 ^ n) (hc : c < 25) (h1 : 1 ≤ y) (h2 : y ≤ 4) : m_M_leftWith F 85 (nI c) (nI u) (nI y) h = some (some (.int (nI (tCb nR sn pr d u c y))), h) := by
  have ca := bI_of (M_cellAt (F := F) (h := h) (c := c) (w := y) hc (by omega))
  have bp := pb c y
  have p0 := P c y hc h1 h2 (by omega)
  have p6 := (pw6 k.1).1
  rcases Nat.eq_zero_or_pos (pr c y) with p | p
  · rw [p, prI_0] at p0
    rw [tCb_0 p, q_M_leftWith]
    simp (disch := first | exact sR_rfl _ _ rfl | omega) only [ft_lit, ft_m1, ft_m2, ft_m3, ft_m5, ft_m6, ft_cl, ft_lt, ft_le, ft_eq, ft_mlt, ft_ltm, ft_mltm, ft_meq, ft_eqm, ft_meqm, ft_add, ft_mul, ft_sub, ft_nm, ft_m1p, ft_and, ft_or, ft_31, ft_shl, ft_shr, ft_bz, ft_z0, ft_z1, ft_z01, ft_bb, ft_zt, ft_zf, ft_or0, ft_rv, ft_rvr, ft_rf, ft_rfn, ft_bI, ft_bJ, ft_bV, ft_bR, ft_bRn, ft_isr, ft_isn, ft_ifn, ft_ifr, ft_ov, ft_ovn, ft_in, k_sI, n_sI, R_sI, J_sI, c_sI, z_sI, k_sJ, n_sJ, R_sJ, I_sJ, c_sJ, z_sJ, k_sR, n_sR, I_sR, J_sR, c_sR, z_sR, k_wI, n_wI, R_wI, J_wI, I_wIe, k_wJ, n_wJ, R_wJ, I_wJ, J_wJe, I_wIn, J_wJn, I_sIe, J_sJe, R_sRe, I_sIn, I_sIk, J_sJn, J_sJk, R_sRn, R_sRk, eq_self, if_true, if_false, ↓reduceIte, cond_true, cond_false, ↓cond_eq_ite, and_true, true_and, and_false, false_and, or_true, true_or, or_false, false_or, not_true_eq_false, not_false_eq_true, ft_ltT, ft_ltF, ft_eqT, ft_eqF, Bool.false_eq_true, Bool.true_eq_false, Bool.not_true, Bool.not_false, Bool.and_true, Bool.true_and, Bool.and_false, Bool.false_and, decide_true, decide_false, Nat.reduceAdd, Nat.reduceMul, Nat.reduceSub, Nat.reduceEqDiff, Nat.reduceLT, Nat.zero_add, Nat.add_zero, Nat.reduceDiv, Nat.reduceMod, sm_k85 S, sm_R85_1 S, ↓sm_v85_1 S, sm_R85_2 S, ↓sm_v85_2 S, sm_R85_3 S, ↓sm_v85_3 S, sm_R85_4 S, ↓sm_v85_4 S, sm_R85_5 S, ↓sm_v85_5 S, sm_R85_7 S, ↓sm_v85_7 S, sm_R85_11 S, ↓sm_v85_11 S, sm_R85_12 S, ↓sm_v85_12 S, sm_R85_15 S, ↓sm_v85_15 S, sm_R85_16 S, ↓sm_v85_16 S, sm_R85_17 S, ↓sm_v85_17 S, sm_R85_26 S, ↓sm_v85_26 S, sm_R85_29 S, ↓sm_v85_29 S, sm_R85_30 S, ↓sm_v85_30 S, sm_R85_32 S, ↓sm_v85_32 S, sm_R85_33 S, ↓sm_v85_33 S, sm_R85_34 S, ↓sm_v85_34 S, sm_R85_35 S, ↓sm_v85_35 S, sm_R85_36 S, ↓sm_v85_36 S, sm_R85_37 S, ↓sm_v85_37 S, sm_R85_38 S, ↓sm_v85_38 S, sm_R85_40 S, ↓sm_v85_40 S, sm_R85_41 S, ↓sm_v85_41 S, sm_R85_48 S, ↓sm_v85_48 S, sm_R85_49 S, ↓sm_v85_49 S, sm_k86 S, sm_n86 S, sm_k87 S, sm_n87 S, sm_k88 S, sm_n88 S, sm_k89 S, sm_n89 S, sm_k90 S, sm_n90 S, sm_k91 S, sm_n91 S, sm_k92 S, sm_n92 S, sm_k93 S, sm_n93 S, sm_k94 S, sm_n94 S, sm_k95 S, sm_n95 S, sm_k96 S, sm_n96 S, sm_k97 S, sm_n97 S, sm_k98 S, sm_n98 S, sm_k99 S, sm_n99 S, sm_k100 S, sm_n100 S, sm_k101 S, sm_n101 S, sm_k102 S, sm_n102 S, sm_k103 S, sm_n103 S, sm_k104 S, sm_n104 S, sm_k105 S, sm_n105 S, sm_k106 S, sm_n106 S, sm_k107 S, sm_n107 S, sm_k108 S, sm_n108 S, sm_k109 S, sm_n109 S, sm_k110 S, sm_n110 S, p0]
  · cases nb : ft_nb c y with
    | none => have := pn c y nb; omega
    | some t =>
      have ht := ft_nb_lt hc nb
      have eo : oI (some t) = nI t := rfl
      rw [nb, eo] at ca
      rw [prI_1 p] at p0
      have q1 := Q t ht
      have o1 := k.2 t
      have o2 := k.or hu t
      have bt := sb (nR t (u ||| sn t)) (nR_ok.1 _ _ ht (by omega))
      have b2 := bI_of (M_lAt (F := F) S (by omega) R ht o2)
      have b3 := bI_of (M_less (F := F) (h := h) (a := 1000000) (b := pr c y + d (nR t (u ||| sn t))) (by omega) (by omega))
      have e3 : (if 1000000 < pr c y + d (nR t (u ||| sn t)) then 1000000 else pr c y + d (nR t (u ||| sn t))) = tCb nR sn pr d u c y := by
        rw [tCb_1 nb p]
        by_cases q : pr c y + d (nR t (u ||| sn t)) < 1000000
        · rw [if_pos q, if_neg (by omega)]
        · rw [if_neg q]
          by_cases q2 : 1000000 < pr c y + d (nR t (u ||| sn t))
          · rw [if_pos q2]
          · rw [if_neg q2]; omega
      rw [e3] at b3
      have u64 : u < 64 := by omega
      have s64 : sn t < 64 := by omega
      rw [q_M_leftWith]
      generalize hv : u ||| sn t = v at *
      simp (disch := first | exact sR_rfl _ _ rfl | omega) only [ft_lit, ft_m1, ft_m2, ft_m3, ft_m5, ft_m6, ft_cl, ft_lt, ft_le, ft_eq, ft_mlt, ft_ltm, ft_mltm, ft_meq, ft_eqm, ft_meqm, ft_add, ft_mul, ft_sub, ft_nm, ft_m1p, ft_and, ft_or, ft_31, ft_shl, ft_shr, ft_bz, ft_z0, ft_z1, ft_z01, ft_bb, ft_zt, ft_zf, ft_or0, ft_rv, ft_rvr, ft_rf, ft_rfn, ft_bI, ft_bJ, ft_bV, ft_bR, ft_bRn, ft_isr, ft_isn, ft_ifn, ft_ifr, ft_ov, ft_ovn, ft_in, k_sI, n_sI, R_sI, J_sI, c_sI, z_sI, k_sJ, n_sJ, R_sJ, I_sJ, c_sJ, z_sJ, k_sR, n_sR, I_sR, J_sR, c_sR, z_sR, k_wI, n_wI, R_wI, J_wI, I_wIe, k_wJ, n_wJ, R_wJ, I_wJ, J_wJe, I_wIn, J_wJn, I_sIe, J_sJe, R_sRe, I_sIn, I_sIk, J_sJn, J_sJk, R_sRn, R_sRk, eq_self, if_true, if_false, ↓reduceIte, cond_true, cond_false, ↓cond_eq_ite, and_true, true_and, and_false, false_and, or_true, true_or, or_false, false_or, not_true_eq_false, not_false_eq_true, ft_ltT, ft_ltF, ft_eqT, ft_eqF, Bool.false_eq_true, Bool.true_eq_false, Bool.not_true, Bool.not_false, Bool.and_true, Bool.true_and, Bool.and_false, Bool.false_and, decide_true, decide_false, Nat.reduceAdd, Nat.reduceMul, Nat.reduceSub, Nat.reduceEqDiff, Nat.reduceLT, Nat.zero_add, Nat.add_zero, Nat.reduceDiv, Nat.reduceMod, sm_k85 S, sm_R85_1 S, ↓sm_v85_1 S, sm_R85_2 S, ↓sm_v85_2 S, sm_R85_3 S, ↓sm_v85_3 S, sm_R85_4 S, ↓sm_v85_4 S, sm_R85_5 S, ↓sm_v85_5 S, sm_R85_7 S, ↓sm_v85_7 S, sm_R85_11 S, ↓sm_v85_11 S, sm_R85_12 S, ↓sm_v85_12 S, sm_R85_15 S, ↓sm_v85_15 S, sm_R85_16 S, ↓sm_v85_16 S, sm_R85_17 S, ↓sm_v85_17 S, sm_R85_26 S, ↓sm_v85_26 S, sm_R85_29 S, ↓sm_v85_29 S, sm_R85_30 S, ↓sm_v85_30 S, sm_R85_32 S, ↓sm_v85_32 S, sm_R85_33 S, ↓sm_v85_33 S, sm_R85_34 S, ↓sm_v85_34 S, sm_R85_35 S, ↓sm_v85_35 S, sm_R85_36 S, ↓sm_v85_36 S, sm_R85_37 S, ↓sm_v85_37 S, sm_R85_38 S, ↓sm_v85_38 S, sm_R85_40 S, ↓sm_v85_40 S, sm_R85_41 S, ↓sm_v85_41 S, sm_R85_48 S, ↓sm_v85_48 S, sm_R85_49 S, ↓sm_v85_49 S, sm_k86 S, sm_n86 S, sm_k87 S, sm_n87 S, sm_k88 S, sm_n88 S, sm_k89 S, sm_n89 S, sm_k90 S, sm_n90 S, sm_k91 S, sm_n91 S, sm_k92 S, sm_n92 S, sm_k93 S, sm_n93 S, sm_k94 S, sm_n94 S, sm_k95 S, sm_n95 S, sm_k96 S, sm_n96 S, sm_k97 S, sm_n97 S, sm_k98 S, sm_n98 S, sm_k99 S, sm_n99 S, sm_k100 S, sm_n100 S, sm_k101 S, sm_n101 S, sm_k102 S, sm_n102 S, sm_k103 S, sm_n103 S, sm_k104 S, sm_n104 S, sm_k105 S, sm_n105 S, sm_k106 S, sm_n106 S, sm_k107 S, sm_n107 S, sm_k108 S, sm_n108 S, sm_k109 S, sm_n109 S, sm_k110 S, sm_n110 S, p0, ↓ca, q1, hv, ↓b2, ↓b3]
theorem M_lw_b {F : Nat × Nat} {h : jH} (S : ShM h) {pr : Nat → Nat → Nat} (P : SRn h pr 125) (pb : ∀ c y, pr c y ≤ 9) (pn : ∀ c y, ft_nb c y = none → pr c y = 0) {n : Nat} {sn : Nat → Nat} (k : tOk n sn) (Q : RS h 105 sn) {d : Nat → Nat} (R : RQ h d (2 ^ n)) (sb : ∀ a, a < 1600 → d a ≤ 1000000) {u c y : Nat} (hu : u < 2 ^ n) (hc : c < 25) (h1 : 1 ≤ y) (h2 : y ≤ 4) (ff : Int32 → jH → Option jO) : jbI (m_M_leftWith F 85 (nI c) (nI u) (nI y) h) ff = ff ((nI (tCb nR sn pr d u c y))) (h) := bI_of (M_lw (F := F) (h := h) (S := S) (pr := pr) (P := P) (pb := pb) (pn := pn) (n := n) (sn := sn) (k := k) (Q := Q) (d := d) (R := R) (sb := sb) (u := u) (c := c) (y := y) (hu := hu) (hc := hc) (h1 := h1) (h2 := h2)) ff
def d106 : Nat → Nat → Prop := fun a _ => a = 106
theorem RQ.sm {h : jH} {d : Nat → Nat} {N : Nat} (R : RQ h d N) {a : Nat} : RQ (j_sI h 106 a (nI (d a))) d N := fun c u hc hu => by
  by_cases e : nR c u = a
  · rw [e, I_sIe]
  · rw [I_sIk e]; exact R c u hc hu
theorem tCb_b31 {nd : Nat → Nat → Nat} {sn : Nat → Nat} {pr : Nat → Nat → Nat} {d : Nat → Nat} {u c y : Nat} : tCb nd sn pr d u c y < 2147483648 := by
  have := tCb_le (nd := nd) (sn := sn) (pr := pr) (d := d) (u := u) (c := c) (y := y)
  omega
theorem M_near_10 {F : Nat × Nat} {h : jH} (S : ShM h) {pr : Nat → Nat → Nat} (P : SRn h pr 125) (pb : ∀ c y, pr c y ≤ 9) (pn : ∀ c y, ft_nb c y = none → pr c y = 0) {n : Nat} {sn : Nat → Nat} (k : tOk n sn) (Q : RS h 105 sn) {d : Nat → Nat} (R : RQ h d (2 ^ n)) (sb : ∀ a, a < 1600 → d a ≤ 1000000) {u c : Nat} (hu : u < 2 ^ n) (hc : c < 25) : ∀ r y f, y + r = 4 → r < f → m_M_isNearer_10 F f 85 (nI c) (nI u) (nI (tBs nR sn pr d u c y)) (nI (y + 1)) h = some (some (.int (nI (ft_z (decide (tBs nR sn pr d u c 4 < d (nR c u)))))), j_sI h 106 (nR c u) (nI (tBs nR sn pr d u c 4)))
  | 0, y, f + 1, e, _ => by
    have : y = 4 := by omega
    subst this
    have p6 := (pw6 k.1).1
    have na := nR_ok.1 c u hc (by omega)
    have ba := sb _ na
    have bl := tBs_le (nd := nR) (sn := sn) (pr := pr) (d := d) (u := u) (c := c) 4
    have b1 := bI_of (M_lAt (F := F) S p6 R hc hu)
    have ei : 64 * c + u = nR c u := rfl
    rw [q_M_isNearer_10]
    by_cases q : tBs nR sn pr d u c 4 < d (nR c u)
    · rw [decide_eq_true q, ft_zt]
      simp (disch := first | exact sR_rfl _ _ rfl | omega) only [ft_lit, ft_m1, ft_m2, ft_m3, ft_m5, ft_m6, ft_cl, ft_lt, ft_le, ft_eq, ft_mlt, ft_ltm, ft_mltm, ft_meq, ft_eqm, ft_meqm, ft_add, ft_mul, ft_sub, ft_nm, ft_m1p, ft_and, ft_or, ft_31, ft_shl, ft_shr, ft_bz, ft_z0, ft_z1, ft_z01, ft_bb, ft_zt, ft_zf, ft_or0, ft_rv, ft_rvr, ft_rf, ft_rfn, ft_bI, ft_bJ, ft_bV, ft_bR, ft_bRn, ft_isr, ft_isn, ft_ifn, ft_ifr, ft_ov, ft_ovn, ft_in, k_sI, n_sI, R_sI, J_sI, c_sI, z_sI, k_sJ, n_sJ, R_sJ, I_sJ, c_sJ, z_sJ, k_sR, n_sR, I_sR, J_sR, c_sR, z_sR, k_wI, n_wI, R_wI, J_wI, I_wIe, k_wJ, n_wJ, R_wJ, I_wJ, J_wJe, I_wIn, J_wJn, I_sIe, J_sJe, R_sRe, I_sIn, I_sIk, J_sJn, J_sJk, R_sRn, R_sRk, eq_self, if_true, if_false, ↓reduceIte, cond_true, cond_false, ↓cond_eq_ite, and_true, true_and, and_false, false_and, or_true, true_or, or_false, false_or, not_true_eq_false, not_false_eq_true, ft_ltT, ft_ltF, ft_eqT, ft_eqF, Bool.false_eq_true, Bool.true_eq_false, Bool.not_true, Bool.not_false, Bool.and_true, Bool.true_and, Bool.and_false, Bool.false_and, decide_true, decide_false, Nat.reduceAdd, Nat.reduceMul, Nat.reduceSub, Nat.reduceEqDiff, Nat.reduceLT, Nat.zero_add, Nat.add_zero, Nat.reduceDiv, Nat.reduceMod, sm_k85 S, sm_R85_1 S, ↓sm_v85_1 S, sm_R85_2 S, ↓sm_v85_2 S, sm_R85_3 S, ↓sm_v85_3 S, sm_R85_4 S, ↓sm_v85_4 S, sm_R85_5 S, ↓sm_v85_5 S, sm_R85_7 S, ↓sm_v85_7 S, sm_R85_11 S, ↓sm_v85_11 S, sm_R85_12 S, ↓sm_v85_12 S, sm_R85_15 S, ↓sm_v85_15 S, sm_R85_16 S, ↓sm_v85_16 S, sm_R85_17 S, ↓sm_v85_17 S, sm_R85_26 S, ↓sm_v85_26 S, sm_R85_29 S, ↓sm_v85_29 S, sm_R85_30 S, ↓sm_v85_30 S, sm_R85_32 S, ↓sm_v85_32 S, sm_R85_33 S, ↓sm_v85_33 S, sm_R85_34 S, ↓sm_v85_34 S, sm_R85_35 S, ↓sm_v85_35 S, sm_R85_36 S, ↓sm_v85_36 S, sm_R85_37 S, ↓sm_v85_37 S, sm_R85_38 S, ↓sm_v85_38 S, sm_R85_40 S, ↓sm_v85_40 S, sm_R85_41 S, ↓sm_v85_41 S, sm_R85_48 S, ↓sm_v85_48 S, sm_R85_49 S, ↓sm_v85_49 S, sm_k86 S, sm_n86 S, sm_k87 S, sm_n87 S, sm_k88 S, sm_n88 S, sm_k89 S, sm_n89 S, sm_k90 S, sm_n90 S, sm_k91 S, sm_n91 S, sm_k92 S, sm_n92 S, sm_k93 S, sm_n93 S, sm_k94 S, sm_n94 S, sm_k95 S, sm_n95 S, sm_k96 S, sm_n96 S, sm_k97 S, sm_n97 S, sm_k98 S, sm_n98 S, sm_k99 S, sm_n99 S, sm_k100 S, sm_n100 S, sm_k101 S, sm_n101 S, sm_k102 S, sm_n102 S, sm_k103 S, sm_n103 S, sm_k104 S, sm_n104 S, sm_k105 S, sm_n105 S, sm_k106 S, sm_n106 S, sm_k107 S, sm_n107 S, sm_k108 S, sm_n108 S, sm_k109 S, sm_n109 S, sm_k110 S, sm_n110 S, ↓b1, ei]
    · rw [decide_eq_false q, ft_zf]
      simp (disch := first | exact sR_rfl _ _ rfl | omega) only [ft_lit, ft_m1, ft_m2, ft_m3, ft_m5, ft_m6, ft_cl, ft_lt, ft_le, ft_eq, ft_mlt, ft_ltm, ft_mltm, ft_meq, ft_eqm, ft_meqm, ft_add, ft_mul, ft_sub, ft_nm, ft_m1p, ft_and, ft_or, ft_31, ft_shl, ft_shr, ft_bz, ft_z0, ft_z1, ft_z01, ft_bb, ft_zt, ft_zf, ft_or0, ft_rv, ft_rvr, ft_rf, ft_rfn, ft_bI, ft_bJ, ft_bV, ft_bR, ft_bRn, ft_isr, ft_isn, ft_ifn, ft_ifr, ft_ov, ft_ovn, ft_in, k_sI, n_sI, R_sI, J_sI, c_sI, z_sI, k_sJ, n_sJ, R_sJ, I_sJ, c_sJ, z_sJ, k_sR, n_sR, I_sR, J_sR, c_sR, z_sR, k_wI, n_wI, R_wI, J_wI, I_wIe, k_wJ, n_wJ, R_wJ, I_wJ, J_wJe, I_wIn, J_wJn, I_sIe, J_sJe, R_sRe, I_sIn, I_sIk, J_sJn, J_sJk, R_sRn, R_sRk, eq_self, if_true, if_false, ↓reduceIte, cond_true, cond_false, ↓cond_eq_ite, and_true, true_and, and_false, false_and, or_true, true_or, or_false, false_or, not_true_eq_false, not_false_eq_true, ft_ltT, ft_ltF, ft_eqT, ft_eqF, Bool.false_eq_true, Bool.true_eq_false, Bool.not_true, Bool.not_false, Bool.and_true, Bool.true_and, Bool.and_false, Bool.false_and, decide_true, decide_false, Nat.reduceAdd, Nat.reduceMul, Nat.reduceSub, Nat.reduceEqDiff, Nat.reduceLT, Nat.zero_add, Nat.add_zero, Nat.reduceDiv, Nat.reduceMod, sm_k85 S, sm_R85_1 S, ↓sm_v85_1 S, sm_R85_2 S, ↓sm_v85_2 S, sm_R85_3 S, ↓sm_v85_3 S, sm_R85_4 S, ↓sm_v85_4 S, sm_R85_5 S, ↓sm_v85_5 S, sm_R85_7 S, ↓sm_v85_7 S, sm_R85_11 S, ↓sm_v85_11 S, sm_R85_12 S, ↓sm_v85_12 S, sm_R85_15 S, ↓sm_v85_15 S, sm_R85_16 S, ↓sm_v85_16 S, sm_R85_17 S, ↓sm_v85_17 S, sm_R85_26 S, ↓sm_v85_26 S, sm_R85_29 S, ↓sm_v85_29 S, sm_R85_30 S, ↓sm_v85_30 S, sm_R85_32 S, ↓sm_v85_32 S, sm_R85_33 S, ↓sm_v85_33 S, sm_R85_34 S, ↓sm_v85_34 S, sm_R85_35 S, ↓sm_v85_35 S, sm_R85_36 S, ↓sm_v85_36 S, sm_R85_37 S, ↓sm_v85_37 S, sm_R85_38 S, ↓sm_v85_38 S, sm_R85_40 S, ↓sm_v85_40 S, sm_R85_41 S, ↓sm_v85_41 S, sm_R85_48 S, ↓sm_v85_48 S, sm_R85_49 S, ↓sm_v85_49 S, sm_k86 S, sm_n86 S, sm_k87 S, sm_n87 S, sm_k88 S, sm_n88 S, sm_k89 S, sm_n89 S, sm_k90 S, sm_n90 S, sm_k91 S, sm_n91 S, sm_k92 S, sm_n92 S, sm_k93 S, sm_n93 S, sm_k94 S, sm_n94 S, sm_k95 S, sm_n95 S, sm_k96 S, sm_n96 S, sm_k97 S, sm_n97 S, sm_k98 S, sm_n98 S, sm_k99 S, sm_n99 S, sm_k100 S, sm_n100 S, sm_k101 S, sm_n101 S, sm_k102 S, sm_n102 S, sm_k103 S, sm_n103 S, sm_k104 S, sm_n104 S, sm_k105 S, sm_n105 S, sm_k106 S, sm_n106 S, sm_k107 S, sm_n107 S, sm_k108 S, sm_n108 S, sm_k109 S, sm_n109 S, sm_k110 S, sm_n110 S, ↓b1, ei]
  | r + 1, y, f + 1, e, hf => by
    have ih := M_near_10 (F := F) S P pb pn k Q R sb hu hc r (y + 1) f (by omega) (by omega)
    have p6 := (pw6 k.1).1
    have na := nR_ok.1 c u hc (by omega)
    have ba := sb _ na
    have bl := tBs_le (nd := nR) (sn := sn) (pr := pr) (d := d) (u := u) (c := c) y
    have b1 := bI_of (M_lw (F := F) S P pb pn k Q R sb hu hc (y := y + 1) (by omega) (by omega))
    have b2 := bI_of (M_less (F := F) (h := h) (a := tBs nR sn pr d u c y) (b := tCb nR sn pr d u c (y + 1)) (by omega) tCb_b31)
    have e2 : (if tBs nR sn pr d u c y < tCb nR sn pr d u c (y + 1) then tBs nR sn pr d u c y else tCb nR sn pr d u c (y + 1)) = tBs nR sn pr d u c (y + 1) := rfl
    rw [e2] at b2
    rw [← ih, q_M_isNearer_10]
    simp (disch := first | exact sR_rfl _ _ rfl | omega) only [ft_lit, ft_m1, ft_m2, ft_m3, ft_m5, ft_m6, ft_cl, ft_lt, ft_le, ft_eq, ft_mlt, ft_ltm, ft_mltm, ft_meq, ft_eqm, ft_meqm, ft_add, ft_mul, ft_sub, ft_nm, ft_m1p, ft_and, ft_or, ft_31, ft_shl, ft_shr, ft_bz, ft_z0, ft_z1, ft_z01, ft_bb, ft_zt, ft_zf, ft_or0, ft_rv, ft_rvr, ft_rf, ft_rfn, ft_bI, ft_bJ, ft_bV, ft_bR, ft_bRn, ft_isr, ft_isn, ft_ifn, ft_ifr, ft_ov, ft_ovn, ft_in, k_sI, n_sI, R_sI, J_sI, c_sI, z_sI, k_sJ, n_sJ, R_sJ, I_sJ, c_sJ, z_sJ, k_sR, n_sR, I_sR, J_sR, c_sR, z_sR, k_wI, n_wI, R_wI, J_wI, I_wIe, k_wJ, n_wJ, R_wJ, I_wJ, J_wJe, I_wIn, J_wJn, I_sIe, J_sJe, R_sRe, I_sIn, I_sIk, J_sJn, J_sJk, R_sRn, R_sRk, eq_self, if_true, if_false, ↓reduceIte, cond_true, cond_false, ↓cond_eq_ite, and_true, true_and, and_false, false_and, or_true, true_or, or_false, false_or, not_true_eq_false, not_false_eq_true, ft_ltT, ft_ltF, ft_eqT, ft_eqF, Bool.false_eq_true, Bool.true_eq_false, Bool.not_true, Bool.not_false, Bool.and_true, Bool.true_and, Bool.and_false, Bool.false_and, decide_true, decide_false, Nat.reduceAdd, Nat.reduceMul, Nat.reduceSub, Nat.reduceEqDiff, Nat.reduceLT, Nat.zero_add, Nat.add_zero, Nat.reduceDiv, Nat.reduceMod, sm_k85 S, sm_R85_1 S, ↓sm_v85_1 S, sm_R85_2 S, ↓sm_v85_2 S, sm_R85_3 S, ↓sm_v85_3 S, sm_R85_4 S, ↓sm_v85_4 S, sm_R85_5 S, ↓sm_v85_5 S, sm_R85_7 S, ↓sm_v85_7 S, sm_R85_11 S, ↓sm_v85_11 S, sm_R85_12 S, ↓sm_v85_12 S, sm_R85_15 S, ↓sm_v85_15 S, sm_R85_16 S, ↓sm_v85_16 S, sm_R85_17 S, ↓sm_v85_17 S, sm_R85_26 S, ↓sm_v85_26 S, sm_R85_29 S, ↓sm_v85_29 S, sm_R85_30 S, ↓sm_v85_30 S, sm_R85_32 S, ↓sm_v85_32 S, sm_R85_33 S, ↓sm_v85_33 S, sm_R85_34 S, ↓sm_v85_34 S, sm_R85_35 S, ↓sm_v85_35 S, sm_R85_36 S, ↓sm_v85_36 S, sm_R85_37 S, ↓sm_v85_37 S, sm_R85_38 S, ↓sm_v85_38 S, sm_R85_40 S, ↓sm_v85_40 S, sm_R85_41 S, ↓sm_v85_41 S, sm_R85_48 S, ↓sm_v85_48 S, sm_R85_49 S, ↓sm_v85_49 S, sm_k86 S, sm_n86 S, sm_k87 S, sm_n87 S, sm_k88 S, sm_n88 S, sm_k89 S, sm_n89 S, sm_k90 S, sm_n90 S, sm_k91 S, sm_n91 S, sm_k92 S, sm_n92 S, sm_k93 S, sm_n93 S, sm_k94 S, sm_n94 S, sm_k95 S, sm_n95 S, sm_k96 S, sm_n96 S, sm_k97 S, sm_n97 S, sm_k98 S, sm_n98 S, sm_k99 S, sm_n99 S, sm_k100 S, sm_n100 S, sm_k101 S, sm_n101 S, sm_k102 S, sm_n102 S, sm_k103 S, sm_n103 S, sm_k104 S, sm_n104 S, sm_k105 S, sm_n105 S, sm_k106 S, sm_n106 S, sm_k107 S, sm_n107 S, sm_k108 S, sm_n108 S, sm_k109 S, sm_n109 S, sm_k110 S, sm_n110 S, ↓b1, ↓b2]
/-- one node -/
theorem M_near {F : Nat × Nat} (hF : FF F) {h : jH} (S : ShM h) {pr : Nat → Nat → Nat} (P : SRn h pr 125) (pb : ∀ c y, pr c y ≤ 9) (pn : ∀ c y, ft_nb c y = none → pr c y = 0) {n : Nat} {sn : Nat → Nat} (k : tOk n sn) (Q : RS h 105 sn) {s : wSt} (R : RQ h s.1 (2 ^ n)) (sb : ∀ a, a < 1600 → s.1 a ≤ 1000000) {u c : Nat} (hu : u < 2 ^ n) (hc : c < 25) : ∃ h' b, m_M_isNearer F 85 (nI c) (nI u) h = some (some (.int (nI (ft_z b))), h') ∧ jX d106 jN h h' ∧ RQ h' (tnd nR sn pr c u 4 s).1 (2 ^ n) ∧ (tnd nR sn pr c u 4 s).2 = (s.2 || b) := by
  have p6 := (pw6 k.1).1
  have na := nR_ok.1 c u hc (by omega)
  have e0 := M_near_10 (F := F) S P pb pn k Q R sb hu hc 4 0 F.1 rfl (by have := hF.1; omega)
  have tv := tnd_v nR_ok k (pr := pr) hc hu s (sb _ na) 4 (Nat.le_refl _)
  have bl := tBs_le (nd := nR) (sn := sn) (pr := pr) (d := s.1) (u := u) (c := c) 4
  refine ⟨j_sI h 106 (nR c u) (nI (tBs nR sn pr s.1 u c 4)), decide (tBs nR sn pr s.1 u c 4 < s.1 (nR c u)), ?_, jX.rf.sI rfl, ?_, ?_⟩
  · rw [q_M_isNearer, if_pos (sm_k85 S), bI_of (M_lAt (F := F) S p6 R hc hu)]
    exact e0
  · rw [tv]
    by_cases q : tBs nR sn pr s.1 u c 4 < s.1 (nR c u)
    · rw [if_pos q]; exact R.up _ _
    · rw [if_neg q, show tBs nR sn pr s.1 u c 4 = s.1 (nR c u) from by omega]; exact R.sm
  · rw [tv]
    by_cases q : tBs nR sn pr s.1 u c 4 < s.1 (nR c u)
    · rw [if_pos q, decide_eq_true q, Bool.or_true]
    · rw [if_neg q, decide_eq_false q, Bool.or_false]
theorem RQ.fr {D : Nat → Nat → Prop} {h h' : jH} {d : Nat → Nat} {N : Nat} (R : RQ h d N) (x : jX D jN h h') (q : ∀ i, ¬ D 106 i) : RQ h' d N := fun c u hc hu => by rw [x.I (q _)]; exact R c u hc hu
theorem M_tr_166 {F : Nat × Nat} (hF : FF F) {pr : Nat → Nat → Nat} (pb : ∀ c y, pr c y ≤ 9) (pn : ∀ c y, ft_nb c y = none → pr c y = 0) {n : Nat} {sn : Nat → Nat} (k : tOk n sn) {c : Nat} (hc : c < 25) {s : wSt} (sb : ∀ a, a < 1600 → s.1 a ≤ 1000000) (k147 : Nat → Int32 → Int32 → jH → Option jO) (k156 : Nat → Int32 → Int32 → Int32 → jH → Option jO) : ∀ r u f h, u + r = 2 ^ n - 1 → r < f → ShM h → SRn h pr 125 → RS h 105 sn → RQ h (trf nR sn pr c u s).1 (2 ^ n) → ∃ h', m_M_laysTours_166 F k147 k156 f 85 (nI (2 ^ n - 1)) (nI (ft_z (trf nR sn pr c u s).2)) (nI c) (nI u) h = k156 85 (nI (2 ^ n - 1)) (nI (ft_z (trf nR sn pr c (2 ^ n - 1) s).2)) (nI (c + 1)) h' ∧ jX d106 jN h h' ∧ RQ h' (trf nR sn pr c (2 ^ n - 1) s).1 (2 ^ n)
  | 0, u, f, h, e, hf, S, P, Q, R => by
    obtain ⟨g, rfl⟩ : ∃ g, f = g + 1 := ⟨f - 1, by omega⟩
    have : u = 2 ^ n - 1 := by omega
    subst this
    have p6 := pw6 k.1
    refine ⟨h, ?_, jX.rf, R⟩
    rw [q_M_laysTours_166, if_neg (by rw [ft_lt (by omega) (by omega)]; omega), show nI c + nI 1 = nI (c + 1) from by simp (disch := first | exact sR_rfl _ _ rfl | omega) only [ft_lit, ft_m1, ft_m2, ft_m3, ft_m5, ft_m6, ft_cl, ft_lt, ft_le, ft_eq, ft_mlt, ft_ltm, ft_mltm, ft_meq, ft_eqm, ft_meqm, ft_add, ft_mul, ft_sub, ft_nm, ft_m1p, ft_and, ft_or, ft_31, ft_shl, ft_shr, ft_bz, ft_z0, ft_z1, ft_z01, ft_bb, ft_zt, ft_zf, ft_or0, ft_rv, ft_rvr, ft_rf, ft_rfn, ft_bI, ft_bJ, ft_bV, ft_bR, ft_bRn, ft_isr, ft_isn, ft_ifn, ft_ifr, ft_ov, ft_ovn, ft_in, k_sI, n_sI, R_sI, J_sI, c_sI, z_sI, k_sJ, n_sJ, R_sJ, I_sJ, c_sJ, z_sJ, k_sR, n_sR, I_sR, J_sR, c_sR, z_sR, k_wI, n_wI, R_wI, J_wI, I_wIe, k_wJ, n_wJ, R_wJ, I_wJ, J_wJe, I_wIn, J_wJn, I_sIe, J_sJe, R_sRe, I_sIn, I_sIk, J_sJn, J_sJk, R_sRn, R_sRk, eq_self, if_true, if_false, ↓reduceIte, cond_true, cond_false, ↓cond_eq_ite, and_true, true_and, and_false, false_and, or_true, true_or, or_false, false_or, not_true_eq_false, not_false_eq_true, ft_ltT, ft_ltF, ft_eqT, ft_eqF, Bool.false_eq_true, Bool.true_eq_false, Bool.not_true, Bool.not_false, Bool.and_true, Bool.true_and, Bool.and_false, Bool.false_and, decide_true, decide_false, Nat.reduceAdd, Nat.reduceMul, Nat.reduceSub, Nat.reduceEqDiff, Nat.reduceLT, Nat.zero_add, Nat.add_zero, Nat.reduceDiv, Nat.reduceMod]]
  | r + 1, u, f, h, e, hf, S, P, Q, R => by
    obtain ⟨g, rfl⟩ : ∃ g, f = g + 1 := ⟨f - 1, by omega⟩
    have p6 := pw6 k.1
    have q := trf_Q nR_ok k (pr := pr) (z := fun _ => True) hc u (by omega) s
    obtain ⟨h1, b, e1, x1, R1, fl⟩ := M_near (F := F) hF S P pb pn k Q R (fun a ha => Nat.le_trans (q.1 a) (sb a ha)) (u := u) (by omega) hc
    obtain ⟨h', e', x', R'⟩ := M_tr_166 hF pb pn k hc sb k147 k156 r (u + 1) g h1 (by omega) (by omega) (S.fr x1 (fun _ _ z => z)) (P.fr x1 (fun i z => by unfold d106 at z; omega)) (Q.fr x1 (fun i z => by unfold d106 at z; omega)) R1
    refine ⟨h', ?_, (x1.tr x').up (fun a i d => d.elim id id) (fun a i d => d.elim id id), R'⟩
    have fl' : (trf nR sn pr c (u + 1) s).2 = ((trf nR sn pr c u s).2 || b) := fl
    rw [← e', fl', q_M_laysTours_166, if_pos (by rw [ft_lt (by omega) (by omega)]; omega), if_pos (sm_k85 S), bI_of e1, show nI u + nI 1 = nI (u + 1) from by simp (disch := first | exact sR_rfl _ _ rfl | omega) only [ft_lit, ft_m1, ft_m2, ft_m3, ft_m5, ft_m6, ft_cl, ft_lt, ft_le, ft_eq, ft_mlt, ft_ltm, ft_mltm, ft_meq, ft_eqm, ft_meqm, ft_add, ft_mul, ft_sub, ft_nm, ft_m1p, ft_and, ft_or, ft_31, ft_shl, ft_shr, ft_bz, ft_z0, ft_z1, ft_z01, ft_bb, ft_zt, ft_zf, ft_or0, ft_rv, ft_rvr, ft_rf, ft_rfn, ft_bI, ft_bJ, ft_bV, ft_bR, ft_bRn, ft_isr, ft_isn, ft_ifn, ft_ifr, ft_ov, ft_ovn, ft_in, k_sI, n_sI, R_sI, J_sI, c_sI, z_sI, k_sJ, n_sJ, R_sJ, I_sJ, c_sJ, z_sJ, k_sR, n_sR, I_sR, J_sR, c_sR, z_sR, k_wI, n_wI, R_wI, J_wI, I_wIe, k_wJ, n_wJ, R_wJ, I_wJ, J_wJe, I_wIn, J_wJn, I_sIe, J_sJe, R_sRe, I_sIn, I_sIk, J_sJn, J_sJk, R_sRn, R_sRk, eq_self, if_true, if_false, ↓reduceIte, cond_true, cond_false, ↓cond_eq_ite, and_true, true_and, and_false, false_and, or_true, true_or, or_false, false_or, not_true_eq_false, not_false_eq_true, ft_ltT, ft_ltF, ft_eqT, ft_eqF, Bool.false_eq_true, Bool.true_eq_false, Bool.not_true, Bool.not_false, Bool.and_true, Bool.true_and, Bool.and_false, Bool.false_and, decide_true, decide_false, Nat.reduceAdd, Nat.reduceMul, Nat.reduceSub, Nat.reduceEqDiff, Nat.reduceLT, Nat.zero_add, Nat.add_zero, Nat.reduceDiv, Nat.reduceMod]]
    generalize (trf nR sn pr c u s).2 = ch
    cases b with
    | false =>
      rw [if_pos (show nI (ft_z false) = nI 0 from rfl)]
      cases ch with
      | false => rw [if_pos (show nI (ft_z false) = nI 0 from rfl)]; rfl
      | true => rw [if_neg (show ¬ nI (ft_z true) = nI 0 by decide)]; rfl
    | true =>
      rw [if_neg (show ¬ nI (ft_z true) = nI 0 by decide)]
      cases ch <;> rfl
theorem M_tr_156 {F : Nat × Nat} (hF : FF F) {pr : Nat → Nat → Nat} (pb : ∀ c y, pr c y ≤ 9) (pn : ∀ c y, ft_nb c y = none → pr c y = 0) {n : Nat} {sn : Nat → Nat} (k : tOk n sn) {s : wSt} (sb : ∀ a, a < 1600 → s.1 a ≤ 1000000) (k147 : Nat → Int32 → Int32 → jH → Option jO) : ∀ r c f h, c + r = 25 → r < f → ShM h → SRn h pr 125 → RS h 105 sn → RQ h (tro nR sn pr (2 ^ n - 1) c s).1 (2 ^ n) → ∃ h', m_M_laysTours_156 F k147 f 85 (nI (2 ^ n - 1)) (nI (ft_z (tro nR sn pr (2 ^ n - 1) c s).2)) (nI c) h = k147 85 (nI (2 ^ n - 1)) (nI (ft_z (tro nR sn pr (2 ^ n - 1) 25 s).2)) h' ∧ jX d106 jN h h' ∧ RQ h' (tro nR sn pr (2 ^ n - 1) 25 s).1 (2 ^ n)
  | 0, c, f, h, e, hf, S, P, Q, R => by
    obtain ⟨g, rfl⟩ : ∃ g, f = g + 1 := ⟨f - 1, by omega⟩
    have : c = 25 := by omega
    subst this
    refine ⟨h, ?_, jX.rf, R⟩
    rw [q_M_laysTours_156, if_neg (by decide)]
  | r + 1, c, f, h, e, hf, S, P, Q, R => by
    obtain ⟨g, rfl⟩ : ∃ g, f = g + 1 := ⟨f - 1, by omega⟩
    have p6 := pw6 k.1
    have q := tro_Q nR_ok k (pr := pr) (z := fun _ => True) (m := 2 ^ n - 1) (by omega) c (by omega) s
    obtain ⟨h1, e1, x1, R1⟩ := M_tr_166 (F := F) hF pb pn k (c := c) (by omega) (s := tro nR sn pr (2 ^ n - 1) c s) (fun a ha => Nat.le_trans (q.1 a) (sb a ha)) k147 (m_M_laysTours_156 F k147 g) (2 ^ n - 1) 0 F.1 h (by omega) (by have := hF.1; omega) S P Q R
    obtain ⟨h', e', x', R'⟩ := M_tr_156 hF pb pn k sb k147 r (c + 1) g h1 (by omega) (by omega) (S.fr x1 (fun _ _ z => z)) (P.fr x1 (fun i z => by unfold d106 at z; omega)) (Q.fr x1 (fun i z => by unfold d106 at z; omega)) R1
    refine ⟨h', ?_, (x1.tr x').up (fun a i d => d.elim id id) (fun a i d => d.elim id id), R'⟩
    rw [q_M_laysTours_156, if_pos (by rw [ft_lt (by omega) (by omega)]; omega)]
    exact e1.trans e'
theorem M_tr_147 {F : Nat × Nat} (hF : FF F) {pr : Nat → Nat → Nat} (pb : ∀ c y, pr c y ≤ 9) (pn : ∀ c y, ft_nb c y = none → pr c y = 0) {n : Nat} {sn : Nat → Nat} (k : tOk n sn) {D : Nat → Nat} (hD : tD nR n sn pr D) : ∀ r f h d ch, r + 1 < f → ShM h → SRn h pr 125 → RS h 105 sn → RQ h d (2 ^ n) → wIn 1600 (tZ nR (2 ^ n)) (tEg nR (2 ^ n) sn pr) d → wUn d D (fun a => a) 1600 ≤ r → (ch = false → ∀ a, a < 1600 → d a = D a) → ∃ h', m_M_laysTours_147 F f 85 (nI (2 ^ n - 1)) (nI (ft_z ch)) h = some (none, h') ∧ jX d106 jN h h' ∧ RQ h' D (2 ^ n) := by
  have p6 := pw6 k.1
  have fin : ∀ {h : jH} {d : Nat → Nat}, RQ h d (2 ^ n) → (∀ a, a < 1600 → d a = D a) → RQ h D (2 ^ n) := fun R e c u hc hu => by rw [R c u hc hu, e _ (nR_ok.1 c u hc (by omega))]
  intro r
  induction r with
  | zero =>
    intro f h d ch hf S P Q R i u z
    obtain ⟨g1, rfl⟩ : ∃ g, f = g + 1 := ⟨f - 1, by omega⟩
    cases ch with
    | false =>
      refine ⟨h, ?_, jX.rf, fin R (z rfl)⟩
      rw [q_M_laysTours_147]
      exact if_pos rfl
    | true =>
      obtain ⟨g2, rfl⟩ : ∃ g, g1 = g + 1 := ⟨g1 - 1, by omega⟩
      obtain ⟨i', u', z', n'⟩ := tro_1 nR_ok k hD i
      have n2 := n' (Nat.le_zero.mp u)
      obtain ⟨h1, e1, x1, R1⟩ := M_tr_156 hF pb pn k (s := (d, false)) i.1 (m_M_laysTours_147 F (g2 + 1)) 25 0 F.1 h rfl (by have := hF.1; omega) S P Q R
      refine ⟨h1, ?_, x1, fin R1 (z' n2)⟩
      rw [q_M_laysTours_147, if_neg (by decide)]
      refine e1.trans ?_
      rw [n2, q_M_laysTours_147]
      exact if_pos rfl
  | succ r ih =>
    intro f h d ch hf S P Q R i u z
    obtain ⟨g1, rfl⟩ : ∃ g, f = g + 1 := ⟨f - 1, by omega⟩
    cases ch with
    | false =>
      refine ⟨h, ?_, jX.rf, fin R (z rfl)⟩
      rw [q_M_laysTours_147]
      exact if_pos rfl
    | true =>
      obtain ⟨i', u', z', _⟩ := tro_1 nR_ok k hD i
      obtain ⟨h1, e1, x1, R1⟩ := M_tr_156 hF pb pn k (s := (d, false)) i.1 (m_M_laysTours_147 F g1) 25 0 F.1 h rfl (by have := hF.1; omega) S P Q R
      obtain ⟨h', e', x', R'⟩ := ih g1 h1 (tro nR sn pr (2 ^ n - 1) 25 (d, false)).1 (tro nR sn pr (2 ^ n - 1) 25 (d, false)).2 (by omega) (S.fr x1 (fun _ _ z => z)) (P.fr x1 (fun i z => by unfold d106 at z; omega)) (Q.fr x1 (fun i z => by unfold d106 at z; omega)) R1 i' (by omega) z'
      refine ⟨h', ?_, (x1.tr x').up (fun a i d => d.elim id id) (fun a i d => d.elim id id), R'⟩
      rw [q_M_laysTours_147, if_neg (by decide)]
      exact e1.trans e'
