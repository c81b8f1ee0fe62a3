/-! CALL: look -/
def mxN (a b : Nat) : Nat := if a < b then b else a
def mlS (k : Nat → Nat) (yd : Nat → Bool) (y : Nat) : Nat → (Nat → Nat) × Nat
  | 0 => (fun _ => 0, 0)
  | n + 1 => if yd n then (va_up (mlS k yd y n).1 (gl k n y) ((mlS k yd y n).1 (gl k n y) + 1), mxN (mlS k yd y n).2 ((mlS k yd y n).1 (gl k n y) + 1)) else mlS k yd y n
theorem mlS_b {k : Nat → Nat} {yd : Nat → Bool} {y : Nat} : ∀ n, (∀ i, (mlS k yd y n).1 i ≤ n) ∧ (mlS k yd y n).2 ≤ n
  | 0 => ⟨fun _ => Nat.le_refl _, Nat.le_refl _⟩
  | n + 1 => by
    obtain ⟨h1, h2⟩ := mlS_b (k := k) (yd := yd) (y := y) n
    have h3 := h1 (gl k n y)
    unfold mlS
    split
    · refine ⟨fun i => ?_, ?_⟩
      · show va_up _ _ _ i ≤ n + 1
        by_cases e : i = gl k n y
        · rw [e, va_e]; omega
        · rw [va_n e]; have := h1 i; omega
      · show mxN _ _ ≤ n + 1
        unfold mxN
        split <;> omega
    · exact ⟨fun i => by have := h1 i; omega, by omega⟩
def d107 : Nat → Nat → Prop := fun a _ => a = 107
def d83 : Nat → Nat → Prop := fun a _ => a = 83
theorem M_greater {F : Nat × Nat} {h : jH} {a b : Nat} (ha : a < 2147483648) (hb : b < 2147483648) : m_M_greater F (nI a) (nI b) h = some (some (.int (nI (mxN a b))), h) := by
  rw [q_M_greater]
  unfold mxN
  by_cases q : b < a
  · rw [if_pos (by rw [ft_lt hb ha]; exact q), if_neg (by omega)]
  · rw [if_neg (by rw [ft_lt hb ha]; exact q)]
    by_cases q2 : a < b
    · rw [if_pos q2]
    · rw [if_neg q2]
      have : a = b := by omega
      rw [this]
theorem M_greater_b {F : Nat × Nat} {h : jH} {a b : Nat} (ha : a < 2147483648) (hb : b < 2147483648) (ff : Int32 → jH → Option jO) : jbI (m_M_greater F (nI a) (nI b) h) ff = ff ((nI (mxN a b))) (h) := bI_of (M_greater (F := F) (h := h) (a := a) (b := b) (ha := ha) (hb := hb)) ff
theorem C_jmax {F : Nat × Nat} {h : jH} {a b : Nat} (ha : a < 2147483648) (hb : b < 2147483648) : m_Jm_max F (nI a) (nI b) h = some (some (.int (nI (mxN a b))), h) := by
  rw [q_Jm_max]
  unfold mxN
  by_cases q : a < b
  · rw [if_pos (by rw [ft_lt ha hb]; exact q), if_pos q]
  · rw [if_neg (by rw [ft_lt ha hb]; exact q), if_neg q]
theorem C_jmax_b {F : Nat × Nat} {h : jH} {a b : Nat} (ha : a < 2147483648) (hb : b < 2147483648) (ff : Int32 → jH → Option jO) : jbI (m_Jm_max F (nI a) (nI b) h) ff = ff ((nI (mxN a b))) (h) := bI_of (C_jmax (F := F) (h := h) (a := a) (b := b) (ha := ha) (hb := hb)) ff
theorem M_look_64 {F : Nat × Nat} {k : Nat → Nat} (W : WK k) {set t y : Nat} (hs : set < 33554432) (hy : y < 5) {kk : Nat → Int32 → Int32 → Int32 → Int32 → Int32 → jH → Option jO} {v3 : Int32} {ls : Nat} (hl : ls < 2147483648) : ∀ d n f h, n + d = 25 → d < f → ShM h → KM h k → (∀ i, i < 5 → j_I h 107 i = nI ((mlS k set.testBit y n).1 i)) → ∃ h', m_M_look_64 F kk f 85 (nI t) (nI set) v3 (nI ls) (nI y) (nI (mlS k set.testBit y n).2) (nI n) h = (if (mlS k set.testBit y 25).2 < ls then kk 85 (nI t) (nI set) (nI y) (nI (mlS k set.testBit y 25).2) (nI (y + 1)) h' else kk 85 (nI t) (nI set) v3 (nI ls) (nI (y + 1)) h') ∧ jX d107 jN h h'
  | 0, n, f + 1, h, e, _, S, K, V => by
    have : n = 25 := by omega
    subst this
    have b2 := (mlS_b (k := k) (yd := set.testBit) (y := y) 25).2
    refine ⟨h, ?_, jX.rf⟩
    rw [q_M_look_64, if_neg (by rw [ft_lt (by omega) (by omega)]; omega), ft_add]
    by_cases q : (mlS k set.testBit y 25).2 < ls
    · rw [if_pos (by rw [ft_lt (by omega) hl]; exact q), if_pos q]
    · rw [if_neg (by rw [ft_lt (by omega) hl]; exact q), if_neg q]
  | d + 1, n, f + 1, h, e, hf, S, K, V => by
    obtain ⟨bb1, bb2⟩ := mlS_b (k := k) (yd := set.testBit) (y := y) n
    have gle := gl_le W (c := n) (y := y) (by omega)
    have b1 := bI_of (M_isIn (F := F) (h := h) (s := set) (c := n) (by omega) (by omega))
    cases q : set.testBit n with
    | false =>
      have z : mlS k set.testBit y (n + 1) = mlS k set.testBit y n := by
        show (if set.testBit n then _ else _) = _
        rw [if_neg (by rw [q]; decide)]
      rw [q] at b1
      rw [← z] at V
      obtain ⟨h', e1, x1⟩ := M_look_64 (F := F) W (t := t) hs hy (kk := kk) (v3 := v3) hl d (n + 1) f h (by omega) (by omega) S K V
      refine ⟨h', ?_, x1⟩
      rw [z] at e1
      rw [← e1, q_M_look_64, if_pos (by rw [ft_lt (by omega) (by omega)]; omega), b1, if_pos (show nI (ft_z false) = nI 0 from rfl), ft_add]
    | true =>
      have z : mlS k set.testBit y (n + 1) = (va_up (mlS k set.testBit y n).1 (gl k n y) ((mlS k set.testBit y n).1 (gl k n y) + 1), mxN (mlS k set.testBit y n).2 ((mlS k set.testBit y n).1 (gl k n y) + 1)) := by
        show (if set.testBit n then _ else _) = _
        rw [if_pos q]
      have z1 := congrArg Prod.fst z
      have z2 := congrArg Prod.snd z
      simp only at z1 z2
      have i1 := V (gl k n y) (by omega)
      have bg := bb1 (gl k n y)
      have x0 : jX d107 jN h (j_sI h 107 (gl k n y) (nI ((mlS k set.testBit y n).1 (gl k n y) + 1))) := jX.rf.sI rfl
      have S0 := S.fr x0 (fun _ _ z => z)
      have K0 := K.fr x0 (fun a i d => by unfold d107 at d; omega)
      have V0 : ∀ i, i < 5 → j_I (j_sI h 107 (gl k n y) (nI ((mlS k set.testBit y n).1 (gl k n y) + 1))) 107 i = nI ((mlS k set.testBit y (n + 1)).1 i) := by
        intro i hi
        rw [z1]
        by_cases w : i = gl k n y
        · rw [w, I_sIe, va_e]
        · rw [I_sIk w, va_n w]; exact V i hi
      obtain ⟨h', e1, x1⟩ := M_look_64 (F := F) W (t := t) hs hy (kk := kk) (v3 := v3) hl d (n + 1) f _ (by omega) (by omega) S0 K0 V0
      refine ⟨h', ?_, x0.t x1⟩
      rw [q] at b1
      have g1 := bI_of (M_glm (F := F) S K (c := n) (y := y) (by omega) hy)
      have g2 := bI_of (M_glm (F := F) S0 K0 (c := n) (y := y) (by omega) hy)
      have g3 := bI_of (M_greater (F := F) (h := j_sI h 107 (gl k n y) (nI ((mlS k set.testBit y n).1 (gl k n y) + 1))) (a := (mlS k set.testBit y n).2) (b := (mlS k set.testBit y n).1 (gl k n y) + 1) (by omega) (by omega))
      rw [z2] at e1
      rw [← e1, q_M_look_64, if_pos (by rw [ft_lt (by omega) (by omega)]; omega), b1]
      simp (disch := first | exact sR_rfl _ _ rfl | omega) only [ft_lit, ft_m1, ft_m2, ft_m3, ft_m5, ft_m6, ft_cl, ft_lt, ft_le, ft_eq, ft_mlt, ft_ltm, ft_mltm, ft_meq, ft_eqm, ft_meqm, ft_add, ft_mul, ft_sub, ft_nm, ft_m1p, ft_and, ft_or, ft_31, ft_shl, ft_shr, ft_bz, ft_z0, ft_z1, ft_z01, ft_bb, ft_zt, ft_zf, ft_or0, ft_rv, ft_rvr, ft_rf, ft_rfn, ft_bI, ft_bJ, ft_bV, ft_bR, ft_bRn, ft_isr, ft_isn, ft_ifn, ft_ifr, ft_ov, ft_ovn, ft_in, k_sI, n_sI, R_sI, J_sI, c_sI, z_sI, k_sJ, n_sJ, R_sJ, I_sJ, c_sJ, z_sJ, k_sR, n_sR, I_sR, J_sR, c_sR, z_sR, k_wI, n_wI, R_wI, J_wI, I_wIe, k_wJ, n_wJ, R_wJ, I_wJ, J_wJe, I_wIn, J_wJn, I_sIe, J_sJe, R_sRe, I_sIn, I_sIk, J_sJn, J_sJk, R_sRn, R_sRk, eq_self, if_true, if_false, ↓reduceIte, cond_true, cond_false, ↓cond_eq_ite, and_true, true_and, and_false, false_and, or_true, true_or, or_false, false_or, not_true_eq_false, not_false_eq_true, ft_ltT, ft_ltF, ft_eqT, ft_eqF, Bool.false_eq_true, Bool.true_eq_false, Bool.not_true, Bool.not_false, Bool.and_true, Bool.true_and, Bool.and_false, Bool.false_and, decide_true, decide_false, Nat.reduceAdd, Nat.reduceMul, Nat.reduceSub, Nat.reduceEqDiff, Nat.reduceLT, Nat.zero_add, Nat.add_zero, Nat.reduceDiv, Nat.reduceMod, sm_k85 S, sm_R85_1 S, ↓sm_v85_1 S, sm_R85_2 S, ↓sm_v85_2 S, sm_R85_3 S, ↓sm_v85_3 S, sm_R85_4 S, ↓sm_v85_4 S, sm_R85_5 S, ↓sm_v85_5 S, sm_R85_7 S, ↓sm_v85_7 S, sm_R85_11 S, ↓sm_v85_11 S, sm_R85_12 S, ↓sm_v85_12 S, sm_R85_15 S, ↓sm_v85_15 S, sm_R85_16 S, ↓sm_v85_16 S, sm_R85_17 S, ↓sm_v85_17 S, sm_R85_26 S, ↓sm_v85_26 S, sm_R85_29 S, ↓sm_v85_29 S, sm_R85_30 S, ↓sm_v85_30 S, sm_R85_32 S, ↓sm_v85_32 S, sm_R85_33 S, ↓sm_v85_33 S, sm_R85_34 S, ↓sm_v85_34 S, sm_R85_35 S, ↓sm_v85_35 S, sm_R85_36 S, ↓sm_v85_36 S, sm_R85_37 S, ↓sm_v85_37 S, sm_R85_38 S, ↓sm_v85_38 S, sm_R85_40 S, ↓sm_v85_40 S, sm_R85_41 S, ↓sm_v85_41 S, sm_R85_48 S, ↓sm_v85_48 S, sm_R85_49 S, ↓sm_v85_49 S, sm_k86 S, sm_n86 S, sm_k87 S, sm_n87 S, sm_k88 S, sm_n88 S, sm_k89 S, sm_n89 S, sm_k90 S, sm_n90 S, sm_k91 S, sm_n91 S, sm_k92 S, sm_n92 S, sm_k93 S, sm_n93 S, sm_k94 S, sm_n94 S, sm_k95 S, sm_n95 S, sm_k96 S, sm_n96 S, sm_k97 S, sm_n97 S, sm_k98 S, sm_n98 S, sm_k99 S, sm_n99 S, sm_k100 S, sm_n100 S, sm_k101 S, sm_n101 S, sm_k102 S, sm_n102 S, sm_k103 S, sm_n103 S, sm_k104 S, sm_n104 S, sm_k105 S, sm_n105 S, sm_k106 S, sm_n106 S, sm_k107 S, sm_n107 S, sm_k108 S, sm_n108 S, sm_k109 S, sm_n109 S, sm_k110 S, sm_n110 S, ↓g1, i1, ↓g2, ↓g3]
theorem M_look_38 {F : Nat × Nat} (hF : FF F) {k : Nat → Nat} (W : WK k) {set t y : Nat} (hs : set < 33554432) (hy : y < 5) {kk : Nat → Int32 → Int32 → Int32 → Int32 → Int32 → jH → Option jO} {v3 : Int32} {ls : Nat} (hl : ls < 2147483648) : ∀ d n f h, n + d = 5 → d < f → ShM h → KM h k → (∀ i, i < n → j_I h 107 i = nI 0) → ∃ h', m_M_look_38 F kk f 85 (nI t) (nI set) v3 (nI ls) (nI y) (nI n) h = (if (mlS k set.testBit y 25).2 < ls then kk 85 (nI t) (nI set) (nI y) (nI (mlS k set.testBit y 25).2) (nI (y + 1)) h' else kk 85 (nI t) (nI set) v3 (nI ls) (nI (y + 1)) h') ∧ jX d107 jN h h'
  | 0, n, f + 1, h, e, _, S, K, V => by
    have hF1 := hF.1
    have : n = 5 := by omega
    subst this
    obtain ⟨h', e1, x1⟩ := M_look_64 (F := F) W (t := t) hs hy (kk := kk) (v3 := v3) hl 25 0 F.1 h rfl (by omega) S K V
    refine ⟨h', ?_, x1⟩
    rw [← e1, q_M_look_38, if_pos (by decide)]
    rfl
  | d + 1, n, f + 1, h, e, hf, S, K, V => by
    have x0 : jX d107 jN h (j_sI h 107 n (nI 0)) := jX.rf.sI rfl
    have S0 := S.fr x0 (fun _ _ z => z)
    have K0 := K.fr x0 (fun a i d => by unfold d107 at d; omega)
    obtain ⟨h', e1, x1⟩ := M_look_38 (F := F) hF W (t := t) hs hy (kk := kk) (v3 := v3) hl d (n + 1) f _ (by omega) (by omega) S0 K0 (fun i hi => by
      by_cases w : i = n
      · rw [w, I_sIe]
      · rw [I_sIk w]; exact V i (by omega))
    refine ⟨h', ?_, x0.t x1⟩
    rw [← e1, q_M_look_38]
    simp (disch := first | exact sR_rfl _ _ rfl | omega) only [ft_lit, ft_m1, ft_m2, ft_m3, ft_m5, ft_m6, ft_cl, ft_lt, ft_le, ft_eq, ft_mlt, ft_ltm, ft_mltm, ft_meq, ft_eqm, ft_meqm, ft_add, ft_mul, ft_sub, ft_nm, ft_m1p, ft_and, ft_or, ft_31, ft_shl, ft_shr, ft_bz, ft_z0, ft_z1, ft_z01, ft_bb, ft_zt, ft_zf, ft_or0, ft_rv, ft_rvr, ft_rf, ft_rfn, ft_bI, ft_bJ, ft_bV, ft_bR, ft_bRn, ft_isr, ft_isn, ft_ifn, ft_ifr, ft_ov, ft_ovn, ft_in, k_sI, n_sI, R_sI, J_sI, c_sI, z_sI, k_sJ, n_sJ, R_sJ, I_sJ, c_sJ, z_sJ, k_sR, n_sR, I_sR, J_sR, c_sR, z_sR, k_wI, n_wI, R_wI, J_wI, I_wIe, k_wJ, n_wJ, R_wJ, I_wJ, J_wJe, I_wIn, J_wJn, I_sIe, J_sJe, R_sRe, I_sIn, I_sIk, J_sJn, J_sJk, R_sRn, R_sRk, eq_self, if_true, if_false, ↓reduceIte, cond_true, cond_false, ↓cond_eq_ite, and_true, true_and, and_false, false_and, or_true, true_or, or_false, false_or, not_true_eq_false, not_false_eq_true, ft_ltT, ft_ltF, ft_eqT, ft_eqF, Bool.false_eq_true, Bool.true_eq_false, Bool.not_true, Bool.not_false, Bool.and_true, Bool.true_and, Bool.and_false, Bool.false_and, decide_true, decide_false, Nat.reduceAdd, Nat.reduceMul, Nat.reduceSub, Nat.reduceEqDiff, Nat.reduceLT, Nat.zero_add, Nat.add_zero, Nat.reduceDiv, Nat.reduceMod, sm_k85 S, sm_R85_1 S, ↓sm_v85_1 S, sm_R85_2 S, ↓sm_v85_2 S, sm_R85_3 S, ↓sm_v85_3 S, sm_R85_4 S, ↓sm_v85_4 S, sm_R85_5 S, ↓sm_v85_5 S, sm_R85_7 S, ↓sm_v85_7 S, sm_R85_11 S, ↓sm_v85_11 S, sm_R85_12 S, ↓sm_v85_12 S, sm_R85_15 S, ↓sm_v85_15 S, sm_R85_16 S, ↓sm_v85_16 S, sm_R85_17 S, ↓sm_v85_17 S, sm_R85_26 S, ↓sm_v85_26 S, sm_R85_29 S, ↓sm_v85_29 S, sm_R85_30 S, ↓sm_v85_30 S, sm_R85_32 S, ↓sm_v85_32 S, sm_R85_33 S, ↓sm_v85_33 S, sm_R85_34 S, ↓sm_v85_34 S, sm_R85_35 S, ↓sm_v85_35 S, sm_R85_36 S, ↓sm_v85_36 S, sm_R85_37 S, ↓sm_v85_37 S, sm_R85_38 S, ↓sm_v85_38 S, sm_R85_40 S, ↓sm_v85_40 S, sm_R85_41 S, ↓sm_v85_41 S, sm_R85_48 S, ↓sm_v85_48 S, sm_R85_49 S, ↓sm_v85_49 S, sm_k86 S, sm_n86 S, sm_k87 S, sm_n87 S, sm_k88 S, sm_n88 S, sm_k89 S, sm_n89 S, sm_k90 S, sm_n90 S, sm_k91 S, sm_n91 S, sm_k92 S, sm_n92 S, sm_k93 S, sm_n93 S, sm_k94 S, sm_n94 S, sm_k95 S, sm_n95 S, sm_k96 S, sm_n96 S, sm_k97 S, sm_n97 S, sm_k98 S, sm_n98 S, sm_k99 S, sm_n99 S, sm_k100 S, sm_n100 S, sm_k101 S, sm_n101 S, sm_k102 S, sm_n102 S, sm_k103 S, sm_n103 S, sm_k104 S, sm_n104 S, sm_k105 S, sm_n105 S, sm_k106 S, sm_n106 S, sm_k107 S, sm_n107 S, sm_k108 S, sm_n108 S, sm_k109 S, sm_n109 S, sm_k110 S, sm_n110 S]
/-- the way and how many are most alike by it, of the first ways -/
def lkS (k : Nat → Nat) (yd : Nat → Bool) : Nat → Nat × Nat
  | 0 => (0, (mlS k yd 0 25).2)
  | n + 1 => if (mlS k yd (n + 1) 25).2 < (lkS k yd n).2 then (n + 1, (mlS k yd (n + 1) 25).2) else lkS k yd n
theorem lkS_b {k : Nat → Nat} {yd : Nat → Bool} : ∀ n, (lkS k yd n).1 ≤ n ∧ (lkS k yd n).2 ≤ 25
  | 0 => ⟨Nat.le_refl _, (mlS_b 25).2⟩
  | n + 1 => by
    have := lkS_b (k := k) (yd := yd) n
    have := (mlS_b (k := k) (yd := yd) (y := n + 1) 25).2
    unfold lkS
    split
    · exact ⟨Nat.le_refl _, by omega⟩
    · exact ⟨by omega, by omega⟩
theorem M_look_25 {F : Nat × Nat} (hF : FF F) {k : Nat → Nat} (W : WK k) {set t : Nat} (hs : set < 33554432) (h0 : set ≠ 0) (ht : t < 2) : ∀ d n f h, n + d = 4 → d + 1 < f → ShM h → KM h k → ∃ h', m_M_look_25 F f 85 (nI t) (nI set) (nI (lkS k set.testBit n).1) (nI (lkS k set.testBit n).2) (nI (n + 1)) h = some (some (.int (nI (if t = 0 then (lkS k set.testBit 4).1 else (lkS k set.testBit 4).2))), h') ∧ jX d107 jN h h'
  | 0, n, f + 1, h, e, _, S, K => by
    have : n = 4 := by omega
    subst this
    have lb := lkS_b (k := k) (yd := set.testBit) 4
    refine ⟨h, ?_, jX.rf⟩
    rw [q_M_look_25, if_pos (by decide), if_neg (by rw [ft_eqm (by omega) (by omega)]; exact fun z => z)]
    obtain rfl | rfl : t = 0 ∨ t = 1 := by omega
    · rw [if_pos rfl, if_pos rfl]
    · rw [if_neg (by decide), if_neg (by decide)]
  | d + 1, n, f + 1, h, e, hf, S, K => by
    have hF1 := hF.1
    have lb := lkS_b (k := k) (yd := set.testBit) n
    obtain ⟨h1, e1, x1⟩ := M_look_38 (F := F) hF W (t := t) (y := n + 1) hs (by omega) (kk := m_M_look_25 F f) (v3 := nI (lkS k set.testBit n).1) (ls := (lkS k set.testBit n).2) (by omega) 5 0 F.1 h rfl (by omega) S K (fun i hi => absurd hi (by omega))
    obtain ⟨h', e2, x2⟩ := M_look_25 (F := F) hF W (t := t) hs h0 ht d (n + 1) f h1 (by omega) (by omega) (S.fr x1 (fun _ _ z => z)) (K.fr x1 (fun a i d => by unfold d107 at d; omega))
    refine ⟨h', ?_, x1.t x2⟩
    rw [q_M_look_25, if_neg (by rw [ft_lt (by omega) (by omega)]; omega), if_neg (by rw [ft_eq (by omega) (by omega)]; exact h0), e1, ← e2]
    have z : lkS k set.testBit (n + 1) = if (mlS k set.testBit (n + 1) 25).2 < (lkS k set.testBit n).2 then (n + 1, (mlS k set.testBit (n + 1) 25).2) else lkS k set.testBit n := rfl
    rw [z]
    by_cases q : (mlS k set.testBit (n + 1) 25).2 < (lkS k set.testBit n).2
    · rw [if_pos q, if_pos q]
    · rw [if_neg q, if_neg q]
theorem M_look_first {F : Nat × Nat} (hF : FF F) {k : Nat → Nat} (W : WK k) {set t : Nat} (hs : set < 33554432) (h0 : set ≠ 0) (ht : t < 2) {h : jH} (S : ShM h) (K : KM h k) : ∃ h', m_M_look_25 F F.1 85 (nI t) (nI set) (mI 0) (nI 1000000) (nI 0) h = some (some (.int (nI (if t = 0 then (lkS k set.testBit 4).1 else (lkS k set.testBit 4).2))), h') ∧ jX d107 jN h h' := by
  have hF1 := hF.1
  obtain ⟨f, hf⟩ : ∃ f, F.1 = f + 1 := ⟨F.1 - 1, by omega⟩
  have mb := (mlS_b (k := k) (yd := set.testBit) (y := 0) 25).2
  obtain ⟨h1, e1, x1⟩ := M_look_38 (F := F) hF W (t := t) (y := 0) hs (by omega) (kk := m_M_look_25 F f) (v3 := mI 0) (ls := 1000000) (by omega) 5 0 F.1 h rfl (by omega) S K (fun i hi => absurd hi (by omega))
  obtain ⟨h', e2, x2⟩ := M_look_25 (F := F) hF W (t := t) hs h0 ht 4 0 f h1 rfl (by omega) (S.fr x1 (fun _ _ z => z)) (K.fr x1 (fun a i d => by unfold d107 at d; omega))
  refine ⟨h', ?_, x1.t x2⟩
  have q : m_M_look_25 F F.1 85 (nI t) (nI set) (mI 0) (nI 1000000) (nI 0) h = m_M_look_25 F (f + 1) 85 (nI t) (nI set) (mI 0) (nI 1000000) (nI 0) h := by rw [hf]
  rw [q, q_M_look_25, if_neg (by decide), if_neg (by rw [ft_eq (by omega) (by omega)]; exact h0), e1, ← e2, if_pos (by omega)]
  rfl
theorem Ja_fill_5 {F : Nat × Nat} {a : Nat} {x : Int32} {m : Nat} (hm : m < 2147483648) : ∀ d n f h, n + d = m → d < f → j_k h a = 0 → j_n h a = m → (∀ i, i < n → j_I h a i = x) → ∃ h', m_Ja_fill_5 F f a x (nI n) (nI m) h = some (none, h') ∧ jX (fun b _ => b = a) jN h h' ∧ ∀ i, i < m → j_I h' a i = x
  | 0, n, f + 1, h, e, _, k0, n0, V => by
    have : n = m := by omega
    refine ⟨h, ?_, jX.rf, fun i hi => V i (by omega)⟩
    rw [q_Ja_fill_5, if_neg (by rw [ft_lt (by omega) hm]; omega)]
  | d + 1, n, f + 1, h, e, hf, k0, n0, V => by
    have x0 : jX (fun b _ => b = a) jN h (j_sI h a n x) := jX.rf.sI rfl
    obtain ⟨h', e1, x1, V1⟩ := Ja_fill_5 (F := F) (x := x) hm d (n + 1) f (j_sI h a n x) (by omega) (by omega) k0 n0 (fun i hi => by
      by_cases w : i = n
      · rw [w, I_sIe]
      · rw [I_sIk w]; exact V i (by omega))
    refine ⟨h', ?_, x0.t x1, V1⟩
    rw [← e1, q_Ja_fill_5]
    simp (disch := first | exact sR_rfl _ _ rfl | omega) only [ft_lit, ft_m1, ft_m2, ft_m3, ft_m5, ft_m6, ft_cl, ft_lt, ft_le, ft_eq, ft_mlt, ft_ltm, ft_mltm, ft_meq, ft_eqm, ft_meqm, ft_add, ft_mul, ft_sub, ft_nm, ft_m1p, ft_and, ft_or, ft_31, ft_shl, ft_shr, ft_bz, ft_z0, ft_z1, ft_z01, ft_bb, ft_zt, ft_zf, ft_or0, ft_rv, ft_rvr, ft_rf, ft_rfn, ft_bI, ft_bJ, ft_bV, ft_bR, ft_bRn, ft_isr, ft_isn, ft_ifn, ft_ifr, ft_ov, ft_ovn, ft_in, k_sI, n_sI, R_sI, J_sI, c_sI, z_sI, k_sJ, n_sJ, R_sJ, I_sJ, c_sJ, z_sJ, k_sR, n_sR, I_sR, J_sR, c_sR, z_sR, k_wI, n_wI, R_wI, J_wI, I_wIe, k_wJ, n_wJ, R_wJ, I_wJ, J_wJe, I_wIn, J_wJn, I_sIe, J_sJe, R_sRe, I_sIn, I_sIk, J_sJn, J_sJk, R_sRn, R_sRk, eq_self, if_true, if_false, ↓reduceIte, cond_true, cond_false, ↓cond_eq_ite, and_true, true_and, and_false, false_and, or_true, true_or, or_false, false_or, not_true_eq_false, not_false_eq_true, ft_ltT, ft_ltF, ft_eqT, ft_eqF, Bool.false_eq_true, Bool.true_eq_false, Bool.not_true, Bool.not_false, Bool.and_true, Bool.true_and, Bool.and_false, Bool.false_and, decide_true, decide_false, Nat.reduceAdd, Nat.reduceMul, Nat.reduceSub, Nat.reduceEqDiff, Nat.reduceLT, Nat.zero_add, Nat.add_zero, Nat.reduceDiv, Nat.reduceMod, k0, n0]
theorem Ja_fill {F : Nat × Nat} (hF : FF F) {a : Nat} {x : Int32} {m : Nat} (hm : m < 30000000) {h : jH} (k0 : j_k h a = 0) (n0 : j_n h a = m) : ∃ h', m_Ja_fill F a x h = some (none, h') ∧ jX (fun b _ => b = a) jN h h' ∧ ∀ i, i < m → j_I h' a i = x := by
  have hF1 := hF.1
  obtain ⟨h', e, r⟩ := Ja_fill_5 (F := F) (x := x) (m := m) (by omega) m 0 F.1 h (by omega) (by omega) k0 n0 (fun i hi => absurd hi (by omega))
  refine ⟨h', ?_, r⟩
  rw [q_Ja_fill, if_pos (by omega), n0]
  exact e
theorem C_most_13 {F : Nat × Nat} {k : Nat → Nat} (W : WK k) {set y : Nat} (hs : set < 33554432) (hy : y < 5) : ∀ d n f h, n + d = 25 → d < f → ShF h → LA h 5 → LI h 5 k → (∀ i, i < 5 → j_I h 83 i = nI ((mlS k set.testBit y n).1 i)) → ∃ h', m_F_mostAlike_13 F f 4 (nI set) (nI y) (nI (mlS k set.testBit y n).2) (nI n) h = some (some (.int (nI (mlS k set.testBit y 25).2)), h') ∧ jX d83 jN h h'
  | 0, n, f + 1, h, e, _, S, A, I, V => by
    have : n = 25 := by omega
    subst this
    refine ⟨h, ?_, jX.rf⟩
    rw [q_F_mostAlike_13, if_neg (by rw [ft_lt (by omega) (by omega)]; omega)]
  | d + 1, n, f + 1, h, e, hf, S, A, I, V => by
    obtain ⟨bb1, bb2⟩ := mlS_b (k := k) (yd := set.testBit) (y := y) n
    have gle := gl_le W (c := n) (y := y) (by omega)
    have e31 : n &&& 31 = n := ft_31 (by omega)
    cases q : set.testBit n with
    | false =>
      have z : mlS k set.testBit y (n + 1) = mlS k set.testBit y n := by
        show (if set.testBit n then _ else _) = _
        rw [if_neg (by rw [q]; decide)]
      rw [← z] at V
      obtain ⟨h', e1, x1⟩ := C_most_13 (F := F) W hs hy d (n + 1) f h (by omega) (by omega) S A I V
      refine ⟨h', ?_, x1⟩
      rw [z] at e1
      rw [← e1, q_F_mostAlike_13]
      simp (disch := first | exact sR_rfl _ _ rfl | omega) only [ft_lit, ft_m1, ft_m2, ft_m3, ft_m5, ft_m6, ft_cl, ft_lt, ft_le, ft_eq, ft_mlt, ft_ltm, ft_mltm, ft_meq, ft_eqm, ft_meqm, ft_add, ft_mul, ft_sub, ft_nm, ft_m1p, ft_and, ft_or, ft_31, ft_shl, ft_shr, ft_bz, ft_z0, ft_z1, ft_z01, ft_bb, ft_zt, ft_zf, ft_or0, ft_rv, ft_rvr, ft_rf, ft_rfn, ft_bI, ft_bJ, ft_bV, ft_bR, ft_bRn, ft_isr, ft_isn, ft_ifn, ft_ifr, ft_ov, ft_ovn, ft_in, k_sI, n_sI, R_sI, J_sI, c_sI, z_sI, k_sJ, n_sJ, R_sJ, I_sJ, c_sJ, z_sJ, k_sR, n_sR, I_sR, J_sR, c_sR, z_sR, k_wI, n_wI, R_wI, J_wI, I_wIe, k_wJ, n_wJ, R_wJ, I_wJ, J_wJe, I_wIn, J_wJn, I_sIe, J_sJe, R_sRe, I_sIn, I_sIk, J_sJn, J_sJk, R_sRn, R_sRk, eq_self, if_true, if_false, ↓reduceIte, cond_true, cond_false, ↓cond_eq_ite, and_true, true_and, and_false, false_and, or_true, true_or, or_false, false_or, not_true_eq_false, not_false_eq_true, ft_ltT, ft_ltF, ft_eqT, ft_eqF, Bool.false_eq_true, Bool.true_eq_false, Bool.not_true, Bool.not_false, Bool.and_true, Bool.true_and, Bool.and_false, Bool.false_and, decide_true, decide_false, Nat.reduceAdd, Nat.reduceMul, Nat.reduceSub, Nat.reduceEqDiff, Nat.reduceLT, Nat.zero_add, Nat.add_zero, Nat.reduceDiv, Nat.reduceMod, e31, q]
    | true =>
      have z : mlS k set.testBit y (n + 1) = (va_up (mlS k set.testBit y n).1 (gl k n y) ((mlS k set.testBit y n).1 (gl k n y) + 1), mxN (mlS k set.testBit y n).2 ((mlS k set.testBit y n).1 (gl k n y) + 1)) := by
        show (if set.testBit n then _ else _) = _
        rw [if_pos q]
      have z1 := congrArg Prod.fst z
      have z2 := congrArg Prod.snd z
      simp only at z1 z2
      have i1 := V (gl k n y) (by omega)
      have bg := bb1 (gl k n y)
      have x0 : jX d83 jN h (j_sI h 83 (gl k n y) (nI ((mlS k set.testBit y n).1 (gl k n y) + 1))) := jX.rf.sI rfl
      have V0 : ∀ i, i < 5 → j_I (j_sI h 83 (gl k n y) (nI ((mlS k set.testBit y n).1 (gl k n y) + 1))) 83 i = nI ((mlS k set.testBit y (n + 1)).1 i) := by
        intro i hi
        rw [z1]
        by_cases w : i = gl k n y
        · rw [w, I_sIe, va_e]
        · rw [I_sIk w, va_n w]; exact V i hi
      obtain ⟨h', e1, x1⟩ := C_most_13 (F := F) W hs hy d (n + 1) f _ (by omega) (by omega) (S.fr x0 (fun _ _ z => z)) (A.fr x0 (fun _ z => z)) (I.fr x0 (fun j i hj => by unfold d83; omega)) V0
      refine ⟨h', ?_, x0.t x1⟩
      have g1 := bI_of (U_kbw (F := F) A I (c := n) (y := y) (by omega) hy)
      have g3 := bI_of (C_jmax (F := F) (h := j_sI h 83 (gl k n y) (nI ((mlS k set.testBit y n).1 (gl k n y) + 1))) (a := (mlS k set.testBit y n).2) (b := (mlS k set.testBit y n).1 (gl k n y) + 1) (by omega) (by omega))
      rw [z2] at e1
      rw [← e1, q_F_mostAlike_13]
      simp (disch := first | exact sR_rfl _ _ rfl | omega) only [ft_lit, ft_m1, ft_m2, ft_m3, ft_m5, ft_m6, ft_cl, ft_lt, ft_le, ft_eq, ft_mlt, ft_ltm, ft_mltm, ft_meq, ft_eqm, ft_meqm, ft_add, ft_mul, ft_sub, ft_nm, ft_m1p, ft_and, ft_or, ft_31, ft_shl, ft_shr, ft_bz, ft_z0, ft_z1, ft_z01, ft_bb, ft_zt, ft_zf, ft_or0, ft_rv, ft_rvr, ft_rf, ft_rfn, ft_bI, ft_bJ, ft_bV, ft_bR, ft_bRn, ft_isr, ft_isn, ft_ifn, ft_ifr, ft_ov, ft_ovn, ft_in, k_sI, n_sI, R_sI, J_sI, c_sI, z_sI, k_sJ, n_sJ, R_sJ, I_sJ, c_sJ, z_sJ, k_sR, n_sR, I_sR, J_sR, c_sR, z_sR, k_wI, n_wI, R_wI, J_wI, I_wIe, k_wJ, n_wJ, R_wJ, I_wJ, J_wJe, I_wIn, J_wJn, I_sIe, J_sJe, R_sRe, I_sIn, I_sIk, J_sJn, J_sJk, R_sRn, R_sRk, eq_self, if_true, if_false, ↓reduceIte, cond_true, cond_false, ↓cond_eq_ite, and_true, true_and, and_false, false_and, or_true, true_or, or_false, false_or, not_true_eq_false, not_false_eq_true, ft_ltT, ft_ltF, ft_eqT, ft_eqF, Bool.false_eq_true, Bool.true_eq_false, Bool.not_true, Bool.not_false, Bool.and_true, Bool.true_and, Bool.and_false, Bool.false_and, decide_true, decide_false, Nat.reduceAdd, Nat.reduceMul, Nat.reduceSub, Nat.reduceEqDiff, Nat.reduceLT, Nat.zero_add, Nat.add_zero, Nat.reduceDiv, Nat.reduceMod, sf_k4 S, sf_R4_0 S, ↓sf_v4_0 S, sf_R4_1 S, ↓sf_v4_1 S, sf_R4_2 S, ↓sf_v4_2 S, sf_R4_3 S, ↓sf_v4_3 S, sf_R4_4 S, ↓sf_v4_4 S, sf_R4_5 S, ↓sf_v4_5 S, sf_R4_6 S, ↓sf_v4_6 S, sf_R4_7 S, ↓sf_v4_7 S, sf_R4_8 S, ↓sf_v4_8 S, sf_R4_9 S, ↓sf_v4_9 S, sf_R4_10 S, ↓sf_v4_10 S, sf_R4_11 S, ↓sf_v4_11 S, sf_R4_12 S, ↓sf_v4_12 S, sf_k5 S, sf_R5_0 S, ↓sf_v5_0 S, sf_R5_1 S, ↓sf_v5_1 S, sf_R5_3 S, ↓sf_v5_3 S, sf_R5_4 S, ↓sf_v5_4 S, sf_R5_5 S, ↓sf_v5_5 S, sf_R5_6 S, ↓sf_v5_6 S, sf_R5_7 S, ↓sf_v5_7 S, sf_R5_9 S, ↓sf_v5_9 S, sf_R5_10 S, ↓sf_v5_10 S, sf_R5_11 S, ↓sf_v5_11 S, sf_R5_12 S, ↓sf_v5_12 S, sf_k17 S, sf_R17_0 S, ↓sf_v17_0 S, sf_R17_1 S, ↓sf_v17_1 S, sf_R17_3 S, ↓sf_v17_3 S, sf_R17_4 S, ↓sf_v17_4 S, sf_R17_5 S, ↓sf_v17_5 S, sf_R17_6 S, ↓sf_v17_6 S, sf_R17_7 S, ↓sf_v17_7 S, sf_R17_9 S, ↓sf_v17_9 S, sf_R17_10 S, ↓sf_v17_10 S, sf_R17_11 S, ↓sf_v17_11 S, sf_R17_12 S, ↓sf_v17_12 S, sf_k29 S, sf_R29_0 S, ↓sf_v29_0 S, sf_R29_1 S, ↓sf_v29_1 S, sf_R29_3 S, ↓sf_v29_3 S, sf_R29_4 S, ↓sf_v29_4 S, sf_R29_5 S, ↓sf_v29_5 S, sf_R29_6 S, ↓sf_v29_6 S, sf_R29_7 S, ↓sf_v29_7 S, sf_R29_9 S, ↓sf_v29_9 S, sf_R29_10 S, ↓sf_v29_10 S, sf_R29_11 S, ↓sf_v29_11 S, sf_R29_12 S, ↓sf_v29_12 S, sf_k41 S, sf_n41 S, sf_k42 S, sf_R42_0 S, ↓sf_v42_0 S, sf_R42_1 S, ↓sf_v42_1 S, sf_R42_2 S, ↓sf_v42_2 S, sf_R42_3 S, ↓sf_v42_3 S, sf_R42_4 S, ↓sf_v42_4 S, sf_R42_5 S, ↓sf_v42_5 S, sf_R42_6 S, ↓sf_v42_6 S, sf_R42_7 S, ↓sf_v42_7 S, sf_k51 S, sf_R51_0 S, ↓sf_v51_0 S, sf_R51_1 S, ↓sf_v51_1 S, sf_R51_2 S, ↓sf_v51_2 S, sf_R51_3 S, ↓sf_v51_3 S, sf_R51_4 S, ↓sf_v51_4 S, sf_R51_5 S, ↓sf_v51_5 S, sf_R51_6 S, ↓sf_v51_6 S, sf_R51_7 S, ↓sf_v51_7 S, sf_k60 S, sf_R60_0 S, ↓sf_v60_0 S, sf_R60_3 S, ↓sf_v60_3 S, sf_R60_4 S, ↓sf_v60_4 S, sf_R60_5 S, ↓sf_v60_5 S, sf_R60_6 S, ↓sf_v60_6 S, sf_k72 S, sf_R72_0 S, ↓sf_v72_0 S, sf_R72_1 S, ↓sf_v72_1 S, sf_k75 S, sf_R75_0 S, ↓sf_v75_0 S, sf_R75_1 S, ↓sf_v75_1 S, sf_R75_2 S, ↓sf_v75_2 S, sf_R75_3 S, ↓sf_v75_3 S, sf_R75_4 S, ↓sf_v75_4 S, sf_k81 S, sf_n81 S, sf_k82 S, sf_n82 S, sf_k83 S, sf_n83 S, sf_k84 S, sf_n84 S, sf_k6 S, sf_n6 S, sf_k7 S, sf_n7 S, sf_k8 S, sf_n8 S, sf_k9 S, sf_n9 S, sf_k10 S, sf_n10 S, sf_k11 S, sf_n11 S, sf_k12 S, sf_n12 S, sf_k13 S, sf_n13 S, sf_k14 S, sf_n14 S, sf_k15 S, sf_n15 S, sf_k16 S, sf_n16 S, sf_k18 S, sf_n18 S, sf_k19 S, sf_n19 S, sf_k20 S, sf_n20 S, sf_k21 S, sf_n21 S, sf_k22 S, sf_n22 S, sf_k23 S, sf_n23 S, sf_k24 S, sf_n24 S, sf_k25 S, sf_n25 S, sf_k26 S, sf_n26 S, sf_k27 S, sf_n27 S, sf_k28 S, sf_n28 S, sf_k30 S, sf_n30 S, sf_k31 S, sf_n31 S, sf_k32 S, sf_n32 S, sf_k33 S, sf_n33 S, sf_k34 S, sf_n34 S, sf_k35 S, sf_n35 S, sf_k36 S, sf_n36 S, sf_k37 S, sf_n37 S, sf_k38 S, sf_n38 S, sf_k39 S, sf_n39 S, sf_k40 S, sf_n40 S, sf_k43 S, sf_n43 S, sf_k44 S, sf_n44 S, sf_k45 S, sf_n45 S, sf_k46 S, sf_n46 S, sf_k47 S, sf_n47 S, sf_k48 S, sf_n48 S, sf_k49 S, sf_n49 S, sf_k50 S, sf_n50 S, sf_k52 S, sf_n52 S, sf_k53 S, sf_n53 S, sf_k54 S, sf_n54 S, sf_k55 S, sf_n55 S, sf_k56 S, sf_n56 S, sf_k57 S, sf_n57 S, sf_k58 S, sf_n58 S, sf_k59 S, sf_n59 S, sf_k61 S, sf_n61 S, sf_k62 S, sf_R62_0 S, ↓sf_v62_0 S, sf_R62_1 S, ↓sf_v62_1 S, sf_R62_2 S, ↓sf_v62_2 S, sf_R62_3 S, ↓sf_v62_3 S, sf_R62_4 S, ↓sf_v62_4 S, sf_R62_5 S, ↓sf_v62_5 S, sf_k69 S, sf_n69 S, sf_k70 S, sf_n70 S, sf_k71 S, sf_n71 S, sf_k73 S, sf_n73 S, sf_k74 S, sf_n74 S, sf_k76 S, sf_n76 S, sf_k77 S, sf_n77 S, sf_k78 S, sf_n78 S, sf_k79 S, sf_n79 S, sf_k80 S, sf_n80 S, sf_k63 S, sf_n63 S, sf_k64 S, sf_n64 S, sf_k65 S, sf_n65 S, sf_k66 S, sf_n66 S, sf_k67 S, sf_n67 S, sf_k68 S, sf_n68 S, e31, q, ↓g1, i1, ↓g3]
theorem C_mostA {F : Nat × Nat} (hF : FF F) {k : Nat → Nat} (W : WK k) {set y : Nat} (hs : set < 33554432) (hy : y < 5) {h : jH} (S : ShF h) (A : LA h 5) (I : LI h 5 k) : ∃ h', m_F_mostAlike F 4 (nI set) (nI y) h = some (some (.int (nI (mlS k set.testBit y 25).2)), h') ∧ jX d83 jN h h' := by
  have hF1 := hF.1
  obtain ⟨h1, e1, x1, V1⟩ := Ja_fill (F := F) hF (x := nI 0) (m := 5) (by omega) (sf_k83 S) (sf_n83 S)
  have x1' : jX d83 jN h h1 := x1
  obtain ⟨h', e2, x2⟩ := C_most_13 (F := F) W hs hy 25 0 F.1 h1 rfl (by omega) (S.fr x1 (fun _ _ z => z)) (A.fr x1 (fun _ z => z)) (I.fr x1' (fun j i hj => by unfold d83; omega)) V1
  refine ⟨h', ?_, x1'.t x2⟩
  rw [q_F_mostAlike, if_pos (sf_k4 S), sf_v4_11 S (sR_rfl _ _ rfl), bV_of e1]
  exact e2
theorem C_look_23 {F : Nat × Nat} (hF : FF F) {k : Nat → Nat} (W : WK k) {set : Nat} (hs : set < 33554432) {a : Int32} : ∀ d n f h, n + d = 4 → d + 1 < f → ShF h → LA h 5 → LI h 5 k → ∃ h', m_F_look_23 F f 4 a (nI set) (nI (lkS k set.testBit n).1) (nI (lkS k set.testBit n).2) (nI (n + 1)) h = some (some (.int (if a = nI 0 then nI (lkS k set.testBit 4).1 else if a = nI 1 then nI (lkS k set.testBit 4).2 else mI 0)), h') ∧ jX d83 jN h h'
  | 0, n, f + 1, h, e, _, S, A, I => by
    have : n = 4 := by omega
    subst this
    refine ⟨h, ?_, jX.rf⟩
    rw [q_F_look_23, if_pos (by decide)]
    by_cases q : a = nI 0
    · rw [if_pos q, if_pos q]
    · rw [if_neg q, if_neg q]
      by_cases q : a = nI 1
      · rw [if_pos q, if_pos q]
      · rw [if_neg q, if_neg q]
  | d + 1, n, f + 1, h, e, hf, S, A, I => by
    have lb := lkS_b (k := k) (yd := set.testBit) n
    have mb := (mlS_b (k := k) (yd := set.testBit) (y := n + 1) 25).2
    obtain ⟨h1, e1, x1⟩ := C_mostA (F := F) hF W (y := n + 1) hs (by omega) S A I
    obtain ⟨h', e2, x2⟩ := C_look_23 (F := F) hF W (a := a) hs d (n + 1) f h1 (by omega) (by omega) (S.fr x1 (fun _ _ z => z)) (A.fr x1 (fun _ z => z)) (I.fr x1 (fun j i hj => by unfold d83; omega))
    refine ⟨h', ?_, x1.t x2⟩
    rw [q_F_look_23, if_neg (by rw [ft_lt (by omega) (by omega)]; omega), if_pos (sf_k4 S), bI_of e1, ← e2, ft_add]
    have z : lkS k set.testBit (n + 1) = if (mlS k set.testBit (n + 1) 25).2 < (lkS k set.testBit n).2 then (n + 1, (mlS k set.testBit (n + 1) 25).2) else lkS k set.testBit n := rfl
    rw [z]
    by_cases q : (mlS k set.testBit (n + 1) 25).2 < (lkS k set.testBit n).2
    · rw [if_pos q, if_pos (by rw [ft_lt (by omega) (by omega)]; exact q)]
    · rw [if_neg q, if_neg (by rw [ft_lt (by omega) (by omega)]; exact q)]
theorem C_look_first {F : Nat × Nat} (hF : FF F) {k : Nat → Nat} (W : WK k) {set : Nat} (hs : set < 33554432) {a : Int32} {h : jH} (S : ShF h) (A : LA h 5) (I : LI h 5 k) : ∃ h', m_F_look_23 F F.1 4 a (nI set) (nI 0) (nI 26) (nI 0) h = some (some (.int (if a = nI 0 then nI (lkS k set.testBit 4).1 else if a = nI 1 then nI (lkS k set.testBit 4).2 else mI 0)), h') ∧ jX d83 jN h h' := by
  have hF1 := hF.1
  obtain ⟨f, hf⟩ : ∃ f, F.1 = f + 1 := ⟨F.1 - 1, by omega⟩
  have mb := (mlS_b (k := k) (yd := set.testBit) (y := 0) 25).2
  obtain ⟨h1, e1, x1⟩ := C_mostA (F := F) hF W (y := 0) hs (by omega) S A I
  obtain ⟨h', e2, x2⟩ := C_look_23 (F := F) hF W (a := a) hs 4 0 f h1 rfl (by omega) (S.fr x1 (fun _ _ z => z)) (A.fr x1 (fun _ z => z)) (I.fr x1 (fun j i hj => by unfold d83; omega))
  refine ⟨h', ?_, x1.t x2⟩
  have q : m_F_look_23 F F.1 4 a (nI set) (nI 0) (nI 26) (nI 0) h = m_F_look_23 F (f + 1) 4 a (nI set) (nI 0) (nI 26) (nI 0) h := by rw [hf]
  rw [q, q_F_look_23, if_neg (by decide), if_pos (sf_k4 S), bI_of e1, ← e2, if_pos (by rw [ft_lt (by omega) (by omega)]; omega)]
  rfl
theorem K_look {F : Nat × Nat} (hF : FF F) {s : St} (w : WJ s) (a : Int32) : Alk (m_M_look F 85 a) (m_F_look F 4 a) s := by
  obtain ⟨k, im, u, tp, tl, sc, kd⟩ := s
  have w' : WS k im u := w
  have W := w'.1
  have hF1 := hF.1
  have hs : ft_bs (ydS k) 25 < 33554432 := ft_bs_lt _ 25
  by_cases c0 : ft_bs (ydS k) 25 = 0
  · refine ⟨(mI 0), _, w, Mst.id (fun h M => ?_), Cst.id (fun h C => ?_)⟩
    · have M' : MI h k im u tp tl sc kd := M
      have S := M'.1
      have b1 := bI_of (M_yard (F := F) hF S M'.2.2.2.1 W)
      rw [c0] at b1
      obtain ⟨f, hf⟩ : ∃ f, F.1 = f + 1 := ⟨F.1 - 1, by omega⟩
      rcases rngQ a (lo := 0) (hi := 1) (by omega) (by omega) with ⟨m, h1, h2, rfl⟩ | c
      · have q : m_M_look_25 F F.1 85 (nI m) (nI 0) (mI 0) (nI 1000000) (nI 0) h = m_M_look_25 F (f + 1) 85 (nI m) (nI 0) (mI 0) (nI 1000000) (nI 0) h := by rw [hf]
        rw [q_M_look, bI_of (lie1 h1 h2 (by omega)), if_neg (by decide), if_pos (sm_k85 S), b1, q, q_M_look_25, if_neg (by decide), if_pos rfl, if_pos rfl]
      · rw [q_M_look, bI_of (lie0 c), if_pos rfl]
    · have C' : CI h k im u tp tl sc kd := C
      have S := C'.1
      have b1 := bI_of (U_yard (F := F) hF C'.2.2.1.1 C'.2.2.1.2.1 W)
      rw [c0] at b1
      rw [q_F_look, if_pos (sf_k4 S), sf_v4_0 S (sR_rfl _ _ rfl), if_pos (sf_k5 S), b1, if_pos rfl]
  · refine ⟨(if a = nI 0 then nI (lkS k (ft_bs (ydS k) 25).testBit 4).1 else if a = nI 1 then nI (lkS k (ft_bs (ydS k) 25).testBit 4).2 else mI 0), _, w, fun h M => ?_, fun h C => ?_⟩
    · have M' : MI h k im u tp tl sc kd := M
      have S := M'.1
      have b1 := bI_of (M_yard (F := F) hF S M'.2.2.2.1 W)
      rcases rngQ a (lo := 0) (hi := 1) (by omega) (by omega) with ⟨m, h1, h2, rfl⟩ | c
      · obtain ⟨h', e, x⟩ := M_look_first (F := F) hF W (t := m) hs c0 (by omega) S M'.2.2.2.1
        have x' : jX dW jN h h' := x.up (fun a i d => by unfold d107 at d; unfold dW; omega) (fun _ _ z => z)
        refine ⟨h', ?_, M'.w x' (M'.2.2.1.fr x (by unfold d107; omega)) (M'.2.2.2.1.fr x (fun a i d => by unfold d107 at d; omega)), dW_MM x'⟩
        rw [q_M_look, bI_of (lie1 h1 h2 (by omega)), if_neg (by decide), if_pos (sm_k85 S), b1, e]
        obtain rfl | rfl : m = 0 ∨ m = 1 := by omega
        · rw [if_pos rfl, if_pos rfl]
        · rw [if_neg (by decide), if_neg (by decide), if_pos rfl]
      · have n0 : ¬ a = nI 0 := by
          intro e
          subst e
          rcases c with c | ⟨c1, c2, c3⟩
          · rw [ft_lt (by omega) (by omega)] at c; exact absurd (of_eq_true c) (by omega)
          · rw [ft_lt (by omega) (by omega)] at c2; exact absurd (of_eq_true c2) (by omega)
        have n1 : ¬ a = nI 1 := by
          intro e
          subst e
          rcases c with c | ⟨c1, c2, c3⟩
          · rw [ft_lt (by omega) (by omega)] at c; exact absurd (of_eq_true c) (by omega)
          · rw [ft_lt (by omega) (by omega)] at c2; exact absurd (of_eq_true c2) (by omega)
        refine ⟨h, ?_, M', jX.rf⟩
        rw [q_M_look, bI_of (lie0 c), if_pos rfl, if_neg n0, if_neg n1]
    · have C' : CI h k im u tp tl sc kd := C
      have S := C'.1
      have b1 := bI_of (U_yard (F := F) hF C'.2.2.1.1 C'.2.2.1.2.1 W)
      obtain ⟨h', e, x⟩ := C_look_first (F := F) hF W (a := a) hs S C'.2.2.1.1 C'.2.2.1.2.1
      have x' : jX dV jN h h' := x.up (fun a i d => by unfold d83 at d; unfold dV; omega) (fun _ _ z => z)
      refine ⟨h', ?_, C'.w x', dV_Y x'⟩
      rw [q_F_look, if_pos (sf_k4 S), sf_v4_0 S (sR_rfl _ _ rfl), if_pos (sf_k5 S), b1, if_neg (by rw [ft_eq (by omega) (by omega)]; exact c0), e]
