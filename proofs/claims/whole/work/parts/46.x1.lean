/-! THE CLASS RUNS ITS CODE -/
def hW (h : jH) (st : Nat → Int64) : jH := j_wJ h 74 st
theorem hW_k (h : jH) (st : Nat → Int64) (a : Nat) : j_k (hW h st) a = j_k h a := rfl
theorem hW_n (h : jH) (st : Nat → Int64) (a : Nat) : j_n (hW h st) a = j_n h a := rfl
theorem hW_R (h : jH) (st : Nat → Int64) (a i : Nat) : j_R (hW h st) a i = j_R h a i := rfl
theorem hW_I (h : jH) (st : Nat → Int64) (a i : Nat) : j_I (hW h st) a i = j_I h a i := rfl
theorem hW_J (h : jH) (st : Nat → Int64) (i : Nat) : j_J (hW h st) 74 i = st i := J_wJe h 74 st i
theorem hW_Jn {h : jH} {st : Nat → Int64} {a i : Nat} (e : a ≠ 74) : j_J (hW h st) a i = j_J h a i := J_wJn e
theorem hW_s (h : jH) (st : Nat → Int64) (k : Nat) (x : Int64) : j_sJ (hW h st) 74 k x = hW h (va_up st k x) := by
  unfold hW
  apply wJ_s
  intro i
  rfl
theorem hW_w (h : jH) (st st' : Nat → Int64) : hW (hW h st) st' = hW h st' := wJ_w h 74 st st'
theorem hW_0 (h : jH) : hW h (fun i => j_J h 74 i) = h := wJ_0 h 74 (fun _ => rfl)
def BR : Int := -9223372036854775808
/-- the text at t, its code row p, its size, its code -/
def XT (h : jH) (t p sz : Nat) (cd : Nat → Nat) : Prop := j_k h t = 15 ∧ j_R h t 0 = some p ∧ j_k h p = 0 ∧ sz ≤ j_n h p ∧ sz ≤ 480 ∧ j_I h t 6 = nI sz ∧ (∀ i, i < sz → j_I h p i = nI (cd i)) ∧ (∀ i, cd i < 1000000)
def XU (h : jH) : Prop := j_k h 72 = 14 ∧ j_R h 72 1 = some 74 ∧ j_k h 74 = 1 ∧ j_n h 74 = 48
/-- code c stands at s -/
def Xat (cd : Nat → Nat) (sz s : Nat) (c : List Nat) : Prop := s + c.length ≤ sz ∧ ∀ i x, c[i]? = some x → cd (s + i) = x
theorem Xat.app {cd : Nat → Nat} {sz s : Nat} {a b : List Nat} (h : Xat cd sz s (a ++ b)) : Xat cd sz s a ∧ Xat cd sz (s + a.length) b := by
  obtain ⟨h1, h2⟩ := h
  rw [List.length_append] at h1
  refine ⟨⟨by omega, fun i x e => h2 i x ?_⟩, ⟨by omega, fun i x e => ?_⟩⟩
  · have : i < a.length := (List.getElem?_eq_some_iff.mp e).1
    rw [List.getElem?_append_left this]
    exact e
  · have := h2 (a.length + i) x (by rw [List.getElem?_append_right (by omega), Nat.add_sub_cancel_left]; exact e)
    rwa [← Nat.add_assoc] at this
theorem Xat.one {cd : Nat → Nat} {sz s x : Nat} (h : Xat cd sz s [x]) : s < sz ∧ cd s = x := by
  obtain ⟨h1, h2⟩ := h
  have h1 : s + 1 ≤ sz := h1
  exact ⟨by omega, h2 0 x rfl⟩
/-- the machine -/
def Xm (F : Nat × Nat) (t ws : Nat) (h : jH) (f top s : Nat) (st : Nat → Int64) : Option jO := m_U_worth_13 F f 72 t ws (nI top) (nI s) (hW h st)
/-- code c at s is worth x -/
def Xr (F : Nat × Nat) (t ws : Nat) (h : jH) (need : Nat) (c : List Nat) (s : Nat) (x : Option Int) : Prop := ∀ f top st, top + need ≤ 48 → (∀ v, x = some v → ∃ f' st', f ≤ f' ∧ Xm F t ws h (f + c.length) top s st = Xm F t ws h f' (top + 1) (s + c.length) st' ∧ (∀ i, i < top → st' i = st i) ∧ st' top = iL v) ∧ (x = none → ∃ st', Xm F t ws h (f + c.length) top s st = some (some (.long (iL BR)), hW h st'))
theorem op31 {x v o : Nat} (h : x = v * 32 + o) (ho : o < 32) : x &&& 31 = o := by
  rw [Nat.and_two_pow_sub_one_eq_mod x 5, h]
  omega
theorem op5 {x v o : Nat} (h : x = v * 32 + o) (ho : o < 32) : x >>> 5 = v := by
  rw [Nat.shiftRight_eq_div_pow, h]
  omega
theorem va_up_lt {st : Nat → Int64} {k : Nat} {x : Int64} : ∀ i, i < k → va_up st k x i = st i := fun i hi => va_up_ne _ _ (by omega)
theorem X_num {F : Nat × Nat} {h : jH} {t p sz ws : Nat} {cd : Nat → Nat} (U : XU h) (X : XT h t p sz cd) {s v : Nat} (A : Xat cd sz s [v * 32 + 1]) : Xr F t ws h 1 [v * 32 + 1] s (some v) := by
  intro f top st hn
  refine ⟨fun w hw => ?_, fun q => nomatch q⟩
  cases Option.some.inj hw
  obtain ⟨a1, a2⟩ := A.one
  obtain ⟨U1, U2, U3, U4⟩ := U
  obtain ⟨X1, X2, X3, X4, X5, X6, X7, X8⟩ := X
  have c0 := X7 s a1
  have c1 := op31 a2 (by omega)
  have c2 := op5 a2 (by omega)
  have c3 := X8 s
  have v1 := fun {h2 : jH} (e : sR h2 h) f => rv_of U2 e f
  have v2 := fun {h2 : jH} (e : sR h2 h) f => rv_of X2 e f
  refine ⟨f, va_up st top (iL v), Nat.le_refl _, ?_, va_up_lt, va_up_self _ _ _⟩
  show Xm F t ws h (f + 1) top s st = _
  unfold Xm
  simp (disch := first | exact sR_rfl _ _ rfl | omega) only [q_U_worth_13, q_U_worth_86, ft_lit, ft_m1, ft_m2, ft_m3, ft_m5, ft_m6, ft_cl, ft_lt, ft_le, ft_eq, ft_mlt, ft_ltm, ft_mltm, ft_meq, ft_eqm, ft_meqm, ft_add, ft_mul, ft_sub, ft_nm, ft_m1p, ft_and, ft_or, ft_31, ft_shl, ft_shr, ft_bz, ft_z0, ft_z1, ft_z01, ft_bb, ft_zt, ft_zf, ft_or0, ft_rv, ft_rvr, ft_rf, ft_rfn, ft_bI, ft_bJ, ft_bV, ft_bR, ft_bRn, ft_isr, ft_isn, ft_ifn, ft_ifr, ft_ov, ft_ovn, ft_in, k_sI, n_sI, R_sI, J_sI, c_sI, z_sI, k_sJ, n_sJ, R_sJ, I_sJ, c_sJ, z_sJ, k_sR, n_sR, I_sR, J_sR, c_sR, z_sR, k_wI, n_wI, R_wI, J_wI, I_wIe, k_wJ, n_wJ, R_wJ, I_wJ, J_wJe, I_wIn, J_wJn, I_sIe, J_sJe, R_sRe, I_sIn, I_sIk, J_sJn, J_sJk, R_sRn, R_sRk, eq_self, if_true, if_false, ↓reduceIte, cond_true, cond_false, ↓cond_eq_ite, and_true, true_and, and_false, false_and, or_true, true_or, or_false, false_or, not_true_eq_false, not_false_eq_true, ft_ltT, ft_ltF, ft_eqT, ft_eqF, Bool.false_eq_true, Bool.true_eq_false, Bool.not_true, Bool.not_false, Bool.and_true, Bool.true_and, Bool.and_false, Bool.false_and, decide_true, decide_false, Nat.reduceAdd, Nat.reduceMul, Nat.reduceSub, Nat.reduceEqDiff, Nat.reduceLT, Nat.zero_add, Nat.add_zero, Nat.reduceDiv, Nat.reduceMod, hW_k, hW_n, hW_R, hW_I, U1, U2, U3, U4, X1, X2, X3, X6, ↓v1, ↓v2, c0, c1, c2, hW_s, nI_L, List.length_cons, List.length_nil]
theorem X_word {F : Nat × Nat} {h : jH} {t p sz ws : Nat} {cd : Nat → Nat} (U : XU h) (X : XT h t p sz cd) {s v : Nat} {y : Int} (A : Xat cd sz s [v * 32 + 2]) (hw1 : j_k h ws = 1) (hw2 : v < j_n h ws) (hw5 : j_n h ws < 1000) (hw3 : j_J h ws v = iL y) (hw4 : ws ≠ 74) : Xr F t ws h 1 [v * 32 + 2] s (some y) := by
  intro f top st hn
  refine ⟨fun w hw => ?_, fun q => nomatch q⟩
  cases Option.some.inj hw
  obtain ⟨a1, a2⟩ := A.one
  obtain ⟨U1, U2, U3, U4⟩ := U
  obtain ⟨X1, X2, X3, X4, X5, X6, X7, X8⟩ := X
  have c0 := X7 s a1
  have c1 := op31 a2 (by omega)
  have c2 := op5 a2 (by omega)
  have c3 := X8 s
  have v1 := fun {h2 : jH} (e : sR h2 h) f => rv_of U2 e f
  have v2 := fun {h2 : jH} (e : sR h2 h) f => rv_of X2 e f
  refine ⟨f, va_up st top (iL y), Nat.le_refl _, ?_, va_up_lt, va_up_self _ _ _⟩
  show Xm F t ws h (f + 1) top s st = _
  unfold Xm
  have e5 : Int32.ofNat (j_n h ws) = nI (j_n h ws) := rfl
  simp (disch := first | exact sR_rfl _ _ rfl | omega) only [q_U_worth_13, q_U_worth_86, ft_lit, ft_m1, ft_m2, ft_m3, ft_m5, ft_m6, ft_cl, ft_lt, ft_le, ft_eq, ft_mlt, ft_ltm, ft_mltm, ft_meq, ft_eqm, ft_meqm, ft_add, ft_mul, ft_sub, ft_nm, ft_m1p, ft_and, ft_or, ft_31, ft_shl, ft_shr, ft_bz, ft_z0, ft_z1, ft_z01, ft_bb, ft_zt, ft_zf, ft_or0, ft_rv, ft_rvr, ft_rf, ft_rfn, ft_bI, ft_bJ, ft_bV, ft_bR, ft_bRn, ft_isr, ft_isn, ft_ifn, ft_ifr, ft_ov, ft_ovn, ft_in, k_sI, n_sI, R_sI, J_sI, c_sI, z_sI, k_sJ, n_sJ, R_sJ, I_sJ, c_sJ, z_sJ, k_sR, n_sR, I_sR, J_sR, c_sR, z_sR, k_wI, n_wI, R_wI, J_wI, I_wIe, k_wJ, n_wJ, R_wJ, I_wJ, J_wJe, I_wIn, J_wJn, I_sIe, J_sJe, R_sRe, I_sIn, I_sIk, J_sJn, J_sJk, R_sRn, R_sRk, eq_self, if_true, if_false, ↓reduceIte, cond_true, cond_false, ↓cond_eq_ite, and_true, true_and, and_false, false_and, or_true, true_or, or_false, false_or, not_true_eq_false, not_false_eq_true, ft_ltT, ft_ltF, ft_eqT, ft_eqF, Bool.false_eq_true, Bool.true_eq_false, Bool.not_true, Bool.not_false, Bool.and_true, Bool.true_and, Bool.and_false, Bool.false_and, decide_true, decide_false, Nat.reduceAdd, Nat.reduceMul, Nat.reduceSub, Nat.reduceEqDiff, Nat.reduceLT, Nat.zero_add, Nat.add_zero, Nat.reduceDiv, Nat.reduceMod, hW_k, hW_n, hW_R, hW_I, hW_Jn, U1, U2, U3, U4, X1, X2, X3, X6, ↓v1, ↓v2, c0, c1, c2, hW_s, hw1, hw3, e5, List.length_cons, List.length_nil]
theorem C_153 {F : Nat × Nat} {h : jH} {v : Int} (h1 : -2000000000000000000 ≤ v) (h2 : v ≤ 2000000000000000000) : m_U_combined_153 F (iL v) h = some (some (.long (iL (if h_out v then BR else v))), h) := by
  by_cases q1 : 1000000000 < v
  · have e : h_out v = true := by unfold h_out; simp [q1]
    simp (disch := first | exact sR_rfl _ _ rfl | omega) only [q_U_combined_153, ft_lit, ft_m1, ft_m2, ft_m3, ft_m5, ft_m6, ft_cl, ft_lt, ft_le, ft_eq, ft_mlt, ft_ltm, ft_mltm, ft_meq, ft_eqm, ft_meqm, ft_add, ft_mul, ft_sub, ft_nm, ft_m1p, ft_and, ft_or, ft_31, ft_shl, ft_shr, ft_bz, ft_z0, ft_z1, ft_z01, ft_bb, ft_zt, ft_zf, ft_or0, ft_rv, ft_rvr, ft_rf, ft_rfn, ft_bI, ft_bJ, ft_bV, ft_bR, ft_bRn, ft_isr, ft_isn, ft_ifn, ft_ifr, ft_ov, ft_ovn, ft_in, k_sI, n_sI, R_sI, J_sI, c_sI, z_sI, k_sJ, n_sJ, R_sJ, I_sJ, c_sJ, z_sJ, k_sR, n_sR, I_sR, J_sR, c_sR, z_sR, k_wI, n_wI, R_wI, J_wI, I_wIe, k_wJ, n_wJ, R_wJ, I_wJ, J_wJe, I_wIn, J_wJn, I_sIe, J_sJe, R_sRe, I_sIn, I_sIk, J_sJn, J_sJk, R_sRn, R_sRk, eq_self, if_true, if_false, ↓reduceIte, cond_true, cond_false, ↓cond_eq_ite, and_true, true_and, and_false, false_and, or_true, true_or, or_false, false_or, not_true_eq_false, not_false_eq_true, ft_ltT, ft_ltF, ft_eqT, ft_eqF, Bool.false_eq_true, Bool.true_eq_false, Bool.not_true, Bool.not_false, Bool.and_true, Bool.true_and, Bool.and_false, Bool.false_and, decide_true, decide_false, Nat.reduceAdd, Nat.reduceMul, Nat.reduceSub, Nat.reduceEqDiff, Nat.reduceLT, Nat.zero_add, Nat.add_zero, Nat.reduceDiv, Nat.reduceMod, iL_b, iL_br, cmp_gt, q1, e, BR]
  · by_cases q2 : v < -1000000000
    · have e : h_out v = true := by unfold h_out; simp [q2]
      simp (disch := first | exact sR_rfl _ _ rfl | omega) only [q_U_combined_153, ft_lit, ft_m1, ft_m2, ft_m3, ft_m5, ft_m6, ft_cl, ft_lt, ft_le, ft_eq, ft_mlt, ft_ltm, ft_mltm, ft_meq, ft_eqm, ft_meqm, ft_add, ft_mul, ft_sub, ft_nm, ft_m1p, ft_and, ft_or, ft_31, ft_shl, ft_shr, ft_bz, ft_z0, ft_z1, ft_z01, ft_bb, ft_zt, ft_zf, ft_or0, ft_rv, ft_rvr, ft_rf, ft_rfn, ft_bI, ft_bJ, ft_bV, ft_bR, ft_bRn, ft_isr, ft_isn, ft_ifn, ft_ifr, ft_ov, ft_ovn, ft_in, k_sI, n_sI, R_sI, J_sI, c_sI, z_sI, k_sJ, n_sJ, R_sJ, I_sJ, c_sJ, z_sJ, k_sR, n_sR, I_sR, J_sR, c_sR, z_sR, k_wI, n_wI, R_wI, J_wI, I_wIe, k_wJ, n_wJ, R_wJ, I_wJ, J_wJe, I_wIn, J_wJn, I_sIe, J_sJe, R_sRe, I_sIn, I_sIk, J_sJn, J_sJk, R_sRn, R_sRk, eq_self, if_true, if_false, ↓reduceIte, cond_true, cond_false, ↓cond_eq_ite, and_true, true_and, and_false, false_and, or_true, true_or, or_false, false_or, not_true_eq_false, not_false_eq_true, ft_ltT, ft_ltF, ft_eqT, ft_eqF, Bool.false_eq_true, Bool.true_eq_false, Bool.not_true, Bool.not_false, Bool.and_true, Bool.true_and, Bool.and_false, Bool.false_and, decide_true, decide_false, Nat.reduceAdd, Nat.reduceMul, Nat.reduceSub, Nat.reduceEqDiff, Nat.reduceLT, Nat.zero_add, Nat.add_zero, Nat.reduceDiv, Nat.reduceMod, iL_b, iL_ng, iL_br, cmp_gt, cmp_lt, q1, q2, e, BR]
    · have e : h_out v = false := by unfold h_out; simp [q1, q2]
      simp (disch := first | exact sR_rfl _ _ rfl | omega) only [q_U_combined_153, ft_lit, ft_m1, ft_m2, ft_m3, ft_m5, ft_m6, ft_cl, ft_lt, ft_le, ft_eq, ft_mlt, ft_ltm, ft_mltm, ft_meq, ft_eqm, ft_meqm, ft_add, ft_mul, ft_sub, ft_nm, ft_m1p, ft_and, ft_or, ft_31, ft_shl, ft_shr, ft_bz, ft_z0, ft_z1, ft_z01, ft_bb, ft_zt, ft_zf, ft_or0, ft_rv, ft_rvr, ft_rf, ft_rfn, ft_bI, ft_bJ, ft_bV, ft_bR, ft_bRn, ft_isr, ft_isn, ft_ifn, ft_ifr, ft_ov, ft_ovn, ft_in, k_sI, n_sI, R_sI, J_sI, c_sI, z_sI, k_sJ, n_sJ, R_sJ, I_sJ, c_sJ, z_sJ, k_sR, n_sR, I_sR, J_sR, c_sR, z_sR, k_wI, n_wI, R_wI, J_wI, I_wIe, k_wJ, n_wJ, R_wJ, I_wJ, J_wJe, I_wIn, J_wJn, I_sIe, J_sJe, R_sRe, I_sIn, I_sIk, J_sJn, J_sJk, R_sRn, R_sRk, eq_self, if_true, if_false, ↓reduceIte, cond_true, cond_false, ↓cond_eq_ite, and_true, true_and, and_false, false_and, or_true, true_or, or_false, false_or, not_true_eq_false, not_false_eq_true, ft_ltT, ft_ltF, ft_eqT, ft_eqF, Bool.false_eq_true, Bool.true_eq_false, Bool.not_true, Bool.not_false, Bool.and_true, Bool.true_and, Bool.and_false, Bool.false_and, decide_true, decide_false, Nat.reduceAdd, Nat.reduceMul, Nat.reduceSub, Nat.reduceEqDiff, Nat.reduceLT, Nat.zero_add, Nat.add_zero, Nat.reduceDiv, Nat.reduceMod, iL_b, iL_ng, cmp_gt, cmp_lt, q1, q2, e]
theorem C_153_b {F : Nat × Nat} {h : jH} {v : Int} (h1 : -2000000000000000000 ≤ v) (h2 : v ≤ 2000000000000000000) (ff : Int64 → jH → Option jO) : jbJ (m_U_combined_153 F (iL v) h) ff = ff ((iL (if h_out v then BR else v))) (h) := bJ_of (C_153 (F := F) (h := h) (v := v) (h1 := h1) (h2 := h2)) ff
/-- a test's worth as a long -/
def zL (b : Bool) : Int := if b then 1 else 0
def h_cb (op : Nat) (a b : Option Int) : Option Int := if op < 11 then h_cmb op a b else (h_cmp op a b).map zL
theorem C_153n {F : Nat × Nat} {h : jH} {v : Int} (h1 : -2000000000000000000 ≤ v) (h2 : v ≤ 2000000000000000000) : m_U_combined_153 F (iL v) h = some (some (.long (iL ((h_bnd v).getD BR))), h) := by
  rw [C_153 h1 h2]
  unfold h_bnd h_out
  by_cases q1 : v > 1000000000 <;> by_cases q2 : v < -1000000000 <;> simp [q1, q2]
theorem C_153n_b {F : Nat × Nat} {h : jH} {v : Int} (h1 : -2000000000000000000 ≤ v) (h2 : v ≤ 2000000000000000000) (ff : Int64 → jH → Option jO) : jbJ (m_U_combined_153 F (iL v) h) ff = ff ((iL ((h_bnd v).getD BR))) (h) := bJ_of (C_153n (F := F) (h := h) (v := v) (h1 := h1) (h2 := h2)) ff
theorem C_153b {F : Nat × Nat} {h : jH} : m_U_combined_153 F (iL BR) h = some (some (.long (iL BR)), h) := by
  unfold BR
  simp (disch := first | exact sR_rfl _ _ rfl | omega) only [q_U_combined_153, ft_lit, ft_m1, ft_m2, ft_m3, ft_m5, ft_m6, ft_cl, ft_lt, ft_le, ft_eq, ft_mlt, ft_ltm, ft_mltm, ft_meq, ft_eqm, ft_meqm, ft_add, ft_mul, ft_sub, ft_nm, ft_m1p, ft_and, ft_or, ft_31, ft_shl, ft_shr, ft_bz, ft_z0, ft_z1, ft_z01, ft_bb, ft_zt, ft_zf, ft_or0, ft_rv, ft_rvr, ft_rf, ft_rfn, ft_bI, ft_bJ, ft_bV, ft_bR, ft_bRn, ft_isr, ft_isn, ft_ifn, ft_ifr, ft_ov, ft_ovn, ft_in, k_sI, n_sI, R_sI, J_sI, c_sI, z_sI, k_sJ, n_sJ, R_sJ, I_sJ, c_sJ, z_sJ, k_sR, n_sR, I_sR, J_sR, c_sR, z_sR, k_wI, n_wI, R_wI, J_wI, I_wIe, k_wJ, n_wJ, R_wJ, I_wJ, J_wJe, I_wIn, J_wJn, I_sIe, J_sJe, R_sRe, I_sIn, I_sIk, J_sJn, J_sJk, R_sRn, R_sRk, eq_self, if_true, if_false, ↓reduceIte, cond_true, cond_false, ↓cond_eq_ite, and_true, true_and, and_false, false_and, or_true, true_or, or_false, false_or, not_true_eq_false, not_false_eq_true, ft_ltT, ft_ltF, ft_eqT, ft_eqF, Bool.false_eq_true, Bool.true_eq_false, Bool.not_true, Bool.not_false, Bool.and_true, Bool.true_and, Bool.and_false, Bool.false_and, decide_true, decide_false, Nat.reduceAdd, Nat.reduceMul, Nat.reduceSub, Nat.reduceEqDiff, Nat.reduceLT, Nat.zero_add, Nat.add_zero, Nat.reduceDiv, Nat.reduceMod, iL_b, iL_mb, iL_br, cmp_gt, cmp_lt]
  rfl
theorem C_153b_b {F : Nat × Nat} {h : jH} (ff : Int64 → jH → Option jO) : jbJ (m_U_combined_153 F (iL BR) h) ff = ff ((iL BR)) (h) := bJ_of (C_153b (F := F) (h := h)) ff
theorem C_153z {F : Nat × Nat} {h : jH} (b : Bool) : m_U_combined_153 F (iL (zL b)) h = some (some (.long (iL (zL b))), h) := by
  cases b
  · have := C_153n (F := F) (h := h) (v := 0) (by omega) (by omega)
    exact this
  · have := C_153n (F := F) (h := h) (v := 1) (by omega) (by omega)
    exact this
theorem C_153z_b {F : Nat × Nat} {h : jH} (b : Bool) (ff : Int64 → jH → Option jO) : jbJ (m_U_combined_153 F (iL (zL b)) h) ff = ff ((iL (zL b))) (h) := bJ_of (C_153z (F := F) (h := h) (b := b)) ff
theorem C_comb {F : Nat × Nat} {h : jH} {op : Nat} {a b : Int} (ho1 : 6 ≤ op) (ho2 : op ≤ 13) (ha1 : -1000000000 ≤ a) (ha2 : a ≤ 1000000000) (hb1 : -1000000000 ≤ b) (hb2 : b ≤ 1000000000) : m_U_combined F (nI op) (iL a) (iL b) h = some (some (.long (iL ((h_cb op (some a) (some b)).getD BR))), h) := by
  have mu := abs_mul_le ha1 ha2 hb1 hb2
  have td := tdiv_le (a := a) (b := b) ha1 ha2
  have tm := tmod_le (a := a) (b := b) ha1 ha2
  obtain rfl | rfl | rfl | rfl | rfl | rfl | rfl | rfl : op = 6 ∨ op = 7 ∨ op = 8 ∨ op = 9 ∨ op = 10 ∨ op = 11 ∨ op = 12 ∨ op = 13 := by omega
  · simp (disch := first | exact sR_rfl _ _ rfl | omega) only [q_U_combined, ft_lit, ft_m1, ft_m2, ft_m3, ft_m5, ft_m6, ft_cl, ft_lt, ft_le, ft_eq, ft_mlt, ft_ltm, ft_mltm, ft_meq, ft_eqm, ft_meqm, ft_add, ft_mul, ft_sub, ft_nm, ft_m1p, ft_and, ft_or, ft_31, ft_shl, ft_shr, ft_bz, ft_z0, ft_z1, ft_z01, ft_bb, ft_zt, ft_zf, ft_or0, ft_rv, ft_rvr, ft_rf, ft_rfn, ft_bI, ft_bJ, ft_bV, ft_bR, ft_bRn, ft_isr, ft_isn, ft_ifn, ft_ifr, ft_ov, ft_ovn, ft_in, k_sI, n_sI, R_sI, J_sI, c_sI, z_sI, k_sJ, n_sJ, R_sJ, I_sJ, c_sJ, z_sJ, k_sR, n_sR, I_sR, J_sR, c_sR, z_sR, k_wI, n_wI, R_wI, J_wI, I_wIe, k_wJ, n_wJ, R_wJ, I_wJ, J_wJe, I_wIn, J_wJn, I_sIe, J_sJe, R_sRe, I_sIn, I_sIk, J_sJn, J_sJk, R_sRn, R_sRk, eq_self, if_true, if_false, ↓reduceIte, cond_true, cond_false, ↓cond_eq_ite, and_true, true_and, and_false, false_and, or_true, true_or, or_false, false_or, not_true_eq_false, not_false_eq_true, ft_ltT, ft_ltF, ft_eqT, ft_eqF, Bool.false_eq_true, Bool.true_eq_false, Bool.not_true, Bool.not_false, Bool.and_true, Bool.true_and, Bool.and_false, Bool.false_and, decide_true, decide_false, Nat.reduceAdd, Nat.reduceMul, Nat.reduceSub, Nat.reduceEqDiff, Nat.reduceLT, Nat.zero_add, Nat.add_zero, Nat.reduceDiv, Nat.reduceMod, iL_add]
    exact C_153n (by omega) (by omega)
  · simp (disch := first | exact sR_rfl _ _ rfl | omega) only [q_U_combined, ft_lit, ft_m1, ft_m2, ft_m3, ft_m5, ft_m6, ft_cl, ft_lt, ft_le, ft_eq, ft_mlt, ft_ltm, ft_mltm, ft_meq, ft_eqm, ft_meqm, ft_add, ft_mul, ft_sub, ft_nm, ft_m1p, ft_and, ft_or, ft_31, ft_shl, ft_shr, ft_bz, ft_z0, ft_z1, ft_z01, ft_bb, ft_zt, ft_zf, ft_or0, ft_rv, ft_rvr, ft_rf, ft_rfn, ft_bI, ft_bJ, ft_bV, ft_bR, ft_bRn, ft_isr, ft_isn, ft_ifn, ft_ifr, ft_ov, ft_ovn, ft_in, k_sI, n_sI, R_sI, J_sI, c_sI, z_sI, k_sJ, n_sJ, R_sJ, I_sJ, c_sJ, z_sJ, k_sR, n_sR, I_sR, J_sR, c_sR, z_sR, k_wI, n_wI, R_wI, J_wI, I_wIe, k_wJ, n_wJ, R_wJ, I_wJ, J_wJe, I_wIn, J_wJn, I_sIe, J_sJe, R_sRe, I_sIn, I_sIk, J_sJn, J_sJk, R_sRn, R_sRk, eq_self, if_true, if_false, ↓reduceIte, cond_true, cond_false, ↓cond_eq_ite, and_true, true_and, and_false, false_and, or_true, true_or, or_false, false_or, not_true_eq_false, not_false_eq_true, ft_ltT, ft_ltF, ft_eqT, ft_eqF, Bool.false_eq_true, Bool.true_eq_false, Bool.not_true, Bool.not_false, Bool.and_true, Bool.true_and, Bool.and_false, Bool.false_and, decide_true, decide_false, Nat.reduceAdd, Nat.reduceMul, Nat.reduceSub, Nat.reduceEqDiff, Nat.reduceLT, Nat.zero_add, Nat.add_zero, Nat.reduceDiv, Nat.reduceMod, iL_sub]
    exact C_153n (by omega) (by omega)
  · simp (disch := first | exact sR_rfl _ _ rfl | omega) only [q_U_combined, ft_lit, ft_m1, ft_m2, ft_m3, ft_m5, ft_m6, ft_cl, ft_lt, ft_le, ft_eq, ft_mlt, ft_ltm, ft_mltm, ft_meq, ft_eqm, ft_meqm, ft_add, ft_mul, ft_sub, ft_nm, ft_m1p, ft_and, ft_or, ft_31, ft_shl, ft_shr, ft_bz, ft_z0, ft_z1, ft_z01, ft_bb, ft_zt, ft_zf, ft_or0, ft_rv, ft_rvr, ft_rf, ft_rfn, ft_bI, ft_bJ, ft_bV, ft_bR, ft_bRn, ft_isr, ft_isn, ft_ifn, ft_ifr, ft_ov, ft_ovn, ft_in, k_sI, n_sI, R_sI, J_sI, c_sI, z_sI, k_sJ, n_sJ, R_sJ, I_sJ, c_sJ, z_sJ, k_sR, n_sR, I_sR, J_sR, c_sR, z_sR, k_wI, n_wI, R_wI, J_wI, I_wIe, k_wJ, n_wJ, R_wJ, I_wJ, J_wJe, I_wIn, J_wJn, I_sIe, J_sJe, R_sRe, I_sIn, I_sIk, J_sJn, J_sJk, R_sRn, R_sRk, eq_self, if_true, if_false, ↓reduceIte, cond_true, cond_false, ↓cond_eq_ite, and_true, true_and, and_false, false_and, or_true, true_or, or_false, false_or, not_true_eq_false, not_false_eq_true, ft_ltT, ft_ltF, ft_eqT, ft_eqF, Bool.false_eq_true, Bool.true_eq_false, Bool.not_true, Bool.not_false, Bool.and_true, Bool.true_and, Bool.and_false, Bool.false_and, decide_true, decide_false, Nat.reduceAdd, Nat.reduceMul, Nat.reduceSub, Nat.reduceEqDiff, Nat.reduceLT, Nat.zero_add, Nat.add_zero, Nat.reduceDiv, Nat.reduceMod, iL_mul]
    exact C_153n (by omega) (by omega)
  · by_cases q : b = 0
    · have e1 : (lg_cmp (iL b) (iL 0) = nI 0) = True := by rw [cmp_eq (by omega) (by omega) (by omega) (by omega)]; simp [q]
      simp (disch := first | exact sR_rfl _ _ rfl | omega) only [q_U_combined, ft_lit, ft_m1, ft_m2, ft_m3, ft_m5, ft_m6, ft_cl, ft_lt, ft_le, ft_eq, ft_mlt, ft_ltm, ft_mltm, ft_meq, ft_eqm, ft_meqm, ft_add, ft_mul, ft_sub, ft_nm, ft_m1p, ft_and, ft_or, ft_31, ft_shl, ft_shr, ft_bz, ft_z0, ft_z1, ft_z01, ft_bb, ft_zt, ft_zf, ft_or0, ft_rv, ft_rvr, ft_rf, ft_rfn, ft_bI, ft_bJ, ft_bV, ft_bR, ft_bRn, ft_isr, ft_isn, ft_ifn, ft_ifr, ft_ov, ft_ovn, ft_in, k_sI, n_sI, R_sI, J_sI, c_sI, z_sI, k_sJ, n_sJ, R_sJ, I_sJ, c_sJ, z_sJ, k_sR, n_sR, I_sR, J_sR, c_sR, z_sR, k_wI, n_wI, R_wI, J_wI, I_wIe, k_wJ, n_wJ, R_wJ, I_wJ, J_wJe, I_wIn, J_wJn, I_sIe, J_sJe, R_sRe, I_sIn, I_sIk, J_sJn, J_sJk, R_sRn, R_sRk, eq_self, if_true, if_false, ↓reduceIte, cond_true, cond_false, ↓cond_eq_ite, and_true, true_and, and_false, false_and, or_true, true_or, or_false, false_or, not_true_eq_false, not_false_eq_true, ft_ltT, ft_ltF, ft_eqT, ft_eqF, Bool.false_eq_true, Bool.true_eq_false, Bool.not_true, Bool.not_false, Bool.and_true, Bool.true_and, Bool.and_false, Bool.false_and, decide_true, decide_false, Nat.reduceAdd, Nat.reduceMul, Nat.reduceSub, Nat.reduceEqDiff, Nat.reduceLT, Nat.zero_add, Nat.add_zero, Nat.reduceDiv, Nat.reduceMod, iL_0, e1, iL_br]
      subst q
      exact C_153b
    · have e1 : (lg_cmp (iL b) (iL 0) = nI 0) = False := by rw [cmp_eq (by omega) (by omega) (by omega) (by omega)]; simp [q]
      have e2 : (iL b = iL 0) = False := by rw [iL_eq (by omega) (by omega) (by omega) (by omega)]; simp [q]
      have e3 : h_cb 9 (some a) (some b) = h_bnd (a.tdiv b) := by simp [h_cb, h_cmb, q]
      rw [e3]
      simp (disch := first | exact sR_rfl _ _ rfl | omega) only [q_U_combined, ft_lit, ft_m1, ft_m2, ft_m3, ft_m5, ft_m6, ft_cl, ft_lt, ft_le, ft_eq, ft_mlt, ft_ltm, ft_mltm, ft_meq, ft_eqm, ft_meqm, ft_add, ft_mul, ft_sub, ft_nm, ft_m1p, ft_and, ft_or, ft_31, ft_shl, ft_shr, ft_bz, ft_z0, ft_z1, ft_z01, ft_bb, ft_zt, ft_zf, ft_or0, ft_rv, ft_rvr, ft_rf, ft_rfn, ft_bI, ft_bJ, ft_bV, ft_bR, ft_bRn, ft_isr, ft_isn, ft_ifn, ft_ifr, ft_ov, ft_ovn, ft_in, k_sI, n_sI, R_sI, J_sI, c_sI, z_sI, k_sJ, n_sJ, R_sJ, I_sJ, c_sJ, z_sJ, k_sR, n_sR, I_sR, J_sR, c_sR, z_sR, k_wI, n_wI, R_wI, J_wI, I_wIe, k_wJ, n_wJ, R_wJ, I_wJ, J_wJe, I_wIn, J_wJn, I_sIe, J_sJe, R_sRe, I_sIn, I_sIk, J_sJn, J_sJk, R_sRn, R_sRk, eq_self, if_true, if_false, ↓reduceIte, cond_true, cond_false, ↓cond_eq_ite, and_true, true_and, and_false, false_and, or_true, true_or, or_false, false_or, not_true_eq_false, not_false_eq_true, ft_ltT, ft_ltF, ft_eqT, ft_eqF, Bool.false_eq_true, Bool.true_eq_false, Bool.not_true, Bool.not_false, Bool.and_true, Bool.true_and, Bool.and_false, Bool.false_and, decide_true, decide_false, Nat.reduceAdd, Nat.reduceMul, Nat.reduceSub, Nat.reduceEqDiff, Nat.reduceLT, Nat.zero_add, Nat.add_zero, Nat.reduceDiv, Nat.reduceMod, iL_0, e1, e2]
      rw [iL_div (by omega) (by omega) (by omega) (by omega)]
      exact C_153n (by omega) (by omega)
  · by_cases q : b = 0
    · have e1 : (lg_cmp (iL b) (iL 0) = nI 0) = True := by rw [cmp_eq (by omega) (by omega) (by omega) (by omega)]; simp [q]
      simp (disch := first | exact sR_rfl _ _ rfl | omega) only [q_U_combined, ft_lit, ft_m1, ft_m2, ft_m3, ft_m5, ft_m6, ft_cl, ft_lt, ft_le, ft_eq, ft_mlt, ft_ltm, ft_mltm, ft_meq, ft_eqm, ft_meqm, ft_add, ft_mul, ft_sub, ft_nm, ft_m1p, ft_and, ft_or, ft_31, ft_shl, ft_shr, ft_bz, ft_z0, ft_z1, ft_z01, ft_bb, ft_zt, ft_zf, ft_or0, ft_rv, ft_rvr, ft_rf, ft_rfn, ft_bI, ft_bJ, ft_bV, ft_bR, ft_bRn, ft_isr, ft_isn, ft_ifn, ft_ifr, ft_ov, ft_ovn, ft_in, k_sI, n_sI, R_sI, J_sI, c_sI, z_sI, k_sJ, n_sJ, R_sJ, I_sJ, c_sJ, z_sJ, k_sR, n_sR, I_sR, J_sR, c_sR, z_sR, k_wI, n_wI, R_wI, J_wI, I_wIe, k_wJ, n_wJ, R_wJ, I_wJ, J_wJe, I_wIn, J_wJn, I_sIe, J_sJe, R_sRe, I_sIn, I_sIk, J_sJn, J_sJk, R_sRn, R_sRk, eq_self, if_true, if_false, ↓reduceIte, cond_true, cond_false, ↓cond_eq_ite, and_true, true_and, and_false, false_and, or_true, true_or, or_false, false_or, not_true_eq_false, not_false_eq_true, ft_ltT, ft_ltF, ft_eqT, ft_eqF, Bool.false_eq_true, Bool.true_eq_false, Bool.not_true, Bool.not_false, Bool.and_true, Bool.true_and, Bool.and_false, Bool.false_and, decide_true, decide_false, Nat.reduceAdd, Nat.reduceMul, Nat.reduceSub, Nat.reduceEqDiff, Nat.reduceLT, Nat.zero_add, Nat.add_zero, Nat.reduceDiv, Nat.reduceMod, iL_0, e1, iL_br]
      subst q
      exact C_153b
    · have e1 : (lg_cmp (iL b) (iL 0) = nI 0) = False := by rw [cmp_eq (by omega) (by omega) (by omega) (by omega)]; simp [q]
      have e2 : (iL b = iL 0) = False := by rw [iL_eq (by omega) (by omega) (by omega) (by omega)]; simp [q]
      have e3 : h_cb 10 (some a) (some b) = h_bnd (a.tmod b) := by simp [h_cb, h_cmb, q]
      rw [e3]
      simp (disch := first | exact sR_rfl _ _ rfl | omega) only [q_U_combined, ft_lit, ft_m1, ft_m2, ft_m3, ft_m5, ft_m6, ft_cl, ft_lt, ft_le, ft_eq, ft_mlt, ft_ltm, ft_mltm, ft_meq, ft_eqm, ft_meqm, ft_add, ft_mul, ft_sub, ft_nm, ft_m1p, ft_and, ft_or, ft_31, ft_shl, ft_shr, ft_bz, ft_z0, ft_z1, ft_z01, ft_bb, ft_zt, ft_zf, ft_or0, ft_rv, ft_rvr, ft_rf, ft_rfn, ft_bI, ft_bJ, ft_bV, ft_bR, ft_bRn, ft_isr, ft_isn, ft_ifn, ft_ifr, ft_ov, ft_ovn, ft_in, k_sI, n_sI, R_sI, J_sI, c_sI, z_sI, k_sJ, n_sJ, R_sJ, I_sJ, c_sJ, z_sJ, k_sR, n_sR, I_sR, J_sR, c_sR, z_sR, k_wI, n_wI, R_wI, J_wI, I_wIe, k_wJ, n_wJ, R_wJ, I_wJ, J_wJe, I_wIn, J_wJn, I_sIe, J_sJe, R_sRe, I_sIn, I_sIk, J_sJn, J_sJk, R_sRn, R_sRk, eq_self, if_true, if_false, ↓reduceIte, cond_true, cond_false, ↓cond_eq_ite, and_true, true_and, and_false, false_and, or_true, true_or, or_false, false_or, not_true_eq_false, not_false_eq_true, ft_ltT, ft_ltF, ft_eqT, ft_eqF, Bool.false_eq_true, Bool.true_eq_false, Bool.not_true, Bool.not_false, Bool.and_true, Bool.true_and, Bool.and_false, Bool.false_and, decide_true, decide_false, Nat.reduceAdd, Nat.reduceMul, Nat.reduceSub, Nat.reduceEqDiff, Nat.reduceLT, Nat.zero_add, Nat.add_zero, Nat.reduceDiv, Nat.reduceMod, iL_0, e1, e2]
      rw [iL_rem (by omega) (by omega) (by omega) (by omega)]
      exact C_153n (by omega) (by omega)
  · have e3 : h_cb 11 (some a) (some b) = some (zL (decide (a < b))) := rfl
    rw [e3]
    by_cases q : a < b
    · rw [decide_eq_true q]
      simp (disch := first | exact sR_rfl _ _ rfl | omega) only [q_U_combined, ft_lit, ft_m1, ft_m2, ft_m3, ft_m5, ft_m6, ft_cl, ft_lt, ft_le, ft_eq, ft_mlt, ft_ltm, ft_mltm, ft_meq, ft_eqm, ft_meqm, ft_add, ft_mul, ft_sub, ft_nm, ft_m1p, ft_and, ft_or, ft_31, ft_shl, ft_shr, ft_bz, ft_z0, ft_z1, ft_z01, ft_bb, ft_zt, ft_zf, ft_or0, ft_rv, ft_rvr, ft_rf, ft_rfn, ft_bI, ft_bJ, ft_bV, ft_bR, ft_bRn, ft_isr, ft_isn, ft_ifn, ft_ifr, ft_ov, ft_ovn, ft_in, k_sI, n_sI, R_sI, J_sI, c_sI, z_sI, k_sJ, n_sJ, R_sJ, I_sJ, c_sJ, z_sJ, k_sR, n_sR, I_sR, J_sR, c_sR, z_sR, k_wI, n_wI, R_wI, J_wI, I_wIe, k_wJ, n_wJ, R_wJ, I_wJ, J_wJe, I_wIn, J_wJn, I_sIe, J_sJe, R_sRe, I_sIn, I_sIk, J_sJn, J_sJk, R_sRn, R_sRk, eq_self, if_true, if_false, ↓reduceIte, cond_true, cond_false, ↓cond_eq_ite, and_true, true_and, and_false, false_and, or_true, true_or, or_false, false_or, not_true_eq_false, not_false_eq_true, ft_ltT, ft_ltF, ft_eqT, ft_eqF, Bool.false_eq_true, Bool.true_eq_false, Bool.not_true, Bool.not_false, Bool.and_true, Bool.true_and, Bool.and_false, Bool.false_and, decide_true, decide_false, Nat.reduceAdd, Nat.reduceMul, Nat.reduceSub, Nat.reduceEqDiff, Nat.reduceLT, Nat.zero_add, Nat.add_zero, Nat.reduceDiv, Nat.reduceMod, cmp_lt, q, iL_1]
      exact C_153z true
    · rw [decide_eq_false q]
      simp (disch := first | exact sR_rfl _ _ rfl | omega) only [q_U_combined, ft_lit, ft_m1, ft_m2, ft_m3, ft_m5, ft_m6, ft_cl, ft_lt, ft_le, ft_eq, ft_mlt, ft_ltm, ft_mltm, ft_meq, ft_eqm, ft_meqm, ft_add, ft_mul, ft_sub, ft_nm, ft_m1p, ft_and, ft_or, ft_31, ft_shl, ft_shr, ft_bz, ft_z0, ft_z1, ft_z01, ft_bb, ft_zt, ft_zf, ft_or0, ft_rv, ft_rvr, ft_rf, ft_rfn, ft_bI, ft_bJ, ft_bV, ft_bR, ft_bRn, ft_isr, ft_isn, ft_ifn, ft_ifr, ft_ov, ft_ovn, ft_in, k_sI, n_sI, R_sI, J_sI, c_sI, z_sI, k_sJ, n_sJ, R_sJ, I_sJ, c_sJ, z_sJ, k_sR, n_sR, I_sR, J_sR, c_sR, z_sR, k_wI, n_wI, R_wI, J_wI, I_wIe, k_wJ, n_wJ, R_wJ, I_wJ, J_wJe, I_wIn, J_wJn, I_sIe, J_sJe, R_sRe, I_sIn, I_sIk, J_sJn, J_sJk, R_sRn, R_sRk, eq_self, if_true, if_false, ↓reduceIte, cond_true, cond_false, ↓cond_eq_ite, and_true, true_and, and_false, false_and, or_true, true_or, or_false, false_or, not_true_eq_false, not_false_eq_true, ft_ltT, ft_ltF, ft_eqT, ft_eqF, Bool.false_eq_true, Bool.true_eq_false, Bool.not_true, Bool.not_false, Bool.and_true, Bool.true_and, Bool.and_false, Bool.false_and, decide_true, decide_false, Nat.reduceAdd, Nat.reduceMul, Nat.reduceSub, Nat.reduceEqDiff, Nat.reduceLT, Nat.zero_add, Nat.add_zero, Nat.reduceDiv, Nat.reduceMod, cmp_lt, q, iL_0]
      exact C_153z false
  · have e3 : h_cb 12 (some a) (some b) = some (zL (decide (a > b))) := rfl
    rw [e3]
    by_cases q : b < a
    · rw [decide_eq_true (show a > b from q)]
      simp (disch := first | exact sR_rfl _ _ rfl | omega) only [q_U_combined, ft_lit, ft_m1, ft_m2, ft_m3, ft_m5, ft_m6, ft_cl, ft_lt, ft_le, ft_eq, ft_mlt, ft_ltm, ft_mltm, ft_meq, ft_eqm, ft_meqm, ft_add, ft_mul, ft_sub, ft_nm, ft_m1p, ft_and, ft_or, ft_31, ft_shl, ft_shr, ft_bz, ft_z0, ft_z1, ft_z01, ft_bb, ft_zt, ft_zf, ft_or0, ft_rv, ft_rvr, ft_rf, ft_rfn, ft_bI, ft_bJ, ft_bV, ft_bR, ft_bRn, ft_isr, ft_isn, ft_ifn, ft_ifr, ft_ov, ft_ovn, ft_in, k_sI, n_sI, R_sI, J_sI, c_sI, z_sI, k_sJ, n_sJ, R_sJ, I_sJ, c_sJ, z_sJ, k_sR, n_sR, I_sR, J_sR, c_sR, z_sR, k_wI, n_wI, R_wI, J_wI, I_wIe, k_wJ, n_wJ, R_wJ, I_wJ, J_wJe, I_wIn, J_wJn, I_sIe, J_sJe, R_sRe, I_sIn, I_sIk, J_sJn, J_sJk, R_sRn, R_sRk, eq_self, if_true, if_false, ↓reduceIte, cond_true, cond_false, ↓cond_eq_ite, and_true, true_and, and_false, false_and, or_true, true_or, or_false, false_or, not_true_eq_false, not_false_eq_true, ft_ltT, ft_ltF, ft_eqT, ft_eqF, Bool.false_eq_true, Bool.true_eq_false, Bool.not_true, Bool.not_false, Bool.and_true, Bool.true_and, Bool.and_false, Bool.false_and, decide_true, decide_false, Nat.reduceAdd, Nat.reduceMul, Nat.reduceSub, Nat.reduceEqDiff, Nat.reduceLT, Nat.zero_add, Nat.add_zero, Nat.reduceDiv, Nat.reduceMod, cmp_gt, q, iL_1]
      exact C_153z true
    · rw [decide_eq_false (show ¬ a > b from q)]
      simp (disch := first | exact sR_rfl _ _ rfl | omega) only [q_U_combined, ft_lit, ft_m1, ft_m2, ft_m3, ft_m5, ft_m6, ft_cl, ft_lt, ft_le, ft_eq, ft_mlt, ft_ltm, ft_mltm, ft_meq, ft_eqm, ft_meqm, ft_add, ft_mul, ft_sub, ft_nm, ft_m1p, ft_and, ft_or, ft_31, ft_shl, ft_shr, ft_bz, ft_z0, ft_z1, ft_z01, ft_bb, ft_zt, ft_zf, ft_or0, ft_rv, ft_rvr, ft_rf, ft_rfn, ft_bI, ft_bJ, ft_bV, ft_bR, ft_bRn, ft_isr, ft_isn, ft_ifn, ft_ifr, ft_ov, ft_ovn, ft_in, k_sI, n_sI, R_sI, J_sI, c_sI, z_sI, k_sJ, n_sJ, R_sJ, I_sJ, c_sJ, z_sJ, k_sR, n_sR, I_sR, J_sR, c_sR, z_sR, k_wI, n_wI, R_wI, J_wI, I_wIe, k_wJ, n_wJ, R_wJ, I_wJ, J_wJe, I_wIn, J_wJn, I_sIe, J_sJe, R_sRe, I_sIn, I_sIk, J_sJn, J_sJk, R_sRn, R_sRk, eq_self, if_true, if_false, ↓reduceIte, cond_true, cond_false, ↓cond_eq_ite, and_true, true_and, and_false, false_and, or_true, true_or, or_false, false_or, not_true_eq_false, not_false_eq_true, ft_ltT, ft_ltF, ft_eqT, ft_eqF, Bool.false_eq_true, Bool.true_eq_false, Bool.not_true, Bool.not_false, Bool.and_true, Bool.true_and, Bool.and_false, Bool.false_and, decide_true, decide_false, Nat.reduceAdd, Nat.reduceMul, Nat.reduceSub, Nat.reduceEqDiff, Nat.reduceLT, Nat.zero_add, Nat.add_zero, Nat.reduceDiv, Nat.reduceMod, cmp_gt, q, iL_0]
      exact C_153z false
  · have e3 : h_cb 13 (some a) (some b) = some (zL (decide (a = b))) := rfl
    rw [e3]
    by_cases q : a = b
    · have e1 : (lg_cmp (iL a) (iL b) = nI 0) = True := by rw [cmp_eq (by omega) (by omega) (by omega) (by omega)]; simp [q]
      rw [decide_eq_true q]
      simp (disch := first | exact sR_rfl _ _ rfl | omega) only [q_U_combined, ft_lit, ft_m1, ft_m2, ft_m3, ft_m5, ft_m6, ft_cl, ft_lt, ft_le, ft_eq, ft_mlt, ft_ltm, ft_mltm, ft_meq, ft_eqm, ft_meqm, ft_add, ft_mul, ft_sub, ft_nm, ft_m1p, ft_and, ft_or, ft_31, ft_shl, ft_shr, ft_bz, ft_z0, ft_z1, ft_z01, ft_bb, ft_zt, ft_zf, ft_or0, ft_rv, ft_rvr, ft_rf, ft_rfn, ft_bI, ft_bJ, ft_bV, ft_bR, ft_bRn, ft_isr, ft_isn, ft_ifn, ft_ifr, ft_ov, ft_ovn, ft_in, k_sI, n_sI, R_sI, J_sI, c_sI, z_sI, k_sJ, n_sJ, R_sJ, I_sJ, c_sJ, z_sJ, k_sR, n_sR, I_sR, J_sR, c_sR, z_sR, k_wI, n_wI, R_wI, J_wI, I_wIe, k_wJ, n_wJ, R_wJ, I_wJ, J_wJe, I_wIn, J_wJn, I_sIe, J_sJe, R_sRe, I_sIn, I_sIk, J_sJn, J_sJk, R_sRn, R_sRk, eq_self, if_true, if_false, ↓reduceIte, cond_true, cond_false, ↓cond_eq_ite, and_true, true_and, and_false, false_and, or_true, true_or, or_false, false_or, not_true_eq_false, not_false_eq_true, ft_ltT, ft_ltF, ft_eqT, ft_eqF, Bool.false_eq_true, Bool.true_eq_false, Bool.not_true, Bool.not_false, Bool.and_true, Bool.true_and, Bool.and_false, Bool.false_and, decide_true, decide_false, Nat.reduceAdd, Nat.reduceMul, Nat.reduceSub, Nat.reduceEqDiff, Nat.reduceLT, Nat.zero_add, Nat.add_zero, Nat.reduceDiv, Nat.reduceMod, e1, iL_1]
      exact C_153z true
    · have e1 : (lg_cmp (iL a) (iL b) = nI 0) = False := by rw [cmp_eq (by omega) (by omega) (by omega) (by omega)]; simp [q]
      rw [decide_eq_false q]
      simp (disch := first | exact sR_rfl _ _ rfl | omega) only [q_U_combined, ft_lit, ft_m1, ft_m2, ft_m3, ft_m5, ft_m6, ft_cl, ft_lt, ft_le, ft_eq, ft_mlt, ft_ltm, ft_mltm, ft_meq, ft_eqm, ft_meqm, ft_add, ft_mul, ft_sub, ft_nm, ft_m1p, ft_and, ft_or, ft_31, ft_shl, ft_shr, ft_bz, ft_z0, ft_z1, ft_z01, ft_bb, ft_zt, ft_zf, ft_or0, ft_rv, ft_rvr, ft_rf, ft_rfn, ft_bI, ft_bJ, ft_bV, ft_bR, ft_bRn, ft_isr, ft_isn, ft_ifn, ft_ifr, ft_ov, ft_ovn, ft_in, k_sI, n_sI, R_sI, J_sI, c_sI, z_sI, k_sJ, n_sJ, R_sJ, I_sJ, c_sJ, z_sJ, k_sR, n_sR, I_sR, J_sR, c_sR, z_sR, k_wI, n_wI, R_wI, J_wI, I_wIe, k_wJ, n_wJ, R_wJ, I_wJ, J_wJe, I_wIn, J_wJn, I_sIe, J_sJe, R_sRe, I_sIn, I_sIk, J_sJn, J_sJk, R_sRn, R_sRk, eq_self, if_true, if_false, ↓reduceIte, cond_true, cond_false, ↓cond_eq_ite, and_true, true_and, and_false, false_and, or_true, true_or, or_false, false_or, not_true_eq_false, not_false_eq_true, ft_ltT, ft_ltF, ft_eqT, ft_eqF, Bool.false_eq_true, Bool.true_eq_false, Bool.not_true, Bool.not_false, Bool.and_true, Bool.true_and, Bool.and_false, Bool.false_and, decide_true, decide_false, Nat.reduceAdd, Nat.reduceMul, Nat.reduceSub, Nat.reduceEqDiff, Nat.reduceLT, Nat.zero_add, Nat.add_zero, Nat.reduceDiv, Nat.reduceMod, e1, iL_0]
      exact C_153z false
theorem C_comb_b {F : Nat × Nat} {h : jH} {op : Nat} {a b : Int} (ho1 : 6 ≤ op) (ho2 : op ≤ 13) (ha1 : -1000000000 ≤ a) (ha2 : a ≤ 1000000000) (hb1 : -1000000000 ≤ b) (hb2 : b ≤ 1000000000) (ff : Int64 → jH → Option jO) : jbJ (m_U_combined F (nI op) (iL a) (iL b) h) ff = ff ((iL ((h_cb op (some a) (some b)).getD BR))) (h) := bJ_of (C_comb (F := F) (h := h) (op := op) (a := a) (b := b) (ho1 := ho1) (ho2 := ho2) (ha1 := ha1) (ha2 := ha2) (hb1 := hb1) (hb2 := hb2)) ff
theorem h_cb_b (op : Nat) (a b : Option Int) : h_bdd (h_cb op a b) := by
  unfold h_cb
  split
  · exact h_cmb_b _ _ _
  · intro v e
    simp only [Option.map_eq_some_iff] at e
    obtain ⟨w, -, rfl⟩ := e
    cases w <;> decide
theorem X_op {F : Nat × Nat} {h : jH} {t p sz ws : Nat} {cd : Nat → Nat} (U : XU h) (X : XT h t p sz cd) {s op : Nat} (A : Xat cd sz s [op]) (ho1 : 6 ≤ op) (ho2 : op ≤ 13) {a b : Int} (ha : -1000000000 ≤ a ∧ a ≤ 1000000000) (hb : -1000000000 ≤ b ∧ b ≤ 1000000000) {top : Nat} (ht : top + 2 ≤ 48) {st : Nat → Int64} (h1 : st top = iL a) (h2 : st (top + 1) = iL b) (f : Nat) : (∀ v, h_cb op (some a) (some b) = some v → Xm F t ws h (f + 1) (top + 2) s st = Xm F t ws h f (top + 1) (s + 1) (va_up st top (iL v))) ∧ (h_cb op (some a) (some b) = none → ∃ st', Xm F t ws h (f + 1) (top + 2) s st = some (some (.long (iL BR)), hW h st')) := by
  obtain ⟨a1, a2⟩ := A.one
  obtain ⟨U1, U2, U3, U4⟩ := U
  obtain ⟨X1, X2, X3, X4, X5, X6, X7, X8⟩ := X
  have c0 := X7 s a1
  have c1 : cd s &&& 31 = op := op31 (v := 0) (by omega) (by omega)
  have c2 : cd s >>> 5 = 0 := op5 (o := op) (by omega) (by omega)
  have c3 := X8 s
  have v1 := fun {h2 : jH} (e : sR h2 h) f => rv_of U2 e f
  have v2 := fun {h2 : jH} (e : sR h2 h) f => rv_of X2 e f
  have cb := C_comb_b (F := F) (h := hW h st) ho1 ho2 ha.1 ha.2 hb.1 hb.2
  have t1 : top + 1 - 1 = top := by omega
  have t2 : top + 2 - 1 = top + 1 := by omega
  have key : Xm F t ws h (f + 1) (top + 2) s st = if lg_cmp (iL ((h_cb op (some a) (some b)).getD BR)) (iL BR) = nI 0 then some (some (.long (iL BR)), hW h (va_up st top (iL ((h_cb op (some a) (some b)).getD BR)))) else Xm F t ws h f (top + 1) (s + 1) (va_up st top (iL ((h_cb op (some a) (some b)).getD BR))) := by
    unfold Xm
    rw [q_U_worth_13]
    simp (disch := first | exact sR_rfl _ _ rfl | omega) only [ft_lit, ft_m1, ft_m2, ft_m3, ft_m5, ft_m6, ft_cl, ft_lt, ft_le, ft_eq, ft_mlt, ft_ltm, ft_mltm, ft_meq, ft_eqm, ft_meqm, ft_add, ft_mul, ft_sub, ft_nm, ft_m1p, ft_and, ft_or, ft_31, ft_shl, ft_shr, ft_bz, ft_z0, ft_z1, ft_z01, ft_bb, ft_zt, ft_zf, ft_or0, ft_rv, ft_rvr, ft_rf, ft_rfn, ft_bI, ft_bJ, ft_bV, ft_bR, ft_bRn, ft_isr, ft_isn, ft_ifn, ft_ifr, ft_ov, ft_ovn, ft_in, k_sI, n_sI, R_sI, J_sI, c_sI, z_sI, k_sJ, n_sJ, R_sJ, I_sJ, c_sJ, z_sJ, k_sR, n_sR, I_sR, J_sR, c_sR, z_sR, k_wI, n_wI, R_wI, J_wI, I_wIe, k_wJ, n_wJ, R_wJ, I_wJ, J_wJe, I_wIn, J_wJn, I_sIe, J_sJe, R_sRe, I_sIn, I_sIk, J_sJn, J_sJk, R_sRn, R_sRk, eq_self, if_true, if_false, ↓reduceIte, cond_true, cond_false, ↓cond_eq_ite, and_true, true_and, and_false, false_and, or_true, true_or, or_false, false_or, not_true_eq_false, not_false_eq_true, ft_ltT, ft_ltF, ft_eqT, ft_eqF, Bool.false_eq_true, Bool.true_eq_false, Bool.not_true, Bool.not_false, Bool.and_true, Bool.true_and, Bool.and_false, Bool.false_and, decide_true, decide_false, Nat.reduceAdd, Nat.reduceMul, Nat.reduceSub, Nat.reduceEqDiff, Nat.reduceLT, Nat.zero_add, Nat.add_zero, Nat.reduceDiv, Nat.reduceMod, hW_k, hW_n, hW_R, hW_I, U1, U2, U3, U4, X1, X2, X3, X6, ↓v1, ↓v2, c0, c1, c2, hW_J, t1, t2, h1, h2, cb, hW_s, va_up_self, iL_br]
    rfl
  constructor
  · intro v hv
    rw [key, hv]
    have hb := h_cb_b op (some a) (some b) v hv
    simp only [Option.getD_some]
    have e1 : (lg_cmp (iL v) (iL BR) = nI 0) = False := by
      unfold BR
      rw [cmp_eq (by omega) (by omega) (by omega) (by omega)]
      simp only [eq_iff_iff, iff_false]
      omega
    rw [if_neg (by rw [e1]; exact id)]
  · intro hv
    rw [key, hv]
    simp only [Option.getD_none]
    have e1 : (lg_cmp (iL BR) (iL BR) = nI 0) = True := by
      unfold BR
      rw [cmp_eq (by omega) (by omega) (by omega) (by omega)]
      simp
    rw [if_pos (by rw [e1]; trivial)]
    exact ⟨_, rfl⟩
