/-! TOKENS: words -/
def mBy : List Nat := [99, 111, 115, 116, 115, 32, 115, 101, 101, 115, 32, 98, 97, 114, 115, 32, 105, 102, 32, 111, 114, 32, 97, 110, 100, 32, 110, 111, 116, 32, 119, 97, 108, 107, 101, 114, 32, 104, 101, 105, 103, 104, 116, 32, 114, 105, 115, 101, 32, 107, 110, 111, 119, 110, 32, 112, 97, 99, 101, 32, 109, 111, 111, 100, 32, 107, 105, 110, 100, 32, 109, 105, 110, 117, 116, 101, 32, 100, 111, 110, 101, 32, 108, 97, 116, 101, 115, 116, 32, 97, 116, 32, 109, 97, 112, 112, 101, 100, 32, 115, 116, 101, 112, 32, 116, 111, 32, 106, 111, 105, 110, 32, 119, 105, 116, 104, 32, 115, 109, 101, 97, 114, 32, 111, 102, 32, 112, 97, 115, 115, 32, 116, 105, 109, 101, 115, 32]
def cBy : List Nat := [99, 111, 115, 116, 115, 32, 115, 101, 101, 115, 32, 98, 97, 114, 115, 32, 105, 102, 32, 111, 114, 32, 97, 110, 100, 32, 110, 111, 116, 32, 119, 97, 108, 107, 101, 114, 32, 107, 105, 110, 100, 32, 104, 101, 105, 103, 104, 116, 32, 114, 105, 115, 101, 32, 107, 110, 111, 119, 110, 32, 112, 97, 99, 101, 32, 109, 105, 110, 117, 116, 101, 32, 109, 111, 111, 100, 32, 115, 116, 101, 112, 32, 106, 111, 105, 110, 32, 115, 109, 101, 97, 114, 32, 112, 97, 115, 115, 32, 116, 111, 32, 119, 105, 116, 104, 32, 111, 102, 32, 116, 105, 109, 101, 115, 32, 100, 111, 110, 101, 32, 108, 97, 116, 101, 115, 116, 32, 97, 116, 32, 109, 97, 112, 112, 101, 100, 32]
def mWs : List (List Nat) := [[99, 111, 115, 116, 115], [115, 101, 101, 115], [98, 97, 114, 115], [105, 102], [111, 114], [97, 110, 100], [110, 111, 116], [119, 97, 108, 107, 101, 114], [104, 101, 105, 103, 104, 116], [114, 105, 115, 101], [107, 110, 111, 119, 110], [112, 97, 99, 101], [109, 111, 111, 100], [107, 105, 110, 100], [109, 105, 110, 117, 116, 101], [100, 111, 110, 101], [108, 97, 116, 101, 115, 116], [97, 116], [109, 97, 112, 112, 101, 100], [115, 116, 101, 112], [116, 111], [106, 111, 105, 110], [119, 105, 116, 104], [115, 109, 101, 97, 114], [111, 102], [112, 97, 115, 115], [116, 105, 109, 101, 115]]
def cWs : List (List Nat) := [[99, 111, 115, 116, 115], [115, 101, 101, 115], [98, 97, 114, 115], [105, 102], [111, 114], [97, 110, 100], [110, 111, 116], [119, 97, 108, 107, 101, 114], [107, 105, 110, 100], [104, 101, 105, 103, 104, 116], [114, 105, 115, 101], [107, 110, 111, 119, 110], [112, 97, 99, 101], [109, 105, 110, 117, 116, 101], [109, 111, 111, 100], [115, 116, 101, 112], [106, 111, 105, 110], [115, 109, 101, 97, 114], [112, 97, 115, 115], [116, 111], [119, 105, 116, 104], [111, 102], [116, 105, 109, 101, 115], [100, 111, 110, 101], [108, 97, 116, 101, 115, 116], [97, 116], [109, 97, 112, 112, 101, 100]]
def mSt : List Nat := [0, 6, 11, 16, 19, 22, 26, 30, 37, 44, 49, 55, 60, 65, 70, 77, 82, 89, 92, 99, 104, 107, 112, 117, 123, 126, 131, 137]
def cSt : List Nat := [0, 6, 11, 16, 19, 22, 26, 30, 37, 42, 49, 54, 60, 65, 72, 77, 82, 87, 93, 98, 101, 106, 109, 115, 120, 127, 130, 137]
def wPi : List Nat := [0, 1, 2, 3, 4, 5, 6, 7, 9, 10, 11, 12, 14, 8, 13, 23, 24, 25, 26, 15, 19, 16, 20, 17, 21, 18, 22]
/-- the bytes fr .. to - 1 -/
def tby (tp : Nat → Nat) (fr to : Nat) : List Nat := (List.range (to - fr)).map (fun i => tp (fr + i))
/-- the first from q on, d of them -/
def wsr (mt : Nat → Bool) : Nat → Nat → Nat
  | 0, q => q
  | d + 1, q => if mt q then q else wsr mt d (q + 1)
def mMt (w : List Nat) (q : Nat) : Bool := w == mWs.getD q []
def cMt (w : List Nat) (q : Nat) : Bool := w == cWs.getD q []
/-- the reference's code of a word -/
def mWc (w : List Nat) : Nat := if wsr (mMt w) 27 0 < 27 then wsr (mMt w) 27 0 + 1 else 0
def cWc (w : List Nat) : Nat := if wsr (cMt w) 27 0 < 27 then 300 + wsr (cMt w) 27 0 else 400
theorem wsr_hit {mt : Nat → Bool} : ∀ d q p, q ≤ p → p < q + d → mt p = true → (∀ x, q ≤ x → x < p → mt x = false) → wsr mt d q = p
  | 0, q, p, h1, h2, _, _ => absurd h2 (by omega)
  | d + 1, q, p, h1, h2, h3, h4 => by
    unfold wsr
    by_cases e : q = p
    · subst e; rw [if_pos h3]
    · rw [if_neg (by rw [h4 q (Nat.le_refl _) (by omega)]; decide)]
      exact wsr_hit d (q + 1) p (by omega) (by omega) h3 (fun x y z => h4 x (by omega) z)
theorem wsr_no {mt : Nat → Bool} : ∀ d q, (∀ x, q ≤ x → x < q + d → mt x = false) → wsr mt d q = q + d
  | 0, q, _ => rfl
  | d + 1, q, h => by
    unfold wsr
    rw [if_neg (by rw [h q (Nat.le_refl _) (by omega)]; decide), wsr_no d (q + 1) (fun x y z => h x (by omega) (by omega))]
    omega
theorem m_nd : ∀ a, a < 27 → ∀ b, b < 27 → mWs.getD a [] = mWs.getD b [] → a = b := by decide +kernel
theorem c_nd : ∀ a, a < 27 → ∀ b, b < 27 → cWs.getD a [] = cWs.getD b [] → a = b := by decide +kernel
theorem w_pi : ∀ a, a < 27 → mWs.getD a [] = cWs.getD (wPi.getD a 0) [] ∧ wPi.getD a 0 < 27 ∧ gC (a + 1) = 300 + wPi.getD a 0 := by decide +kernel
theorem w_in : ∀ b, b < 27 → ∃ a, a < 27 ∧ wPi.getD a 0 = b := by decide +kernel
/-- the two searches find the same word -/
theorem wc_eq (w : List Nat) : gC (mWc w) = cWc w := by
  by_cases h : ∃ a, a < 27 ∧ mMt w a = true
  · obtain ⟨a, ha, he⟩ := h
    have hw : w = mWs.getD a [] := by unfold mMt at he; simpa using he
    have p := w_pi a ha
    have r1 : wsr (mMt w) 27 0 = a := wsr_hit 27 0 a (by omega) (by omega) he (fun x _ hx => by
      cases hb : mMt w x with
      | false => rfl
      | true =>
        have : w = mWs.getD x [] := by unfold mMt at hb; simpa using hb
        have := m_nd x (by omega) a ha (by rw [← this, ← hw])
        omega)
    have r2 : wsr (cMt w) 27 0 = wPi.getD a 0 := wsr_hit 27 0 _ (by omega) (by omega) (by unfold cMt; rw [hw, p.1]; simp) (fun x _ hx => by
      cases hb : cMt w x with
      | false => rfl
      | true =>
        have : w = cWs.getD x [] := by unfold cMt at hb; simpa using hb
        have := c_nd x (by omega) (wPi.getD a 0) p.2.1 (by rw [← this, hw, p.1])
        omega)
    unfold mWc cWc
    rw [r1, r2, if_pos ha, if_pos p.2.1]
    exact p.2.2
  · have n1 : ∀ a, a < 27 → mMt w a = false := fun a ha => by
      cases hb : mMt w a with
      | false => rfl
      | true => exact absurd ⟨a, ha, hb⟩ h
    have n2 : ∀ b, b < 27 → cMt w b = false := fun b hb => by
      obtain ⟨a, ha, e⟩ := w_in b hb
      have := n1 a ha
      unfold mMt at this
      unfold cMt
      rw [← e, ← (w_pi a ha).1]
      exact this
    unfold mWc cWc
    rw [wsr_no 27 0 (fun x _ hx => n1 x (by omega)), wsr_no 27 0 (fun x _ hx => n2 x (by omega))]
    decide
theorem tby_len (tp : Nat → Nat) (fr to : Nat) : (tby tp fr to).length = to - fr := by unfold tby; simp
theorem tby_eq {tp : Nat → Nat} {fr to : Nat} {w : List Nat} : tby tp fr to = w ↔ to - fr = w.length ∧ ∀ i, i < w.length → tp (fr + i) = w.getD i 0 := by
  constructor
  · intro e
    subst e
    rw [tby_len]
    refine ⟨rfl, fun i hi => ?_⟩
    unfold tby
    simp [hi]
  · rintro ⟨h1, h2⟩
    apply List.ext_getElem?
    intro i
    unfold tby
    by_cases hi : i < w.length
    · have := h2 i hi
      rw [List.getD_eq_getElem?_getD, List.getElem?_eq_getElem hi] at this
      simp only [Option.getD_some] at this
      rw [List.getElem?_eq_getElem hi]
      simp [h1, hi, this]
    · rw [List.getElem?_eq_none (by omega : w.length ≤ i)]
      simp
      omega
/-- the reference's table, word by word -/
theorem m_tab : ∀ q, q < 27 → mSt.getD q 0 + (mWs.getD q []).length < 137 ∧ mBy.getD (mSt.getD q 0 + (mWs.getD q []).length) 0 = 32 ∧ (∀ i, i < (mWs.getD q []).length → mBy.getD (mSt.getD q 0 + i) 0 = (mWs.getD q []).getD i 0 ∧ (mWs.getD q []).getD i 0 ≠ 32) ∧ mSt.getD (q + 1) 0 = mSt.getD q 0 + ((mWs.getD q []).length + 1) ∧ (mWs.getD q []).length < 10 ∧ mSt.getD q 0 < 137 := by decide +kernel
theorem m_by : ∀ i, i < 137 → mBy.getD i 0 < 128 := by decide +kernel
/-- the reference's tape and words -/
def WM (h : jH) : Prop := ∀ i, i < 137 → j_I h 91 i = nI (mBy.getD i 0)
theorem M_w57 {F : Nat × Nat} {h : jH} (S : ShM h) (W : WM h) {tp : Nat → Nat} {fr to q : Nat} (hq : q < 27) (ht : to ≤ 400) (hf : fr ≤ to) (hb : ∀ i, fr ≤ i → i < to → j_I h 92 i = nI (tp i) ∧ tp i < 256) (k5 : Nat → Int32 → Int32 → Int32 → Int32 → jH → Option jO) (hle : to - fr = (mWs.getD q []).length) : ∀ d i f (sm : Bool), i + d = (mWs.getD q []).length → d < f → (sm = true ↔ ∀ x, x < i → tp (fr + x) = (mWs.getD q []).getD x 0) → m_M_wordOf_57 F k5 f 85 (nI fr) (nI to) (nI (q + 1)) (nI (mSt.getD q 0)) (nI (mWs.getD q []).length) (nI (ft_z sm)) (nI i) h = if mMt (tby tp fr to) q then some (some (.int (nI (q + 1))), h) else k5 85 (nI fr) (nI to) (nI (q + 1 + 1)) (nI (mSt.getD (q + 1) 0)) h
  | d, i, 0, sm, e, hf, hs => absurd hf (by omega)
  | 0, i, f + 1, sm, e, _, hs => by
    have tb := m_tab q hq
    have hm : mMt (tby tp fr to) q = sm := by
      unfold mMt
      rw [Bool.eq_iff_iff, beq_iff_eq, tby_eq, hs]
      constructor
      · intro z x hx; exact z.2 x (by omega)
      · intro z; exact ⟨hle, fun x hx => z x (by omega)⟩
    rw [hm]
    cases sm
    · simp (disch := first | exact sR_rfl _ _ rfl | omega) only [q_M_wordOf_57, ft_lit, ft_m1, ft_m2, ft_m3, ft_m5, ft_m6, ft_cl, ft_lt, ft_le, ft_eq, ft_mlt, ft_ltm, ft_mltm, ft_meq, ft_eqm, ft_meqm, ft_add, ft_mul, ft_sub, ft_nm, ft_m1p, ft_and, ft_or, ft_31, ft_shl, ft_shr, ft_bz, ft_z0, ft_z1, ft_z01, ft_bb, ft_zt, ft_zf, ft_or0, ft_rv, ft_rvr, ft_rf, ft_rfn, ft_bI, ft_bJ, ft_bV, ft_bR, ft_bRn, ft_isr, ft_isn, ft_ifn, ft_ifr, ft_ov, ft_ovn, ft_in, k_sI, n_sI, R_sI, J_sI, c_sI, z_sI, k_sJ, n_sJ, R_sJ, I_sJ, c_sJ, z_sJ, k_sR, n_sR, I_sR, J_sR, c_sR, z_sR, k_wI, n_wI, R_wI, J_wI, I_wIe, k_wJ, n_wJ, R_wJ, I_wJ, J_wJe, I_wIn, J_wJn, I_sIe, J_sJe, R_sRe, I_sIn, I_sIk, J_sJn, J_sJk, R_sRn, R_sRk, eq_self, if_true, if_false, ↓reduceIte, cond_true, cond_false, ↓cond_eq_ite, and_true, true_and, and_false, false_and, or_true, true_or, or_false, false_or, not_true_eq_false, not_false_eq_true, ft_ltT, ft_ltF, ft_eqT, ft_eqF, Bool.false_eq_true, Bool.true_eq_false, Bool.not_true, Bool.not_false, Bool.and_true, Bool.true_and, Bool.and_false, Bool.false_and, decide_true, decide_false, Nat.reduceAdd, Nat.reduceMul, Nat.reduceSub, Nat.reduceEqDiff, Nat.reduceLT, Nat.zero_add, Nat.add_zero, Nat.reduceDiv, Nat.reduceMod]
      rw [tb.2.2.2.1]
    · simp (disch := first | exact sR_rfl _ _ rfl | omega) only [q_M_wordOf_57, ft_lit, ft_m1, ft_m2, ft_m3, ft_m5, ft_m6, ft_cl, ft_lt, ft_le, ft_eq, ft_mlt, ft_ltm, ft_mltm, ft_meq, ft_eqm, ft_meqm, ft_add, ft_mul, ft_sub, ft_nm, ft_m1p, ft_and, ft_or, ft_31, ft_shl, ft_shr, ft_bz, ft_z0, ft_z1, ft_z01, ft_bb, ft_zt, ft_zf, ft_or0, ft_rv, ft_rvr, ft_rf, ft_rfn, ft_bI, ft_bJ, ft_bV, ft_bR, ft_bRn, ft_isr, ft_isn, ft_ifn, ft_ifr, ft_ov, ft_ovn, ft_in, k_sI, n_sI, R_sI, J_sI, c_sI, z_sI, k_sJ, n_sJ, R_sJ, I_sJ, c_sJ, z_sJ, k_sR, n_sR, I_sR, J_sR, c_sR, z_sR, k_wI, n_wI, R_wI, J_wI, I_wIe, k_wJ, n_wJ, R_wJ, I_wJ, J_wJe, I_wIn, J_wJn, I_sIe, J_sJe, R_sRe, I_sIn, I_sIk, J_sJn, J_sJk, R_sRn, R_sRk, eq_self, if_true, if_false, ↓reduceIte, cond_true, cond_false, ↓cond_eq_ite, and_true, true_and, and_false, false_and, or_true, true_or, or_false, false_or, not_true_eq_false, not_false_eq_true, ft_ltT, ft_ltF, ft_eqT, ft_eqF, Bool.false_eq_true, Bool.true_eq_false, Bool.not_true, Bool.not_false, Bool.and_true, Bool.true_and, Bool.and_false, Bool.false_and, decide_true, decide_false, Nat.reduceAdd, Nat.reduceMul, Nat.reduceSub, Nat.reduceEqDiff, Nat.reduceLT, Nat.zero_add, Nat.add_zero, Nat.reduceDiv, Nat.reduceMod]
  | d + 1, i, f + 1, sm, e, hff, hs => by
    have tb := m_tab q hq
    cases sm
    · have hm : mMt (tby tp fr to) q = false := by
        cases hb : mMt (tby tp fr to) q with
        | false => rfl
        | true =>
          unfold mMt at hb
          rw [beq_iff_eq, tby_eq] at hb
          have := hs.mpr (fun x hx => hb.2 x (by omega))
          cases this
      rw [hm]
      simp (disch := first | exact sR_rfl _ _ rfl | omega) only [q_M_wordOf_57, ft_lit, ft_m1, ft_m2, ft_m3, ft_m5, ft_m6, ft_cl, ft_lt, ft_le, ft_eq, ft_mlt, ft_ltm, ft_mltm, ft_meq, ft_eqm, ft_meqm, ft_add, ft_mul, ft_sub, ft_nm, ft_m1p, ft_and, ft_or, ft_31, ft_shl, ft_shr, ft_bz, ft_z0, ft_z1, ft_z01, ft_bb, ft_zt, ft_zf, ft_or0, ft_rv, ft_rvr, ft_rf, ft_rfn, ft_bI, ft_bJ, ft_bV, ft_bR, ft_bRn, ft_isr, ft_isn, ft_ifn, ft_ifr, ft_ov, ft_ovn, ft_in, k_sI, n_sI, R_sI, J_sI, c_sI, z_sI, k_sJ, n_sJ, R_sJ, I_sJ, c_sJ, z_sJ, k_sR, n_sR, I_sR, J_sR, c_sR, z_sR, k_wI, n_wI, R_wI, J_wI, I_wIe, k_wJ, n_wJ, R_wJ, I_wJ, J_wJe, I_wIn, J_wJn, I_sIe, J_sJe, R_sRe, I_sIn, I_sIk, J_sJn, J_sJk, R_sRn, R_sRk, eq_self, if_true, if_false, ↓reduceIte, cond_true, cond_false, ↓cond_eq_ite, and_true, true_and, and_false, false_and, or_true, true_or, or_false, false_or, not_true_eq_false, not_false_eq_true, ft_ltT, ft_ltF, ft_eqT, ft_eqF, Bool.false_eq_true, Bool.true_eq_false, Bool.not_true, Bool.not_false, Bool.and_true, Bool.true_and, Bool.and_false, Bool.false_and, decide_true, decide_false, Nat.reduceAdd, Nat.reduceMul, Nat.reduceSub, Nat.reduceEqDiff, Nat.reduceLT, Nat.zero_add, Nat.add_zero, Nat.reduceDiv, Nat.reduceMod]
      rw [tb.2.2.2.1]
    · have h1 := W (mSt.getD q 0 + i) (by omega)
      have h2 := hb (fr + i) (by omega) (by omega)
      have h3 := (tb.2.2.1 i (by omega)).1
      have h4 := m_by (mSt.getD q 0 + i) (by omega)
      rw [h3] at h1 h4
      have h5 := h2.2
      have h6 := h2.1
      have hall := hs.mp rfl
      by_cases w : tp (fr + i) = (mWs.getD q []).getD i 0
      · have ih := M_w57 (F := F) S W hq ht hf hb k5 hle d (i + 1) f true (by omega) (by omega) ⟨fun _ x hx => by
          rcases Nat.lt_or_ge x i with y | y
          · exact hall x y
          · have : x = i := by omega
            rw [this]; exact w, fun _ => rfl⟩
        rw [← ih]
        have w' : (mWs.getD q []).getD i 0 = tp (fr + i) := w.symm
        simp (disch := first | exact sR_rfl _ _ rfl | omega) only [q_M_wordOf_57, ft_lit, ft_m1, ft_m2, ft_m3, ft_m5, ft_m6, ft_cl, ft_lt, ft_le, ft_eq, ft_mlt, ft_ltm, ft_mltm, ft_meq, ft_eqm, ft_meqm, ft_add, ft_mul, ft_sub, ft_nm, ft_m1p, ft_and, ft_or, ft_31, ft_shl, ft_shr, ft_bz, ft_z0, ft_z1, ft_z01, ft_bb, ft_zt, ft_zf, ft_or0, ft_rv, ft_rvr, ft_rf, ft_rfn, ft_bI, ft_bJ, ft_bV, ft_bR, ft_bRn, ft_isr, ft_isn, ft_ifn, ft_ifr, ft_ov, ft_ovn, ft_in, k_sI, n_sI, R_sI, J_sI, c_sI, z_sI, k_sJ, n_sJ, R_sJ, I_sJ, c_sJ, z_sJ, k_sR, n_sR, I_sR, J_sR, c_sR, z_sR, k_wI, n_wI, R_wI, J_wI, I_wIe, k_wJ, n_wJ, R_wJ, I_wJ, J_wJe, I_wIn, J_wJn, I_sIe, J_sJe, R_sRe, I_sIn, I_sIk, J_sJn, J_sJk, R_sRn, R_sRk, eq_self, if_true, if_false, ↓reduceIte, cond_true, cond_false, ↓cond_eq_ite, and_true, true_and, and_false, false_and, or_true, true_or, or_false, false_or, not_true_eq_false, not_false_eq_true, ft_ltT, ft_ltF, ft_eqT, ft_eqF, Bool.false_eq_true, Bool.true_eq_false, Bool.not_true, Bool.not_false, Bool.and_true, Bool.true_and, Bool.and_false, Bool.false_and, decide_true, decide_false, Nat.reduceAdd, Nat.reduceMul, Nat.reduceSub, Nat.reduceEqDiff, Nat.reduceLT, Nat.zero_add, Nat.add_zero, Nat.reduceDiv, Nat.reduceMod, sm_k85 S, sm_R85_1 S, ↓sm_v85_1 S, sm_R85_2 S, ↓sm_v85_2 S, sm_R85_3 S, ↓sm_v85_3 S, sm_R85_4 S, ↓sm_v85_4 S, sm_R85_5 S, ↓sm_v85_5 S, sm_R85_7 S, ↓sm_v85_7 S, sm_R85_11 S, ↓sm_v85_11 S, sm_R85_12 S, ↓sm_v85_12 S, sm_R85_15 S, ↓sm_v85_15 S, sm_R85_16 S, ↓sm_v85_16 S, sm_R85_17 S, ↓sm_v85_17 S, sm_R85_26 S, ↓sm_v85_26 S, sm_R85_29 S, ↓sm_v85_29 S, sm_R85_30 S, ↓sm_v85_30 S, sm_R85_32 S, ↓sm_v85_32 S, sm_R85_33 S, ↓sm_v85_33 S, sm_R85_34 S, ↓sm_v85_34 S, sm_R85_35 S, ↓sm_v85_35 S, sm_R85_36 S, ↓sm_v85_36 S, sm_R85_37 S, ↓sm_v85_37 S, sm_R85_38 S, ↓sm_v85_38 S, sm_R85_40 S, ↓sm_v85_40 S, sm_R85_41 S, ↓sm_v85_41 S, sm_R85_48 S, ↓sm_v85_48 S, sm_R85_49 S, ↓sm_v85_49 S, sm_k86 S, sm_n86 S, sm_k87 S, sm_n87 S, sm_k88 S, sm_n88 S, sm_k89 S, sm_n89 S, sm_k90 S, sm_n90 S, sm_k91 S, sm_n91 S, sm_k92 S, sm_n92 S, sm_k93 S, sm_n93 S, sm_k94 S, sm_n94 S, sm_k95 S, sm_n95 S, sm_k96 S, sm_n96 S, sm_k97 S, sm_n97 S, sm_k98 S, sm_n98 S, sm_k99 S, sm_n99 S, sm_k100 S, sm_n100 S, sm_k101 S, sm_n101 S, sm_k102 S, sm_n102 S, sm_k103 S, sm_n103 S, sm_k104 S, sm_n104 S, sm_k105 S, sm_n105 S, sm_k106 S, sm_n106 S, sm_k107 S, sm_n107 S, sm_k108 S, sm_n108 S, sm_k109 S, sm_n109 S, sm_k110 S, sm_n110 S, h1, h6, w']
      · have ih := M_w57 (F := F) S W hq ht hf hb k5 hle d (i + 1) f false (by omega) (by omega) ⟨fun z => (nomatch z), fun z => absurd (z i (by omega)) w⟩
        rw [← ih]
        have w' : ¬ (mWs.getD q []).getD i 0 = tp (fr + i) := fun z => w z.symm
        simp (disch := first | exact sR_rfl _ _ rfl | omega) only [q_M_wordOf_57, ft_lit, ft_m1, ft_m2, ft_m3, ft_m5, ft_m6, ft_cl, ft_lt, ft_le, ft_eq, ft_mlt, ft_ltm, ft_mltm, ft_meq, ft_eqm, ft_meqm, ft_add, ft_mul, ft_sub, ft_nm, ft_m1p, ft_and, ft_or, ft_31, ft_shl, ft_shr, ft_bz, ft_z0, ft_z1, ft_z01, ft_bb, ft_zt, ft_zf, ft_or0, ft_rv, ft_rvr, ft_rf, ft_rfn, ft_bI, ft_bJ, ft_bV, ft_bR, ft_bRn, ft_isr, ft_isn, ft_ifn, ft_ifr, ft_ov, ft_ovn, ft_in, k_sI, n_sI, R_sI, J_sI, c_sI, z_sI, k_sJ, n_sJ, R_sJ, I_sJ, c_sJ, z_sJ, k_sR, n_sR, I_sR, J_sR, c_sR, z_sR, k_wI, n_wI, R_wI, J_wI, I_wIe, k_wJ, n_wJ, R_wJ, I_wJ, J_wJe, I_wIn, J_wJn, I_sIe, J_sJe, R_sRe, I_sIn, I_sIk, J_sJn, J_sJk, R_sRn, R_sRk, eq_self, if_true, if_false, ↓reduceIte, cond_true, cond_false, ↓cond_eq_ite, and_true, true_and, and_false, false_and, or_true, true_or, or_false, false_or, not_true_eq_false, not_false_eq_true, ft_ltT, ft_ltF, ft_eqT, ft_eqF, Bool.false_eq_true, Bool.true_eq_false, Bool.not_true, Bool.not_false, Bool.and_true, Bool.true_and, Bool.and_false, Bool.false_and, decide_true, decide_false, Nat.reduceAdd, Nat.reduceMul, Nat.reduceSub, Nat.reduceEqDiff, Nat.reduceLT, Nat.zero_add, Nat.add_zero, Nat.reduceDiv, Nat.reduceMod, sm_k85 S, sm_R85_1 S, ↓sm_v85_1 S, sm_R85_2 S, ↓sm_v85_2 S, sm_R85_3 S, ↓sm_v85_3 S, sm_R85_4 S, ↓sm_v85_4 S, sm_R85_5 S, ↓sm_v85_5 S, sm_R85_7 S, ↓sm_v85_7 S, sm_R85_11 S, ↓sm_v85_11 S, sm_R85_12 S, ↓sm_v85_12 S, sm_R85_15 S, ↓sm_v85_15 S, sm_R85_16 S, ↓sm_v85_16 S, sm_R85_17 S, ↓sm_v85_17 S, sm_R85_26 S, ↓sm_v85_26 S, sm_R85_29 S, ↓sm_v85_29 S, sm_R85_30 S, ↓sm_v85_30 S, sm_R85_32 S, ↓sm_v85_32 S, sm_R85_33 S, ↓sm_v85_33 S, sm_R85_34 S, ↓sm_v85_34 S, sm_R85_35 S, ↓sm_v85_35 S, sm_R85_36 S, ↓sm_v85_36 S, sm_R85_37 S, ↓sm_v85_37 S, sm_R85_38 S, ↓sm_v85_38 S, sm_R85_40 S, ↓sm_v85_40 S, sm_R85_41 S, ↓sm_v85_41 S, sm_R85_48 S, ↓sm_v85_48 S, sm_R85_49 S, ↓sm_v85_49 S, sm_k86 S, sm_n86 S, sm_k87 S, sm_n87 S, sm_k88 S, sm_n88 S, sm_k89 S, sm_n89 S, sm_k90 S, sm_n90 S, sm_k91 S, sm_n91 S, sm_k92 S, sm_n92 S, sm_k93 S, sm_n93 S, sm_k94 S, sm_n94 S, sm_k95 S, sm_n95 S, sm_k96 S, sm_n96 S, sm_k97 S, sm_n97 S, sm_k98 S, sm_n98 S, sm_k99 S, sm_n99 S, sm_k100 S, sm_n100 S, sm_k101 S, sm_n101 S, sm_k102 S, sm_n102 S, sm_k103 S, sm_n103 S, sm_k104 S, sm_n104 S, sm_k105 S, sm_n105 S, sm_k106 S, sm_n106 S, sm_k107 S, sm_n107 S, sm_k108 S, sm_n108 S, sm_k109 S, sm_n109 S, sm_k110 S, sm_n110 S, h1, h6, w']
