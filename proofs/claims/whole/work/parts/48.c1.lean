/-! THE CLASS READS: heap, tokens, single steps -/
/-- the class's code of a token -/
def gC (c : Nat) : Nat := if 100 ≤ c then c - 100 else if c = 50 then 401 else ([400, 300, 301, 302, 303, 304, 305, 306, 307, 309, 310, 311, 312, 314, 308, 313, 323, 324, 325, 326, 315, 319, 316, 320, 317, 321, 318, 322] : List Nat).getD c 403
def ctab : List (Nat × Nat) := [(91, 191), (93, 193), (40, 140), (41, 141), (42, 142), (47, 147), (37, 137), (43, 143), (45, 145), (60, 160), (62, 162), (61, 161), (59, 159), (401, 50), (300, 1), (301, 2), (302, 3), (303, 4), (304, 5), (305, 6), (306, 7), (307, 8), (308, 14), (309, 9), (310, 10), (311, 11), (312, 12), (313, 15), (314, 13), (315, 20), (316, 22), (317, 24), (318, 26), (319, 21), (320, 23), (321, 25), (322, 27), (323, 16), (324, 17), (325, 18), (326, 19)]
set_option maxRecDepth 100000 in
theorem gC_tab : ∀ q ∈ ctab, ∀ c, c < 356 → (gC c = q.1 ↔ c = q.2) := by decide +kernel
theorem ctab_0 : ∀ q ∈ ctab, q.1 ≠ 402 ∧ q.2 ≠ 0 := by decide
/-- tokens of the class beside those of the reference -/
def CT (h : jH) (T : Tk) (ct vt pl : Nat → Nat) (n : Nat) : Prop := (∀ i, i ≤ n → j_I h 69 i = nI (pl i) ∧ j_I h 70 i = nI (ct i) ∧ j_I h 71 i = nI (vt i)) ∧ n ≤ 400 ∧ T.1 n = 0 ∧ ct n = 402 ∧ (∀ i, i < n → ct i = gC (T.1 i)) ∧ (∀ i, T.1 i < 356) ∧ (∀ i, ct i < 1000 ∧ vt i < 100000 ∧ pl i < 1000) ∧ ∀ i, T.1 i = 50 → (T.2 i ≤ 1000 → vt i = T.2 i) ∧ (1000 < T.2 i → 1000 < vt i)
theorem CT.eq {h : jH} {T : Tk} {ct vt pl : Nat → Nat} {n : Nat} (C : CT h T ct vt pl n) {t : Nat} (ht : t ≤ n) (a b : Nat) (hab : (a, b) ∈ ctab) : (ct t = a) = (T.1 t = b) := by
  obtain ⟨C1, C2, C3, C4, C5, C6, C7, C8⟩ := C
  have z := ctab_0 _ hab
  rcases Nat.lt_or_ge t n with q | q
  · rw [C5 t q]
    exact propext (gC_tab _ hab _ (C6 t))
  · have : t = n := by omega
    rw [this, C4, C3]
    apply propext
    constructor
    · intro e; exact absurd e.symm z.1
    · intro e; exact absurd e.symm z.2
/-- the reader while it reads: token t, parts l, size sz, the code row -/
def hC (h : jH) (ct vt : Nat → Nat) (t l sz : Nat) (code : Nat → Int32) : jH := j_wI (j_wI (j_wI h 60 (fun i => if i = 7 then nI t else if i = 8 then nI (ct t) else if i = 9 then nI (vt t) else if i = 10 then nI l else j_I h 60 i)) 62 (fun i => if i = 6 then nI sz else j_I h 62 i)) 63 code
theorem hC_k (h : jH) (ct vt : Nat → Nat) (t l sz : Nat) (code : Nat → Int32) (a : Nat) : j_k (hC h ct vt t l sz code) a = j_k h a := rfl
theorem hC_n (h : jH) (ct vt : Nat → Nat) (t l sz : Nat) (code : Nat → Int32) (a : Nat) : j_n (hC h ct vt t l sz code) a = j_n h a := rfl
theorem hC_R (h : jH) (ct vt : Nat → Nat) (t l sz : Nat) (code : Nat → Int32) (a i : Nat) : j_R (hC h ct vt t l sz code) a i = j_R h a i := rfl
theorem hC_I {h : jH} {ct vt : Nat → Nat} {t l sz : Nat} {code : Nat → Int32} {a i : Nat} (e : a < 60 ∨ a = 61 ∨ 63 < a) : j_I (hC h ct vt t l sz code) a i = j_I h a i := by
  unfold hC
  rw [I_wIn (by omega), I_wIn (by omega), I_wIn (by omega)]
theorem hC_63 (h : jH) (ct vt : Nat → Nat) (t l sz : Nat) (code : Nat → Int32) (i : Nat) : j_I (hC h ct vt t l sz code) 63 i = code i := by
  unfold hC
  rw [I_wIe]
theorem hC_6 (h : jH) (ct vt : Nat → Nat) (t l sz : Nat) (code : Nat → Int32) : j_I (hC h ct vt t l sz code) 62 6 = nI sz := by
  unfold hC
  rw [I_wIn (by omega), I_wIe]
  rfl
theorem hC_7 (h : jH) (ct vt : Nat → Nat) (t l sz : Nat) (code : Nat → Int32) : j_I (hC h ct vt t l sz code) 60 7 = nI t := by
  unfold hC
  rw [I_wIn (by omega), I_wIn (by omega), I_wIe]
  rfl
theorem hC_8 (h : jH) (ct vt : Nat → Nat) (t l sz : Nat) (code : Nat → Int32) : j_I (hC h ct vt t l sz code) 60 8 = nI (ct t) := by
  unfold hC
  rw [I_wIn (by omega), I_wIn (by omega), I_wIe]
  rfl
theorem hC_9 (h : jH) (ct vt : Nat → Nat) (t l sz : Nat) (code : Nat → Int32) : j_I (hC h ct vt t l sz code) 60 9 = nI (vt t) := by
  unfold hC
  rw [I_wIn (by omega), I_wIn (by omega), I_wIe]
  rfl
theorem hC_10 (h : jH) (ct vt : Nat → Nat) (t l sz : Nat) (code : Nat → Int32) : j_I (hC h ct vt t l sz code) 60 10 = nI l := by
  unfold hC
  rw [I_wIn (by omega), I_wIn (by omega), I_wIe]
  rfl
theorem hC_o {h : jH} {ct vt : Nat → Nat} {t l sz : Nat} {code : Nat → Int32} {i : Nat} (e : i < 7 ∨ 10 < i) : j_I (hC h ct vt t l sz code) 60 i = j_I h 60 i := by
  unfold hC
  rw [I_wIn (by omega), I_wIn (by omega), I_wIe, if_neg (by omega), if_neg (by omega), if_neg (by omega), if_neg (by omega)]
theorem hC_62 {h : jH} {ct vt : Nat → Nat} {t l sz : Nat} {code : Nat → Int32} {i : Nat} (e : i ≠ 6) : j_I (hC h ct vt t l sz code) 62 i = j_I h 62 i := by
  unfold hC
  rw [I_wIn (by omega), I_wIe, if_neg e]
/-- two heaps alike -/
theorem heq_of {h h' : jH} (e1 : h'.1 = h.1) (e2 : h'.2.2 = h.2.2) (e3 : ∀ a i, j_I h' a i = j_I h a i) : h' = h := by
  obtain ⟨a, b, c⟩ := h
  obtain ⟨a', b', c'⟩ := h'
  simp only at e1 e2
  subst e1 e2
  have : b' = b := by
    funext x y
    exact e3 x y
  rw [this]
theorem hC_s10 {h : jH} {ct vt : Nat → Nat} {t l sz u : Nat} {code : Nat → Int32} : j_sI (hC h ct vt t l sz code) 60 10 (nI u) = hC h ct vt t u sz code := by
  refine heq_of (by rfl) (by rfl) ?_
  intro a i
  by_cases ha : a = 60
  · subst ha
    by_cases hi : i = 10
    · subst hi; rw [I_sIe, hC_10]
    · rw [I_sIk hi]
      unfold hC
      rw [I_wIn (by omega), I_wIn (by omega), I_wIe, I_wIn (by omega), I_wIn (by omega), I_wIe]
      simp [hi]
  · rw [I_sIn ha]
    unfold hC
    by_cases h3 : a = 63
    · subst h3; rw [I_wIe, I_wIe]
    · by_cases h2 : a = 62
      · subst h2; rw [I_wIn (by omega), I_wIe, I_wIn (by omega), I_wIe]
      · rw [I_wIn h3, I_wIn h2, I_wIn ha, I_wIn h3, I_wIn h2, I_wIn ha]
theorem hC_sc {h : jH} {ct vt : Nat → Nat} {t l sz k : Nat} {code : Nat → Int32} {x : Int32} : j_sI (hC h ct vt t l sz code) 63 k x = hC h ct vt t l sz (va_up code k x) := by
  unfold hC
  apply wI_s
  intro i
  rfl
theorem hC_s6 {h : jH} {ct vt : Nat → Nat} {t l sz u : Nat} {code : Nat → Int32} : j_sI (hC h ct vt t l sz code) 62 6 (nI u) = hC h ct vt t l u code := by
  refine heq_of (by rfl) (by rfl) ?_
  intro a i
  by_cases ha : a = 62
  · subst ha
    by_cases hi : i = 6
    · subst hi; rw [I_sIe, hC_6]
    · rw [I_sIk hi, hC_62 hi, hC_62 hi]
  · rw [I_sIn ha]
    unfold hC
    by_cases h3 : a = 63
    · subst h3; rw [I_wIe, I_wIe]
    · rw [I_wIn h3, I_wIn ha, I_wIn h3, I_wIn ha]
theorem hC_st {h : jH} {ct vt : Nat → Nat} {t l sz u : Nat} {code : Nat → Int32} : j_sI (j_sI (j_sI (hC h ct vt t l sz code) 60 7 (nI u)) 60 8 (nI (ct u))) 60 9 (nI (vt u)) = hC h ct vt u l sz code := by
  refine heq_of (by rfl) (by rfl) ?_
  intro a i
  by_cases ha : a = 60
  · subst ha
    by_cases h9 : i = 9
    · subst h9; rw [I_sIe, hC_9]
    · rw [I_sIk h9]
      by_cases h8 : i = 8
      · subst h8; rw [I_sIe, hC_8]
      · rw [I_sIk h8]
        by_cases h7 : i = 7
        · subst h7; rw [I_sIe, hC_7]
        · rw [I_sIk h7]
          unfold hC
          rw [I_wIn (by omega), I_wIn (by omega), I_wIe, I_wIn (by omega), I_wIn (by omega), I_wIe]
          simp [h7, h8, h9]
  · rw [I_sIn ha, I_sIn ha, I_sIn ha]
    unfold hC
    by_cases h3 : a = 63
    · subst h3; rw [I_wIe, I_wIe]
    · by_cases h2 : a = 62
      · subst h2; rw [I_wIn (by omega), I_wIe, I_wIn (by omega), I_wIe]
      · rw [I_wIn h3, I_wIn h2, I_wIn ha, I_wIn h3, I_wIn h2, I_wIn ha]
/-- the reader's own cells -/
def ShP (h : jH) : Prop := j_k h 60 = 13 ∧ j_R h 60 3 = some 62 ∧ j_R h 60 4 = some 69 ∧ j_R h 60 5 = some 70 ∧ j_R h 60 6 = some 71 ∧ j_k h 62 = 15 ∧ j_R h 62 0 = some 63 ∧ j_k h 63 = 0 ∧ j_n h 63 = 480 ∧ j_k h 69 = 0 ∧ j_n h 69 = 401 ∧ j_k h 70 = 0 ∧ j_n h 70 = 401 ∧ j_k h 71 = 0 ∧ j_n h 71 = 401
theorem ShF.P {h : jH} (S : ShF h) : ShP h := ⟨sf_k60 S, sf_R60_3 S, sf_R60_4 S, sf_R60_5 S, sf_R60_6 S, sf_k62 S, sf_R62_0 S, sf_k63 S, sf_n63 S, sf_k69 S, sf_n69 S, sf_k70 S, sf_n70 S, sf_k71 S, sf_n71 S⟩
theorem sp_3 {h : jH} (S : ShP h) {h2 : jH} (e : sR h2 h) (f : Nat → Option jO) : j_rv (va_rf (j_R h2 60 3)) f = f 62 := rv_of S.2.1 e f
theorem sp_4 {h : jH} (S : ShP h) {h2 : jH} (e : sR h2 h) (f : Nat → Option jO) : j_rv (va_rf (j_R h2 60 4)) f = f 69 := rv_of S.2.2.1 e f
theorem sp_5 {h : jH} (S : ShP h) {h2 : jH} (e : sR h2 h) (f : Nat → Option jO) : j_rv (va_rf (j_R h2 60 5)) f = f 70 := rv_of S.2.2.2.1 e f
theorem sp_6 {h : jH} (S : ShP h) {h2 : jH} (e : sR h2 h) (f : Nat → Option jO) : j_rv (va_rf (j_R h2 60 6)) f = f 71 := rv_of S.2.2.2.2.1 e f
theorem sp_0 {h : jH} (S : ShP h) {h2 : jH} (e : sR h2 h) (f : Nat → Option jO) : j_rv (va_rf (j_R h2 62 0)) f = f 63 := rv_of S.2.2.2.2.2.2.1 e f
theorem C_goTo {F : Nat × Nat} {h : jH} {T : Tk} {ct vt pl : Nat → Nat} {n : Nat} (S : ShP h) (C : CT h T ct vt pl n) {t l sz : Nat} {code : Nat → Int32} (ht : t < n) : m_P_goTo F 60 (j_I (hC h ct vt t l sz code) 60 7 + nI 1) (hC h ct vt t l sz code) = some (none, hC h ct vt (t + 1) l sz code) := by
  have hn := C.2.1
  have e1 := (C.1 (t + 1) ht).2.1
  have e2 := (C.1 (t + 1) ht).2.2
  rw [hC_7, ft_add]
  simp (disch := first | exact sR_rfl _ _ rfl | omega) only [q_P_goTo, ft_lit, ft_m1, ft_m2, ft_m3, ft_m5, ft_m6, ft_cl, ft_lt, ft_le, ft_eq, ft_mlt, ft_ltm, ft_mltm, ft_meq, ft_eqm, ft_meqm, ft_add, ft_mul, ft_sub, ft_nm, ft_m1p, ft_and, ft_or, ft_31, ft_shl, ft_shr, ft_bz, ft_z0, ft_z1, ft_z01, ft_bb, ft_zt, ft_zf, ft_or0, ft_rv, ft_rvr, ft_rf, ft_rfn, ft_bI, ft_bJ, ft_bV, ft_bR, ft_bRn, ft_isr, ft_isn, ft_ifn, ft_ifr, ft_ov, ft_ovn, ft_in, k_sI, n_sI, R_sI, J_sI, c_sI, z_sI, k_sJ, n_sJ, R_sJ, I_sJ, c_sJ, z_sJ, k_sR, n_sR, I_sR, J_sR, c_sR, z_sR, k_wI, n_wI, R_wI, J_wI, I_wIe, k_wJ, n_wJ, R_wJ, I_wJ, J_wJe, I_wIn, J_wJn, I_sIe, J_sJe, R_sRe, I_sIn, I_sIk, J_sJn, J_sJk, R_sRn, R_sRk, eq_self, if_true, if_false, ↓reduceIte, cond_true, cond_false, ↓cond_eq_ite, and_true, true_and, and_false, false_and, or_true, true_or, or_false, false_or, not_true_eq_false, not_false_eq_true, ft_ltT, ft_ltF, ft_eqT, ft_eqF, Bool.false_eq_true, Bool.true_eq_false, Bool.not_true, Bool.not_false, Bool.and_true, Bool.true_and, Bool.and_false, Bool.false_and, decide_true, decide_false, Nat.reduceAdd, Nat.reduceMul, Nat.reduceSub, Nat.reduceEqDiff, Nat.reduceLT, Nat.zero_add, Nat.add_zero, Nat.reduceDiv, Nat.reduceMod, S.1, S.2.1, S.2.2.1, S.2.2.2.1, S.2.2.2.2.1, S.2.2.2.2.2.1, S.2.2.2.2.2.2.1, S.2.2.2.2.2.2.2.1, S.2.2.2.2.2.2.2.2.1, S.2.2.2.2.2.2.2.2.2.1, S.2.2.2.2.2.2.2.2.2.2.1, S.2.2.2.2.2.2.2.2.2.2.2.1, S.2.2.2.2.2.2.2.2.2.2.2.2.1, S.2.2.2.2.2.2.2.2.2.2.2.2.2.1, S.2.2.2.2.2.2.2.2.2.2.2.2.2.2, ↓sp_3 S, ↓sp_4 S, ↓sp_5 S, ↓sp_6 S, ↓sp_0 S, hC_k, hC_n, hC_R, hC_I, e1, e2, hC_st]
theorem C_goTo_b {F : Nat × Nat} {h : jH} {T : Tk} {ct vt pl : Nat → Nat} {n : Nat} (S : ShP h) (C : CT h T ct vt pl n) {t l sz : Nat} {code : Nat → Int32} (ht : t < n) (ff : jH → Option jO) : jbV (m_P_goTo F 60 (j_I (hC h ct vt t l sz code) 60 7 + nI 1) (hC h ct vt t l sz code)) ff = ff (hC h ct vt (t + 1) l sz code) := bV_of (C_goTo (F := F) (h := h) (T := T) (ct := ct) (vt := vt) (pl := pl) (n := n) (S := S) (C := C) (t := t) (l := l) (sz := sz) (code := code) (ht := ht)) ff
theorem C_fails {F : Nat × Nat} {h : jH} {T : Tk} {ct vt pl : Nat → Nat} {n : Nat} (S : ShP h) (C : CT h T ct vt pl n) {t l sz : Nat} {code : Nat → Int32} (ht : t ≤ n) : m_P_fails F 60 (hC h ct vt t l sz code) = some (some (.int (nI 0)), j_sI (hC h ct vt t l sz code) 60 2 (nI (pl t))) := by
  have hn := C.2.1
  have e1 := (C.1 t ht).1
  simp (disch := first | exact sR_rfl _ _ rfl | omega) only [q_P_fails, ft_lit, ft_m1, ft_m2, ft_m3, ft_m5, ft_m6, ft_cl, ft_lt, ft_le, ft_eq, ft_mlt, ft_ltm, ft_mltm, ft_meq, ft_eqm, ft_meqm, ft_add, ft_mul, ft_sub, ft_nm, ft_m1p, ft_and, ft_or, ft_31, ft_shl, ft_shr, ft_bz, ft_z0, ft_z1, ft_z01, ft_bb, ft_zt, ft_zf, ft_or0, ft_rv, ft_rvr, ft_rf, ft_rfn, ft_bI, ft_bJ, ft_bV, ft_bR, ft_bRn, ft_isr, ft_isn, ft_ifn, ft_ifr, ft_ov, ft_ovn, ft_in, k_sI, n_sI, R_sI, J_sI, c_sI, z_sI, k_sJ, n_sJ, R_sJ, I_sJ, c_sJ, z_sJ, k_sR, n_sR, I_sR, J_sR, c_sR, z_sR, k_wI, n_wI, R_wI, J_wI, I_wIe, k_wJ, n_wJ, R_wJ, I_wJ, J_wJe, I_wIn, J_wJn, I_sIe, J_sJe, R_sRe, I_sIn, I_sIk, J_sJn, J_sJk, R_sRn, R_sRk, eq_self, if_true, if_false, ↓reduceIte, cond_true, cond_false, ↓cond_eq_ite, and_true, true_and, and_false, false_and, or_true, true_or, or_false, false_or, not_true_eq_false, not_false_eq_true, ft_ltT, ft_ltF, ft_eqT, ft_eqF, Bool.false_eq_true, Bool.true_eq_false, Bool.not_true, Bool.not_false, Bool.and_true, Bool.true_and, Bool.and_false, Bool.false_and, decide_true, decide_false, Nat.reduceAdd, Nat.reduceMul, Nat.reduceSub, Nat.reduceEqDiff, Nat.reduceLT, Nat.zero_add, Nat.add_zero, Nat.reduceDiv, Nat.reduceMod, S.1, S.2.1, S.2.2.1, S.2.2.2.1, S.2.2.2.2.1, S.2.2.2.2.2.1, S.2.2.2.2.2.2.1, S.2.2.2.2.2.2.2.1, S.2.2.2.2.2.2.2.2.1, S.2.2.2.2.2.2.2.2.2.1, S.2.2.2.2.2.2.2.2.2.2.1, S.2.2.2.2.2.2.2.2.2.2.2.1, S.2.2.2.2.2.2.2.2.2.2.2.2.1, S.2.2.2.2.2.2.2.2.2.2.2.2.2.1, S.2.2.2.2.2.2.2.2.2.2.2.2.2.2, ↓sp_3 S, ↓sp_4 S, ↓sp_5 S, ↓sp_6 S, ↓sp_0 S, hC_k, hC_n, hC_R, hC_I, hC_7, e1]
theorem C_fails_b {F : Nat × Nat} {h : jH} {T : Tk} {ct vt pl : Nat → Nat} {n : Nat} (S : ShP h) (C : CT h T ct vt pl n) {t l sz : Nat} {code : Nat → Int32} (ht : t ≤ n) (ff : Int32 → jH → Option jO) : jbI (m_P_fails F 60 (hC h ct vt t l sz code)) ff = ff ((nI 0)) (j_sI (hC h ct vt t l sz code) 60 2 (nI (pl t))) := bI_of (C_fails (F := F) (h := h) (T := T) (ct := ct) (vt := vt) (pl := pl) (n := n) (S := S) (C := C) (t := t) (l := l) (sz := sz) (code := code) (ht := ht)) ff
theorem sl5 {v o : Nat} (h : o < 32) : v <<< 5 ||| o = v * 32 + o := by
  rw [← Nat.shiftLeft_add_eq_or_of_lt (by omega : o < 2 ^ 5), Nat.shiftLeft_eq]
theorem C_emit {F : Nat × Nat} {h : jH} {ct vt : Nat → Nat} (S : ShP h) {t l sz op v : Nat} {code : Nat → Int32} (hs : sz < 480) (ho : op < 32) (hv : v < 100000) : m_P_emit F 60 (nI op) (nI v) (hC h ct vt t l sz code) = some (some (.int (nI sz)), hC h ct vt t l (sz + 1) (va_up code sz (nI (v * 32 + op)))) := by
  have e1 : sz + 1 - 1 = sz := by omega
  have e2 : j_is1 (Value.ref 62) = true := rfl
  simp (disch := first | exact sR_rfl _ _ rfl | omega) only [q_P_emit, ft_lit, ft_m1, ft_m2, ft_m3, ft_m5, ft_m6, ft_cl, ft_lt, ft_le, ft_eq, ft_mlt, ft_ltm, ft_mltm, ft_meq, ft_eqm, ft_meqm, ft_add, ft_mul, ft_sub, ft_nm, ft_m1p, ft_and, ft_or, ft_31, ft_shl, ft_shr, ft_bz, ft_z0, ft_z1, ft_z01, ft_bb, ft_zt, ft_zf, ft_or0, ft_rv, ft_rvr, ft_rf, ft_rfn, ft_bI, ft_bJ, ft_bV, ft_bR, ft_bRn, ft_isr, ft_isn, ft_ifn, ft_ifr, ft_ov, ft_ovn, ft_in, k_sI, n_sI, R_sI, J_sI, c_sI, z_sI, k_sJ, n_sJ, R_sJ, I_sJ, c_sJ, z_sJ, k_sR, n_sR, I_sR, J_sR, c_sR, z_sR, k_wI, n_wI, R_wI, J_wI, I_wIe, k_wJ, n_wJ, R_wJ, I_wJ, J_wJe, I_wIn, J_wJn, I_sIe, J_sJe, R_sRe, I_sIn, I_sIk, J_sJn, J_sJk, R_sRn, R_sRk, eq_self, if_true, if_false, ↓reduceIte, cond_true, cond_false, ↓cond_eq_ite, and_true, true_and, and_false, false_and, or_true, true_or, or_false, false_or, not_true_eq_false, not_false_eq_true, ft_ltT, ft_ltF, ft_eqT, ft_eqF, Bool.false_eq_true, Bool.true_eq_false, Bool.not_true, Bool.not_false, Bool.and_true, Bool.true_and, Bool.and_false, Bool.false_and, decide_true, decide_false, Nat.reduceAdd, Nat.reduceMul, Nat.reduceSub, Nat.reduceEqDiff, Nat.reduceLT, Nat.zero_add, Nat.add_zero, Nat.reduceDiv, Nat.reduceMod, S.1, S.2.1, S.2.2.1, S.2.2.2.1, S.2.2.2.2.1, S.2.2.2.2.2.1, S.2.2.2.2.2.2.1, S.2.2.2.2.2.2.2.1, S.2.2.2.2.2.2.2.2.1, S.2.2.2.2.2.2.2.2.2.1, S.2.2.2.2.2.2.2.2.2.2.1, S.2.2.2.2.2.2.2.2.2.2.2.1, S.2.2.2.2.2.2.2.2.2.2.2.2.1, S.2.2.2.2.2.2.2.2.2.2.2.2.2.1, S.2.2.2.2.2.2.2.2.2.2.2.2.2.2, ↓sp_3 S, ↓sp_4 S, ↓sp_5 S, ↓sp_6 S, ↓sp_0 S, hC_k, hC_n, hC_R, hC_6, hC_sc, hC_s6, sl5, e1, e2]
theorem C_emit_b {F : Nat × Nat} {h : jH} {ct vt : Nat → Nat} (S : ShP h) {t l sz op v : Nat} {code : Nat → Int32} (hs : sz < 480) (ho : op < 32) (hv : v < 100000) (ff : Int32 → jH → Option jO) : jbI (m_P_emit F 60 (nI op) (nI v) (hC h ct vt t l sz code)) ff = ff ((nI sz)) (hC h ct vt t l (sz + 1) (va_up code sz (nI (v * 32 + op)))) := bI_of (C_emit (F := F) (h := h) (ct := ct) (vt := vt) (S := S) (t := t) (l := l) (sz := sz) (op := op) (v := v) (code := code) (hs := hs) (ho := ho) (hv := hv)) ff
theorem C_emN {F : Nat × Nat} {h : jH} : m_P_emitIfAny F 60 (mI 0) h = some (none, h) := by
  simp (disch := first | exact sR_rfl _ _ rfl | omega) only [q_P_emitIfAny, ft_lit, ft_m1, ft_m2, ft_m3, ft_m5, ft_m6, ft_cl, ft_lt, ft_le, ft_eq, ft_mlt, ft_ltm, ft_mltm, ft_meq, ft_eqm, ft_meqm, ft_add, ft_mul, ft_sub, ft_nm, ft_m1p, ft_and, ft_or, ft_31, ft_shl, ft_shr, ft_bz, ft_z0, ft_z1, ft_z01, ft_bb, ft_zt, ft_zf, ft_or0, ft_rv, ft_rvr, ft_rf, ft_rfn, ft_bI, ft_bJ, ft_bV, ft_bR, ft_bRn, ft_isr, ft_isn, ft_ifn, ft_ifr, ft_ov, ft_ovn, ft_in, k_sI, n_sI, R_sI, J_sI, c_sI, z_sI, k_sJ, n_sJ, R_sJ, I_sJ, c_sJ, z_sJ, k_sR, n_sR, I_sR, J_sR, c_sR, z_sR, k_wI, n_wI, R_wI, J_wI, I_wIe, k_wJ, n_wJ, R_wJ, I_wJ, J_wJe, I_wIn, J_wJn, I_sIe, J_sJe, R_sRe, I_sIn, I_sIk, J_sJn, J_sJk, R_sRn, R_sRk, eq_self, if_true, if_false, ↓reduceIte, cond_true, cond_false, ↓cond_eq_ite, and_true, true_and, and_false, false_and, or_true, true_or, or_false, false_or, not_true_eq_false, not_false_eq_true, ft_ltT, ft_ltF, ft_eqT, ft_eqF, Bool.false_eq_true, Bool.true_eq_false, Bool.not_true, Bool.not_false, Bool.and_true, Bool.true_and, Bool.and_false, Bool.false_and, decide_true, decide_false, Nat.reduceAdd, Nat.reduceMul, Nat.reduceSub, Nat.reduceEqDiff, Nat.reduceLT, Nat.zero_add, Nat.add_zero, Nat.reduceDiv, Nat.reduceMod]
theorem C_emN_b {F : Nat × Nat} {h : jH} (ff : jH → Option jO) : jbV (m_P_emitIfAny F 60 (mI 0) h) ff = ff (h) := bV_of (C_emN (F := F) (h := h)) ff
theorem C_emA {F : Nat × Nat} {h : jH} {ct vt : Nat → Nat} (S : ShP h) {t l sz op : Nat} {code : Nat → Int32} (hs : sz < 480) (ho : op < 32) : m_P_emitIfAny F 60 (nI op) (hC h ct vt t l sz code) = some (none, hC h ct vt t l (sz + 1) (va_up code sz (nI op))) := by
  have em := C_emit_b (F := F) (h := h) (ct := ct) (vt := vt) S (t := t) (l := l) (sz := sz) (op := op) (v := 0) (code := code) hs ho (by omega)
  rw [Nat.zero_mul, Nat.zero_add] at em
  simp (disch := first | exact sR_rfl _ _ rfl | omega) only [q_P_emitIfAny, ft_lit, ft_m1, ft_m2, ft_m3, ft_m5, ft_m6, ft_cl, ft_lt, ft_le, ft_eq, ft_mlt, ft_ltm, ft_mltm, ft_meq, ft_eqm, ft_meqm, ft_add, ft_mul, ft_sub, ft_nm, ft_m1p, ft_and, ft_or, ft_31, ft_shl, ft_shr, ft_bz, ft_z0, ft_z1, ft_z01, ft_bb, ft_zt, ft_zf, ft_or0, ft_rv, ft_rvr, ft_rf, ft_rfn, ft_bI, ft_bJ, ft_bV, ft_bR, ft_bRn, ft_isr, ft_isn, ft_ifn, ft_ifr, ft_ov, ft_ovn, ft_in, k_sI, n_sI, R_sI, J_sI, c_sI, z_sI, k_sJ, n_sJ, R_sJ, I_sJ, c_sJ, z_sJ, k_sR, n_sR, I_sR, J_sR, c_sR, z_sR, k_wI, n_wI, R_wI, J_wI, I_wIe, k_wJ, n_wJ, R_wJ, I_wJ, J_wJe, I_wIn, J_wJn, I_sIe, J_sJe, R_sRe, I_sIn, I_sIk, J_sJn, J_sJk, R_sRn, R_sRk, eq_self, if_true, if_false, ↓reduceIte, cond_true, cond_false, ↓cond_eq_ite, and_true, true_and, and_false, false_and, or_true, true_or, or_false, false_or, not_true_eq_false, not_false_eq_true, ft_ltT, ft_ltF, ft_eqT, ft_eqF, Bool.false_eq_true, Bool.true_eq_false, Bool.not_true, Bool.not_false, Bool.and_true, Bool.true_and, Bool.and_false, Bool.false_and, decide_true, decide_false, Nat.reduceAdd, Nat.reduceMul, Nat.reduceSub, Nat.reduceEqDiff, Nat.reduceLT, Nat.zero_add, Nat.add_zero, Nat.reduceDiv, Nat.reduceMod, S.1, S.2.1, S.2.2.1, S.2.2.2.1, S.2.2.2.2.1, S.2.2.2.2.2.1, S.2.2.2.2.2.2.1, S.2.2.2.2.2.2.2.1, S.2.2.2.2.2.2.2.2.1, S.2.2.2.2.2.2.2.2.2.1, S.2.2.2.2.2.2.2.2.2.2.1, S.2.2.2.2.2.2.2.2.2.2.2.1, S.2.2.2.2.2.2.2.2.2.2.2.2.1, S.2.2.2.2.2.2.2.2.2.2.2.2.2.1, S.2.2.2.2.2.2.2.2.2.2.2.2.2.2, ↓sp_3 S, ↓sp_4 S, ↓sp_5 S, ↓sp_6 S, ↓sp_0 S, hC_k, ↓em]
theorem C_emA_b {F : Nat × Nat} {h : jH} {ct vt : Nat → Nat} (S : ShP h) {t l sz op : Nat} {code : Nat → Int32} (hs : sz < 480) (ho : op < 32) (ff : jH → Option jO) : jbV (m_P_emitIfAny F 60 (nI op) (hC h ct vt t l sz code)) ff = ff (hC h ct vt t l (sz + 1) (va_up code sz (nI op))) := bV_of (C_emA (F := F) (h := h) (ct := ct) (vt := vt) (S := S) (t := t) (l := l) (sz := sz) (op := op) (code := code) (hs := hs) (ho := ho)) ff
theorem C_skN {F : Nat × Nat} {h : jH} : m_P_skipToHere F 60 (mI 0) h = some (none, h) := by
  simp (disch := first | exact sR_rfl _ _ rfl | omega) only [q_P_skipToHere, ft_lit, ft_m1, ft_m2, ft_m3, ft_m5, ft_m6, ft_cl, ft_lt, ft_le, ft_eq, ft_mlt, ft_ltm, ft_mltm, ft_meq, ft_eqm, ft_meqm, ft_add, ft_mul, ft_sub, ft_nm, ft_m1p, ft_and, ft_or, ft_31, ft_shl, ft_shr, ft_bz, ft_z0, ft_z1, ft_z01, ft_bb, ft_zt, ft_zf, ft_or0, ft_rv, ft_rvr, ft_rf, ft_rfn, ft_bI, ft_bJ, ft_bV, ft_bR, ft_bRn, ft_isr, ft_isn, ft_ifn, ft_ifr, ft_ov, ft_ovn, ft_in, k_sI, n_sI, R_sI, J_sI, c_sI, z_sI, k_sJ, n_sJ, R_sJ, I_sJ, c_sJ, z_sJ, k_sR, n_sR, I_sR, J_sR, c_sR, z_sR, k_wI, n_wI, R_wI, J_wI, I_wIe, k_wJ, n_wJ, R_wJ, I_wJ, J_wJe, I_wIn, J_wJn, I_sIe, J_sJe, R_sRe, I_sIn, I_sIk, J_sJn, J_sJk, R_sRn, R_sRk, eq_self, if_true, if_false, ↓reduceIte, cond_true, cond_false, ↓cond_eq_ite, and_true, true_and, and_false, false_and, or_true, true_or, or_false, false_or, not_true_eq_false, not_false_eq_true, ft_ltT, ft_ltF, ft_eqT, ft_eqF, Bool.false_eq_true, Bool.true_eq_false, Bool.not_true, Bool.not_false, Bool.and_true, Bool.true_and, Bool.and_false, Bool.false_and, decide_true, decide_false, Nat.reduceAdd, Nat.reduceMul, Nat.reduceSub, Nat.reduceEqDiff, Nat.reduceLT, Nat.zero_add, Nat.add_zero, Nat.reduceDiv, Nat.reduceMod]
theorem C_skN_b {F : Nat × Nat} {h : jH} (ff : jH → Option jO) : jbV (m_P_skipToHere F 60 (mI 0) h) ff = ff (h) := bV_of (C_skN (F := F) (h := h)) ff
theorem C_skA {F : Nat × Nat} {h : jH} {ct vt : Nat → Nat} (S : ShP h) {t l sz k op : Nat} {code : Nat → Int32} (hk : k < 480) (hs : sz ≤ 480) (ho : op < 32) (hc : code k = nI op) : m_P_skipToHere F 60 (nI k) (hC h ct vt t l sz code) = some (none, hC h ct vt t l sz (va_up code k (nI (sz * 32 + op)))) := by
  have e1 : op &&& 31 = op := ft_31 ho
  simp (disch := first | exact sR_rfl _ _ rfl | omega) only [q_P_skipToHere, ft_lit, ft_m1, ft_m2, ft_m3, ft_m5, ft_m6, ft_cl, ft_lt, ft_le, ft_eq, ft_mlt, ft_ltm, ft_mltm, ft_meq, ft_eqm, ft_meqm, ft_add, ft_mul, ft_sub, ft_nm, ft_m1p, ft_and, ft_or, ft_31, ft_shl, ft_shr, ft_bz, ft_z0, ft_z1, ft_z01, ft_bb, ft_zt, ft_zf, ft_or0, ft_rv, ft_rvr, ft_rf, ft_rfn, ft_bI, ft_bJ, ft_bV, ft_bR, ft_bRn, ft_isr, ft_isn, ft_ifn, ft_ifr, ft_ov, ft_ovn, ft_in, k_sI, n_sI, R_sI, J_sI, c_sI, z_sI, k_sJ, n_sJ, R_sJ, I_sJ, c_sJ, z_sJ, k_sR, n_sR, I_sR, J_sR, c_sR, z_sR, k_wI, n_wI, R_wI, J_wI, I_wIe, k_wJ, n_wJ, R_wJ, I_wJ, J_wJe, I_wIn, J_wJn, I_sIe, J_sJe, R_sRe, I_sIn, I_sIk, J_sJn, J_sJk, R_sRn, R_sRk, eq_self, if_true, if_false, ↓reduceIte, cond_true, cond_false, ↓cond_eq_ite, and_true, true_and, and_false, false_and, or_true, true_or, or_false, false_or, not_true_eq_false, not_false_eq_true, ft_ltT, ft_ltF, ft_eqT, ft_eqF, Bool.false_eq_true, Bool.true_eq_false, Bool.not_true, Bool.not_false, Bool.and_true, Bool.true_and, Bool.and_false, Bool.false_and, decide_true, decide_false, Nat.reduceAdd, Nat.reduceMul, Nat.reduceSub, Nat.reduceEqDiff, Nat.reduceLT, Nat.zero_add, Nat.add_zero, Nat.reduceDiv, Nat.reduceMod, S.1, S.2.1, S.2.2.1, S.2.2.2.1, S.2.2.2.2.1, S.2.2.2.2.2.1, S.2.2.2.2.2.2.1, S.2.2.2.2.2.2.2.1, S.2.2.2.2.2.2.2.2.1, S.2.2.2.2.2.2.2.2.2.1, S.2.2.2.2.2.2.2.2.2.2.1, S.2.2.2.2.2.2.2.2.2.2.2.1, S.2.2.2.2.2.2.2.2.2.2.2.2.1, S.2.2.2.2.2.2.2.2.2.2.2.2.2.1, S.2.2.2.2.2.2.2.2.2.2.2.2.2.2, ↓sp_3 S, ↓sp_4 S, ↓sp_5 S, ↓sp_6 S, ↓sp_0 S, hC_k, hC_n, hC_R, hC_6, hC_63, hC_sc, hc, e1, sl5]
theorem C_skA_b {F : Nat × Nat} {h : jH} {ct vt : Nat → Nat} (S : ShP h) {t l sz k op : Nat} {code : Nat → Int32} (hk : k < 480) (hs : sz ≤ 480) (ho : op < 32) (hc : code k = nI op) (ff : jH → Option jO) : jbV (m_P_skipToHere F 60 (nI k) (hC h ct vt t l sz code)) ff = ff (hC h ct vt t l sz (va_up code k (nI (sz * 32 + op)))) := bV_of (C_skA (F := F) (h := h) (ct := ct) (vt := vt) (S := S) (t := t) (l := l) (sz := sz) (k := k) (op := op) (code := code) (hk := hk) (hs := hs) (ho := ho) (hc := hc)) ff
theorem C_timing {F : Nat × Nat} {h : jH} {T : Tk} {ct vt pl : Nat → Nat} {n : Nat} (C : CT h T ct vt pl n) (h2 : jH) {t : Nat} (ht : t ≤ n) : m_P_timingOp F (nI (ct t)) h2 = some (some (.int (if h_isT (T.1 t) then nI (h_op (T.1 t)) else mI 0)), h2) := by
  have c1 := C.eq ht 37 137 (by decide)
  have c2 := C.eq ht 42 142 (by decide)
  have c3 := C.eq ht 47 147 (by decide)
  have b1 := (C.2.2.2.2.2.2.1 t).1
  by_cases q1 : T.1 t = 137
  · simp (disch := first | exact sR_rfl _ _ rfl | omega) only [q_P_timingOp, ft_lit, ft_m1, ft_m2, ft_m3, ft_m5, ft_m6, ft_cl, ft_lt, ft_le, ft_eq, ft_mlt, ft_ltm, ft_mltm, ft_meq, ft_eqm, ft_meqm, ft_add, ft_mul, ft_sub, ft_nm, ft_m1p, ft_and, ft_or, ft_31, ft_shl, ft_shr, ft_bz, ft_z0, ft_z1, ft_z01, ft_bb, ft_zt, ft_zf, ft_or0, ft_rv, ft_rvr, ft_rf, ft_rfn, ft_bI, ft_bJ, ft_bV, ft_bR, ft_bRn, ft_isr, ft_isn, ft_ifn, ft_ifr, ft_ov, ft_ovn, ft_in, k_sI, n_sI, R_sI, J_sI, c_sI, z_sI, k_sJ, n_sJ, R_sJ, I_sJ, c_sJ, z_sJ, k_sR, n_sR, I_sR, J_sR, c_sR, z_sR, k_wI, n_wI, R_wI, J_wI, I_wIe, k_wJ, n_wJ, R_wJ, I_wJ, J_wJe, I_wIn, J_wJn, I_sIe, J_sJe, R_sRe, I_sIn, I_sIk, J_sJn, J_sJk, R_sRn, R_sRk, eq_self, if_true, if_false, ↓reduceIte, cond_true, cond_false, ↓cond_eq_ite, and_true, true_and, and_false, false_and, or_true, true_or, or_false, false_or, not_true_eq_false, not_false_eq_true, ft_ltT, ft_ltF, ft_eqT, ft_eqF, Bool.false_eq_true, Bool.true_eq_false, Bool.not_true, Bool.not_false, Bool.and_true, Bool.true_and, Bool.and_false, Bool.false_and, decide_true, decide_false, Nat.reduceAdd, Nat.reduceMul, Nat.reduceSub, Nat.reduceEqDiff, Nat.reduceLT, Nat.zero_add, Nat.add_zero, Nat.reduceDiv, Nat.reduceMod, c1, q1, h_isT, h_op]; rfl
  · by_cases q2 : T.1 t = 142
    · simp (disch := first | exact sR_rfl _ _ rfl | omega) only [q_P_timingOp, ft_lit, ft_m1, ft_m2, ft_m3, ft_m5, ft_m6, ft_cl, ft_lt, ft_le, ft_eq, ft_mlt, ft_ltm, ft_mltm, ft_meq, ft_eqm, ft_meqm, ft_add, ft_mul, ft_sub, ft_nm, ft_m1p, ft_and, ft_or, ft_31, ft_shl, ft_shr, ft_bz, ft_z0, ft_z1, ft_z01, ft_bb, ft_zt, ft_zf, ft_or0, ft_rv, ft_rvr, ft_rf, ft_rfn, ft_bI, ft_bJ, ft_bV, ft_bR, ft_bRn, ft_isr, ft_isn, ft_ifn, ft_ifr, ft_ov, ft_ovn, ft_in, k_sI, n_sI, R_sI, J_sI, c_sI, z_sI, k_sJ, n_sJ, R_sJ, I_sJ, c_sJ, z_sJ, k_sR, n_sR, I_sR, J_sR, c_sR, z_sR, k_wI, n_wI, R_wI, J_wI, I_wIe, k_wJ, n_wJ, R_wJ, I_wJ, J_wJe, I_wIn, J_wJn, I_sIe, J_sJe, R_sRe, I_sIn, I_sIk, J_sJn, J_sJk, R_sRn, R_sRk, eq_self, if_true, if_false, ↓reduceIte, cond_true, cond_false, ↓cond_eq_ite, and_true, true_and, and_false, false_and, or_true, true_or, or_false, false_or, not_true_eq_false, not_false_eq_true, ft_ltT, ft_ltF, ft_eqT, ft_eqF, Bool.false_eq_true, Bool.true_eq_false, Bool.not_true, Bool.not_false, Bool.and_true, Bool.true_and, Bool.and_false, Bool.false_and, decide_true, decide_false, Nat.reduceAdd, Nat.reduceMul, Nat.reduceSub, Nat.reduceEqDiff, Nat.reduceLT, Nat.zero_add, Nat.add_zero, Nat.reduceDiv, Nat.reduceMod, c1, c2, q2, h_isT, h_op]; rfl
    · by_cases q3 : T.1 t = 147
      · simp (disch := first | exact sR_rfl _ _ rfl | omega) only [q_P_timingOp, ft_lit, ft_m1, ft_m2, ft_m3, ft_m5, ft_m6, ft_cl, ft_lt, ft_le, ft_eq, ft_mlt, ft_ltm, ft_mltm, ft_meq, ft_eqm, ft_meqm, ft_add, ft_mul, ft_sub, ft_nm, ft_m1p, ft_and, ft_or, ft_31, ft_shl, ft_shr, ft_bz, ft_z0, ft_z1, ft_z01, ft_bb, ft_zt, ft_zf, ft_or0, ft_rv, ft_rvr, ft_rf, ft_rfn, ft_bI, ft_bJ, ft_bV, ft_bR, ft_bRn, ft_isr, ft_isn, ft_ifn, ft_ifr, ft_ov, ft_ovn, ft_in, k_sI, n_sI, R_sI, J_sI, c_sI, z_sI, k_sJ, n_sJ, R_sJ, I_sJ, c_sJ, z_sJ, k_sR, n_sR, I_sR, J_sR, c_sR, z_sR, k_wI, n_wI, R_wI, J_wI, I_wIe, k_wJ, n_wJ, R_wJ, I_wJ, J_wJe, I_wIn, J_wJn, I_sIe, J_sJe, R_sRe, I_sIn, I_sIk, J_sJn, J_sJk, R_sRn, R_sRk, eq_self, if_true, if_false, ↓reduceIte, cond_true, cond_false, ↓cond_eq_ite, and_true, true_and, and_false, false_and, or_true, true_or, or_false, false_or, not_true_eq_false, not_false_eq_true, ft_ltT, ft_ltF, ft_eqT, ft_eqF, Bool.false_eq_true, Bool.true_eq_false, Bool.not_true, Bool.not_false, Bool.and_true, Bool.true_and, Bool.and_false, Bool.false_and, decide_true, decide_false, Nat.reduceAdd, Nat.reduceMul, Nat.reduceSub, Nat.reduceEqDiff, Nat.reduceLT, Nat.zero_add, Nat.add_zero, Nat.reduceDiv, Nat.reduceMod, c1, c2, c3, q3, h_isT, h_op]; rfl
      · have : h_isT (T.1 t) = false := by unfold h_isT; simp [q1, q2, q3]
        simp (disch := first | exact sR_rfl _ _ rfl | omega) only [q_P_timingOp, ft_lit, ft_m1, ft_m2, ft_m3, ft_m5, ft_m6, ft_cl, ft_lt, ft_le, ft_eq, ft_mlt, ft_ltm, ft_mltm, ft_meq, ft_eqm, ft_meqm, ft_add, ft_mul, ft_sub, ft_nm, ft_m1p, ft_and, ft_or, ft_31, ft_shl, ft_shr, ft_bz, ft_z0, ft_z1, ft_z01, ft_bb, ft_zt, ft_zf, ft_or0, ft_rv, ft_rvr, ft_rf, ft_rfn, ft_bI, ft_bJ, ft_bV, ft_bR, ft_bRn, ft_isr, ft_isn, ft_ifn, ft_ifr, ft_ov, ft_ovn, ft_in, k_sI, n_sI, R_sI, J_sI, c_sI, z_sI, k_sJ, n_sJ, R_sJ, I_sJ, c_sJ, z_sJ, k_sR, n_sR, I_sR, J_sR, c_sR, z_sR, k_wI, n_wI, R_wI, J_wI, I_wIe, k_wJ, n_wJ, R_wJ, I_wJ, J_wJe, I_wIn, J_wJn, I_sIe, J_sJe, R_sRe, I_sIn, I_sIk, J_sJn, J_sJk, R_sRn, R_sRk, eq_self, if_true, if_false, ↓reduceIte, cond_true, cond_false, ↓cond_eq_ite, and_true, true_and, and_false, false_and, or_true, true_or, or_false, false_or, not_true_eq_false, not_false_eq_true, ft_ltT, ft_ltF, ft_eqT, ft_eqF, Bool.false_eq_true, Bool.true_eq_false, Bool.not_true, Bool.not_false, Bool.and_true, Bool.true_and, Bool.and_false, Bool.false_and, decide_true, decide_false, Nat.reduceAdd, Nat.reduceMul, Nat.reduceSub, Nat.reduceEqDiff, Nat.reduceLT, Nat.zero_add, Nat.add_zero, Nat.reduceDiv, Nat.reduceMod, c1, c2, c3, q1, q2, q3, this]
theorem C_timing_b {F : Nat × Nat} {h : jH} {T : Tk} {ct vt pl : Nat → Nat} {n : Nat} (C : CT h T ct vt pl n) (h2 : jH) {t : Nat} (ht : t ≤ n) (ff : Int32 → jH → Option jO) : jbI (m_P_timingOp F (nI (ct t)) h2) ff = ff ((if h_isT (T.1 t) then nI (h_op (T.1 t)) else mI 0)) (h2) := bI_of (C_timing (F := F) (h := h) (T := T) (ct := ct) (vt := vt) (pl := pl) (n := n) (C := C) (h2 := h2) (t := t) (ht := ht)) ff
theorem C_adding {F : Nat × Nat} {h : jH} {T : Tk} {ct vt pl : Nat → Nat} {n : Nat} (C : CT h T ct vt pl n) (h2 : jH) {t : Nat} (ht : t ≤ n) : m_P_addingOp F (nI (ct t)) h2 = some (some (.int (if h_isA (T.1 t) then nI (h_op (T.1 t)) else mI 0)), h2) := by
  have c1 := C.eq ht 43 143 (by decide)
  have c2 := C.eq ht 45 145 (by decide)
  have b1 := (C.2.2.2.2.2.2.1 t).1
  by_cases q1 : T.1 t = 143
  · simp (disch := first | exact sR_rfl _ _ rfl | omega) only [q_P_addingOp, ft_lit, ft_m1, ft_m2, ft_m3, ft_m5, ft_m6, ft_cl, ft_lt, ft_le, ft_eq, ft_mlt, ft_ltm, ft_mltm, ft_meq, ft_eqm, ft_meqm, ft_add, ft_mul, ft_sub, ft_nm, ft_m1p, ft_and, ft_or, ft_31, ft_shl, ft_shr, ft_bz, ft_z0, ft_z1, ft_z01, ft_bb, ft_zt, ft_zf, ft_or0, ft_rv, ft_rvr, ft_rf, ft_rfn, ft_bI, ft_bJ, ft_bV, ft_bR, ft_bRn, ft_isr, ft_isn, ft_ifn, ft_ifr, ft_ov, ft_ovn, ft_in, k_sI, n_sI, R_sI, J_sI, c_sI, z_sI, k_sJ, n_sJ, R_sJ, I_sJ, c_sJ, z_sJ, k_sR, n_sR, I_sR, J_sR, c_sR, z_sR, k_wI, n_wI, R_wI, J_wI, I_wIe, k_wJ, n_wJ, R_wJ, I_wJ, J_wJe, I_wIn, J_wJn, I_sIe, J_sJe, R_sRe, I_sIn, I_sIk, J_sJn, J_sJk, R_sRn, R_sRk, eq_self, if_true, if_false, ↓reduceIte, cond_true, cond_false, ↓cond_eq_ite, and_true, true_and, and_false, false_and, or_true, true_or, or_false, false_or, not_true_eq_false, not_false_eq_true, ft_ltT, ft_ltF, ft_eqT, ft_eqF, Bool.false_eq_true, Bool.true_eq_false, Bool.not_true, Bool.not_false, Bool.and_true, Bool.true_and, Bool.and_false, Bool.false_and, decide_true, decide_false, Nat.reduceAdd, Nat.reduceMul, Nat.reduceSub, Nat.reduceEqDiff, Nat.reduceLT, Nat.zero_add, Nat.add_zero, Nat.reduceDiv, Nat.reduceMod, c1, q1, h_isA, h_op]; rfl
  · by_cases q2 : T.1 t = 145
    · simp (disch := first | exact sR_rfl _ _ rfl | omega) only [q_P_addingOp, ft_lit, ft_m1, ft_m2, ft_m3, ft_m5, ft_m6, ft_cl, ft_lt, ft_le, ft_eq, ft_mlt, ft_ltm, ft_mltm, ft_meq, ft_eqm, ft_meqm, ft_add, ft_mul, ft_sub, ft_nm, ft_m1p, ft_and, ft_or, ft_31, ft_shl, ft_shr, ft_bz, ft_z0, ft_z1, ft_z01, ft_bb, ft_zt, ft_zf, ft_or0, ft_rv, ft_rvr, ft_rf, ft_rfn, ft_bI, ft_bJ, ft_bV, ft_bR, ft_bRn, ft_isr, ft_isn, ft_ifn, ft_ifr, ft_ov, ft_ovn, ft_in, k_sI, n_sI, R_sI, J_sI, c_sI, z_sI, k_sJ, n_sJ, R_sJ, I_sJ, c_sJ, z_sJ, k_sR, n_sR, I_sR, J_sR, c_sR, z_sR, k_wI, n_wI, R_wI, J_wI, I_wIe, k_wJ, n_wJ, R_wJ, I_wJ, J_wJe, I_wIn, J_wJn, I_sIe, J_sJe, R_sRe, I_sIn, I_sIk, J_sJn, J_sJk, R_sRn, R_sRk, eq_self, if_true, if_false, ↓reduceIte, cond_true, cond_false, ↓cond_eq_ite, and_true, true_and, and_false, false_and, or_true, true_or, or_false, false_or, not_true_eq_false, not_false_eq_true, ft_ltT, ft_ltF, ft_eqT, ft_eqF, Bool.false_eq_true, Bool.true_eq_false, Bool.not_true, Bool.not_false, Bool.and_true, Bool.true_and, Bool.and_false, Bool.false_and, decide_true, decide_false, Nat.reduceAdd, Nat.reduceMul, Nat.reduceSub, Nat.reduceEqDiff, Nat.reduceLT, Nat.zero_add, Nat.add_zero, Nat.reduceDiv, Nat.reduceMod, c1, c2, q2, h_isA, h_op]; rfl
    · have : h_isA (T.1 t) = false := by unfold h_isA; simp [q1, q2]
      simp (disch := first | exact sR_rfl _ _ rfl | omega) only [q_P_addingOp, ft_lit, ft_m1, ft_m2, ft_m3, ft_m5, ft_m6, ft_cl, ft_lt, ft_le, ft_eq, ft_mlt, ft_ltm, ft_mltm, ft_meq, ft_eqm, ft_meqm, ft_add, ft_mul, ft_sub, ft_nm, ft_m1p, ft_and, ft_or, ft_31, ft_shl, ft_shr, ft_bz, ft_z0, ft_z1, ft_z01, ft_bb, ft_zt, ft_zf, ft_or0, ft_rv, ft_rvr, ft_rf, ft_rfn, ft_bI, ft_bJ, ft_bV, ft_bR, ft_bRn, ft_isr, ft_isn, ft_ifn, ft_ifr, ft_ov, ft_ovn, ft_in, k_sI, n_sI, R_sI, J_sI, c_sI, z_sI, k_sJ, n_sJ, R_sJ, I_sJ, c_sJ, z_sJ, k_sR, n_sR, I_sR, J_sR, c_sR, z_sR, k_wI, n_wI, R_wI, J_wI, I_wIe, k_wJ, n_wJ, R_wJ, I_wJ, J_wJe, I_wIn, J_wJn, I_sIe, J_sJe, R_sRe, I_sIn, I_sIk, J_sJn, J_sJk, R_sRn, R_sRk, eq_self, if_true, if_false, ↓reduceIte, cond_true, cond_false, ↓cond_eq_ite, and_true, true_and, and_false, false_and, or_true, true_or, or_false, false_or, not_true_eq_false, not_false_eq_true, ft_ltT, ft_ltF, ft_eqT, ft_eqF, Bool.false_eq_true, Bool.true_eq_false, Bool.not_true, Bool.not_false, Bool.and_true, Bool.true_and, Bool.and_false, Bool.false_and, decide_true, decide_false, Nat.reduceAdd, Nat.reduceMul, Nat.reduceSub, Nat.reduceEqDiff, Nat.reduceLT, Nat.zero_add, Nat.add_zero, Nat.reduceDiv, Nat.reduceMod, c1, c2, q1, q2, this]
theorem C_adding_b {F : Nat × Nat} {h : jH} {T : Tk} {ct vt pl : Nat → Nat} {n : Nat} (C : CT h T ct vt pl n) (h2 : jH) {t : Nat} (ht : t ≤ n) (ff : Int32 → jH → Option jO) : jbI (m_P_addingOp F (nI (ct t)) h2) ff = ff ((if h_isA (T.1 t) then nI (h_op (T.1 t)) else mI 0)) (h2) := bI_of (C_adding (F := F) (h := h) (T := T) (ct := ct) (vt := vt) (pl := pl) (n := n) (C := C) (h2 := h2) (t := t) (ht := ht)) ff
