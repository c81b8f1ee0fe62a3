/-! THE CLASS READS: tests -/
theorem h_nl_len {T : Tk} (t0 : Nat) : ∀ f b (s : Ps), (h_nl T f b s).2.1 = true → (h_nl T f b s).2.2.1 ≥ s.2.1 ∧ ((h_nl T f b s).1 ≠ b → (h_nl T f b s).2.2.1 ≥ s.2.1 + 1)
  | 0, b, s, h => ⟨Nat.le_refl _, fun q => absurd rfl q⟩
  | f + 1, b, s, h => by
    unfold h_nl at h ⊢
    split
    · rename_i q
      rw [if_pos q] at h
      have ih := h_nl_len t0 f (!b) (h_adv s) h
      have e1 : (h_adv s).2.1 = s.2.1 + 1 := rfl
      exact ⟨by omega, fun _ => by omega⟩
    · exact ⟨Nat.le_refl _, fun q => absurd rfl q⟩
def h_lnt (rec : Option (Ps → Rt)) : Prop := ∀ r, rec = some r → ∀ (s : Ps) b, (r s).1.1 = true → ((r s).2.1 b).length + s.2.1 ≤ (r s).1.2.1
theorem h_posi_len {T : Tk} {od : Bool} {rec : Option (Ps → Rt)} (hr : h_lnt rec) {d : Nat} {s : Ps} (b : Nat) (h : (h_posi T od rec d s).1.1 = true) : ((h_posi T od rec d s).2.1 b).length + s.2.1 ≤ (h_posi T od rec d s).1.2.1 ∧ s.1 = true := by
  have hf : ∀ s : Ps, (h_sum T od d s).1.1 = true → s.1 = true := by
    intro s hs
    rw [h_sum_eq] at hs
    have h1 := h_sl_f hs
    have h2 := h_tl_f h1
    unfold h_part at h2
    split at h2
    · exact h2
    · rename_i z
      simpa using z
  unfold h_posi at h ⊢
  split
  · rename_i q
    rw [if_pos q] at h
    rw [q] at h
    cases h
  · rename_i q
    rw [if_neg q] at h
    have hs1 : s.1 = true := by simpa using q
    split
    · rename_i q1
      rw [if_pos q1] at h
      cases rec with
      | none => cases h
      | some r =>
        simp only at h ⊢
        obtain ⟨m1, m2, m3⟩ := h_must_t h
        have := hr r rfl (h_adv s) b m2
        rw [m1]
        have e1 : (h_adv s).2.1 = s.2.1 + 1 := rfl
        have e2 : (h_adv (r (h_adv s)).1).2.1 = (r (h_adv s)).1.2.1 + 1 := rfl
        exact ⟨by omega, hs1⟩
    · rename_i q1
      rw [if_neg q1] at h
      simp only at h ⊢
      have ok2 := hf _ h
      obtain ⟨m1, m2, m3⟩ := h_cs_t ok2
      have l1 := h_sum_len d m2
      have l2 := h_sum_len d h
      rw [m1] at l2 ⊢
      have e1 : (h_adv (h_sum T od d s).1).2.1 = (h_sum T od d s).1.2.1 + 1 := rfl
      simp only [List.length_append, List.length_cons, List.length_nil]
      exact ⟨by omega, hs1⟩
theorem h_plain_len {T : Tk} {od : Bool} {rec : Option (Ps → Rt)} (hr : h_lnt rec) {d : Nat} {s : Ps} (b : Nat) (h : (h_plain T od rec d s).1.1 = true) : ((h_plain T od rec d s).2.1 b).length + s.2.1 ≤ (h_plain T od rec d s).1.2.1 := by
  unfold h_plain at h ⊢
  simp only at h ⊢
  have h1 := h_posi_len hr b h
  have h2 := h_nl_len (T := T) 0 hN false s h1.2
  rw [List.length_append]
  cases hb : (h_nl T hN false s).1 with
  | false =>
    simp only [Bool.false_eq_true, if_false, List.length_nil]
    have := h2.1
    omega
  | true =>
    simp only [if_true, List.length_cons, List.length_nil]
    have := h2.2 (by rw [hb]; decide)
    omega
theorem h_bl_len {T : Tk} {od : Bool} {rec : Option (Ps → Rt)} (hr : h_lnt rec) {d : Nat} (t0 : Nat) : ∀ f (x : Rt), (x.1.1 = true → ∀ b, (x.2.1 b).length + t0 ≤ x.1.2.1) → (h_bl T od rec d f x).1.1 = true → ∀ b, ((h_bl T od rec d f x).2.1 b).length + t0 ≤ (h_bl T od rec d f x).1.2.1
  | 0, x, hx, h => hx h
  | f + 1, x, hx, h => by
    unfold h_bl at h ⊢
    split
    · rename_i q
      rw [if_pos q] at h
      refine h_bl_len hr t0 f _ ?_ h
      intro ok b
      have h1 := hx (h_tk_1 q) b
      have h2 := h_plain_len hr (b + (x.2.1 b).length + 1) ok
      have e1 : (h_adv x.1).2.1 = x.1.2.1 + 1 := rfl
      simp only [h_skip, List.length_append, List.length_cons, List.length_nil]
      omega
    · rename_i q
      rw [if_neg q] at h
      exact hx h
theorem h_both_len {T : Tk} {od : Bool} {rec : Option (Ps → Rt)} (hr : h_lnt rec) {d : Nat} {s : Ps} (b : Nat) (h : (h_both T od rec d s).1.1 = true) : ((h_both T od rec d s).2.1 b).length + s.2.1 ≤ (h_both T od rec d s).1.2.1 := h_bl_len hr s.2.1 hN _ (fun ok b => h_plain_len hr b ok) h b
theorem h_ol_len {T : Tk} {od : Bool} {rec : Option (Ps → Rt)} (hr : h_lnt rec) {d : Nat} (t0 : Nat) : ∀ f (x : Rt), (x.1.1 = true → ∀ b, (x.2.1 b).length + t0 ≤ x.1.2.1) → (h_ol T od rec d f x).1.1 = true → ∀ b, ((h_ol T od rec d f x).2.1 b).length + t0 ≤ (h_ol T od rec d f x).1.2.1
  | 0, x, hx, h => hx h
  | f + 1, x, hx, h => by
    unfold h_ol at h ⊢
    split
    · rename_i q
      rw [if_pos q] at h
      refine h_ol_len hr t0 f _ ?_ h
      intro ok b
      have h1 := hx (h_tk_1 q) b
      have h2 := h_both_len hr (b + (x.2.1 b).length + 1) ok
      have e1 : (h_adv x.1).2.1 = x.1.2.1 + 1 := rfl
      simp only [h_skip, List.length_append, List.length_cons, List.length_nil]
      omega
    · rename_i q
      rw [if_neg q] at h
      exact hx h
theorem h_test_len {T : Tk} {od : Bool} : ∀ d {s : Ps} (b : Nat), (h_test T od d s).1.1 = true → ((h_test T od d s).2.1 b).length + s.2.1 ≤ (h_test T od d s).1.2.1
  | 0, s, b, h => h_ol_len (fun r e => by cases e) s.2.1 hN _ (fun ok b => h_both_len (fun r e => by cases e) b ok) h b
  | d + 1, s, b, h => h_ol_len (fun r e s b hs => by cases Option.some.inj e; exact h_test_len d b hs) s.2.1 hN _ (fun ok b => h_both_len (fun r e s b hs => by cases Option.some.inj e; exact h_test_len d b hs) b ok) h b
theorem h_testr_len {T : Tk} {od : Bool} (d : Nat) : h_lnt (h_testr T od d) := by
  cases d with
  | zero => exact fun r e => by cases e
  | succ d => exact fun r e s b hs => by cases Option.some.inj e; exact h_test_len d b hs
theorem C_cmp {F : Nat × Nat} {h : jH} {T : Tk} {ct vt pl : Nat → Nat} {n : Nat} (C : CT h T ct vt pl n) (h2 : jH) {t : Nat} (ht : t ≤ n) : m_P_comparingOp F (nI (ct t)) h2 = some (some (.int (if T.1 t = 160 ∨ T.1 t = 162 ∨ T.1 t = 161 then nI (h_op (T.1 t)) else mI 0)), h2) := by
  have c1 := C.eq ht 60 160 (by decide)
  have c2 := C.eq ht 62 162 (by decide)
  have c3 := C.eq ht 61 161 (by decide)
  have b1 := (C.2.2.2.2.2.2.1 t).1
  by_cases q1 : T.1 t = 160
  · simp (disch := first | exact sR_rfl _ _ rfl | omega) only [q_P_comparingOp, ft_lit, ft_m1, ft_m2, ft_m3, ft_m5, ft_m6, ft_cl, ft_lt, ft_le, ft_eq, ft_mlt, ft_ltm, ft_mltm, ft_meq, ft_eqm, ft_meqm, ft_add, ft_mul, ft_sub, ft_nm, ft_m1p, ft_and, ft_or, ft_31, ft_shl, ft_shr, ft_bz, ft_z0, ft_z1, ft_z01, ft_bb, ft_zt, ft_zf, ft_or0, ft_rv, ft_rvr, ft_rf, ft_rfn, ft_bI, ft_bJ, ft_bV, ft_bR, ft_bRn, ft_isr, ft_isn, ft_ifn, ft_ifr, ft_ov, ft_ovn, ft_in, k_sI, n_sI, R_sI, J_sI, c_sI, z_sI, k_sJ, n_sJ, R_sJ, I_sJ, c_sJ, z_sJ, k_sR, n_sR, I_sR, J_sR, c_sR, z_sR, k_wI, n_wI, R_wI, J_wI, I_wIe, k_wJ, n_wJ, R_wJ, I_wJ, J_wJe, I_wIn, J_wJn, I_sIe, J_sJe, R_sRe, I_sIn, I_sIk, J_sJn, J_sJk, R_sRn, R_sRk, eq_self, if_true, if_false, ↓reduceIte, cond_true, cond_false, ↓cond_eq_ite, and_true, true_and, and_false, false_and, or_true, true_or, or_false, false_or, not_true_eq_false, not_false_eq_true, ft_ltT, ft_ltF, ft_eqT, ft_eqF, Bool.false_eq_true, Bool.true_eq_false, Bool.not_true, Bool.not_false, Bool.and_true, Bool.true_and, Bool.and_false, Bool.false_and, decide_true, decide_false, Nat.reduceAdd, Nat.reduceMul, Nat.reduceSub, Nat.reduceEqDiff, Nat.reduceLT, Nat.zero_add, Nat.add_zero, Nat.reduceDiv, Nat.reduceMod, c1, q1, h_op]
  · by_cases q2 : T.1 t = 162
    · simp (disch := first | exact sR_rfl _ _ rfl | omega) only [q_P_comparingOp, ft_lit, ft_m1, ft_m2, ft_m3, ft_m5, ft_m6, ft_cl, ft_lt, ft_le, ft_eq, ft_mlt, ft_ltm, ft_mltm, ft_meq, ft_eqm, ft_meqm, ft_add, ft_mul, ft_sub, ft_nm, ft_m1p, ft_and, ft_or, ft_31, ft_shl, ft_shr, ft_bz, ft_z0, ft_z1, ft_z01, ft_bb, ft_zt, ft_zf, ft_or0, ft_rv, ft_rvr, ft_rf, ft_rfn, ft_bI, ft_bJ, ft_bV, ft_bR, ft_bRn, ft_isr, ft_isn, ft_ifn, ft_ifr, ft_ov, ft_ovn, ft_in, k_sI, n_sI, R_sI, J_sI, c_sI, z_sI, k_sJ, n_sJ, R_sJ, I_sJ, c_sJ, z_sJ, k_sR, n_sR, I_sR, J_sR, c_sR, z_sR, k_wI, n_wI, R_wI, J_wI, I_wIe, k_wJ, n_wJ, R_wJ, I_wJ, J_wJe, I_wIn, J_wJn, I_sIe, J_sJe, R_sRe, I_sIn, I_sIk, J_sJn, J_sJk, R_sRn, R_sRk, eq_self, if_true, if_false, ↓reduceIte, cond_true, cond_false, ↓cond_eq_ite, and_true, true_and, and_false, false_and, or_true, true_or, or_false, false_or, not_true_eq_false, not_false_eq_true, ft_ltT, ft_ltF, ft_eqT, ft_eqF, Bool.false_eq_true, Bool.true_eq_false, Bool.not_true, Bool.not_false, Bool.and_true, Bool.true_and, Bool.and_false, Bool.false_and, decide_true, decide_false, Nat.reduceAdd, Nat.reduceMul, Nat.reduceSub, Nat.reduceEqDiff, Nat.reduceLT, Nat.zero_add, Nat.add_zero, Nat.reduceDiv, Nat.reduceMod, c1, c2, c3, q2, h_op]
    · by_cases q3 : T.1 t = 161
      · simp (disch := first | exact sR_rfl _ _ rfl | omega) only [q_P_comparingOp, ft_lit, ft_m1, ft_m2, ft_m3, ft_m5, ft_m6, ft_cl, ft_lt, ft_le, ft_eq, ft_mlt, ft_ltm, ft_mltm, ft_meq, ft_eqm, ft_meqm, ft_add, ft_mul, ft_sub, ft_nm, ft_m1p, ft_and, ft_or, ft_31, ft_shl, ft_shr, ft_bz, ft_z0, ft_z1, ft_z01, ft_bb, ft_zt, ft_zf, ft_or0, ft_rv, ft_rvr, ft_rf, ft_rfn, ft_bI, ft_bJ, ft_bV, ft_bR, ft_bRn, ft_isr, ft_isn, ft_ifn, ft_ifr, ft_ov, ft_ovn, ft_in, k_sI, n_sI, R_sI, J_sI, c_sI, z_sI, k_sJ, n_sJ, R_sJ, I_sJ, c_sJ, z_sJ, k_sR, n_sR, I_sR, J_sR, c_sR, z_sR, k_wI, n_wI, R_wI, J_wI, I_wIe, k_wJ, n_wJ, R_wJ, I_wJ, J_wJe, I_wIn, J_wJn, I_sIe, J_sJe, R_sRe, I_sIn, I_sIk, J_sJn, J_sJk, R_sRn, R_sRk, eq_self, if_true, if_false, ↓reduceIte, cond_true, cond_false, ↓cond_eq_ite, and_true, true_and, and_false, false_and, or_true, true_or, or_false, false_or, not_true_eq_false, not_false_eq_true, ft_ltT, ft_ltF, ft_eqT, ft_eqF, Bool.false_eq_true, Bool.true_eq_false, Bool.not_true, Bool.not_false, Bool.and_true, Bool.true_and, Bool.and_false, Bool.false_and, decide_true, decide_false, Nat.reduceAdd, Nat.reduceMul, Nat.reduceSub, Nat.reduceEqDiff, Nat.reduceLT, Nat.zero_add, Nat.add_zero, Nat.reduceDiv, Nat.reduceMod, c1, c2, c3, q3, h_op]
      · simp (disch := first | exact sR_rfl _ _ rfl | omega) only [q_P_comparingOp, ft_lit, ft_m1, ft_m2, ft_m3, ft_m5, ft_m6, ft_cl, ft_lt, ft_le, ft_eq, ft_mlt, ft_ltm, ft_mltm, ft_meq, ft_eqm, ft_meqm, ft_add, ft_mul, ft_sub, ft_nm, ft_m1p, ft_and, ft_or, ft_31, ft_shl, ft_shr, ft_bz, ft_z0, ft_z1, ft_z01, ft_bb, ft_zt, ft_zf, ft_or0, ft_rv, ft_rvr, ft_rf, ft_rfn, ft_bI, ft_bJ, ft_bV, ft_bR, ft_bRn, ft_isr, ft_isn, ft_ifn, ft_ifr, ft_ov, ft_ovn, ft_in, k_sI, n_sI, R_sI, J_sI, c_sI, z_sI, k_sJ, n_sJ, R_sJ, I_sJ, c_sJ, z_sJ, k_sR, n_sR, I_sR, J_sR, c_sR, z_sR, k_wI, n_wI, R_wI, J_wI, I_wIe, k_wJ, n_wJ, R_wJ, I_wJ, J_wJe, I_wIn, J_wJn, I_sIe, J_sJe, R_sRe, I_sIn, I_sIk, J_sJn, J_sJk, R_sRn, R_sRk, eq_self, if_true, if_false, ↓reduceIte, cond_true, cond_false, ↓cond_eq_ite, and_true, true_and, and_false, false_and, or_true, true_or, or_false, false_or, not_true_eq_false, not_false_eq_true, ft_ltT, ft_ltF, ft_eqT, ft_eqF, Bool.false_eq_true, Bool.true_eq_false, Bool.not_true, Bool.not_false, Bool.and_true, Bool.true_and, Bool.and_false, Bool.false_and, decide_true, decide_false, Nat.reduceAdd, Nat.reduceMul, Nat.reduceSub, Nat.reduceEqDiff, Nat.reduceLT, Nat.zero_add, Nat.add_zero, Nat.reduceDiv, Nat.reduceMod, c1, c2, c3, q1, q2, q3]
theorem C_cmp_b {F : Nat × Nat} {h : jH} {T : Tk} {ct vt pl : Nat → Nat} {n : Nat} (C : CT h T ct vt pl n) (h2 : jH) {t : Nat} (ht : t ≤ n) (ff : Int32 → jH → Option jO) : jbI (m_P_comparingOp F (nI (ct t)) h2) ff = ff ((if T.1 t = 160 ∨ T.1 t = 162 ∨ T.1 t = 161 then nI (h_op (T.1 t)) else mI 0)) (h2) := bI_of (C_cmp (F := F) (h := h) (T := T) (ct := ct) (vt := vt) (pl := pl) (n := n) (C := C) (h2 := h2) (t := t) (ht := ht)) ff
/-- the end of a plain test: the comparison's op, then a "not" -/
theorem C_emx {F : Nat × Nat} {h : jH} {ct vt : Nat → Nat} (S : ShP h) (o : Option Nat) (ho : ∀ q, o = some q → q < 32) {t l sz : Nat} {code : Nat → Int32} {c : List Nat} (hs : sz + c.length < 480) : m_P_emitIfAny F 60 (oI o) (hC h ct vt t l (sz + c.length) (cput code sz c)) = some (none, hC h ct vt t l (sz + (c ++ o.toList).length) (cput code sz (c ++ o.toList))) := by
  cases o with
  | none =>
    simp only [oI, Option.toList_none, List.append_nil]
    exact C_emN
  | some q =>
    have e := C_emA (F := F) (h := h) (ct := ct) (vt := vt) S (t := t) (l := l) (sz := sz + c.length) (op := q) (code := cput code sz c) hs (ho q rfl)
    rw [cput_snoc] at e
    simp only [oI, Option.toList_some, List.length_append, List.length_cons, List.length_nil]
    exact e
theorem C_emx_b {F : Nat × Nat} {h : jH} {ct vt : Nat → Nat} (S : ShP h) (o : Option Nat) (ho : ∀ q, o = some q → q < 32) {t l sz : Nat} {code : Nat → Int32} {c : List Nat} (hs : sz + c.length < 480) (ff : jH → Option jO) : jbV (m_P_emitIfAny F 60 (oI o) (hC h ct vt t l (sz + c.length) (cput code sz c))) ff = ff (hC h ct vt t l (sz + (c ++ o.toList).length) (cput code sz (c ++ o.toList))) := bV_of (C_emx (F := F) (h := h) (ct := ct) (vt := vt) (S := S) (o := o) (ho := ho) (t := t) (l := l) (sz := sz) (code := code) (c := c) (hs := hs)) ff
theorem C_posi {F : Nat × Nat} (hF : FF F) {h : jH} {T : Tk} {ct vt pl : Nat → Nat} {n : Nat} {od : Bool} (S : ShP h) (C : CT h T ct vt pl n) (O : j_I h 60 11 = nI (ft_z od)) {rc : Nat → List Value → jH → Option jO} {dp d : Nat} (hd : dp + d = 8) (hrc : ∀ e, d = e + 1 → ∀ t l sz code, t ≤ n → l ≤ 50 → sz ≤ t + 40 → Cr h ct vt pl sz code (rc 72 [.ref 60, .int (nI dp + nI 1)] (hC h ct vt t l sz code)) (h_test T od e (true, t, l)).1 ((h_test T od e (true, t, l)).2.1 sz)) (nb : Bool) {t l sz : Nat} {code : Nat → Int32} (ht : t ≤ n) (hl : l ≤ 50) (hsz : sz + ft_z nb ≤ t + 40) : Cr h ct vt pl sz code (m_P_readsPlain_51 F rc 60 (nI dp) (mI 0) (nI (ft_z nb)) (hC h ct vt t l sz code)) (h_posi T od (h_testr T od d) d (true, t, l)).1 ((h_posi T od (h_testr T od d) d (true, t, l)).2.1 sz ++ (if nb then [3] else [])) := by
  have hn := C.2.1
  have hT := C.2.2.1
  have b1 := (C.2.2.2.2.2.2.1 t).1
  have c40 := C.eq ht 40 140 (by decide)
  have fa := fun {t l sz} {code : Nat → Int32} (ht : t ≤ n) => C_fails_b (F := F) S C (l := l) (sz := sz) (code := code) ht
  have hz := ft_z_le nb
  by_cases q : T.1 t = 140
  · have hlt : t < n := by
      have : t ≠ n := fun z => by rw [z, hT] at q; omega
      omega
    have go := C_goTo_b (F := F) S C (l := l) (sz := sz) (code := code) hlt
    unfold h_posi
    rw [if_neg (by simp), if_pos q]
    cases d with
    | zero =>
      have : dp = 8 := by omega
      subst this
      refine ⟨fun z => (nomatch z), fun _ => ⟨l, sz, code, ?_⟩⟩
      simp (disch := first | exact sR_rfl _ _ rfl | omega) only [q_P_readsPlain_51, ft_lit, ft_m1, ft_m2, ft_m3, ft_m5, ft_m6, ft_cl, ft_lt, ft_le, ft_eq, ft_mlt, ft_ltm, ft_mltm, ft_meq, ft_eqm, ft_meqm, ft_add, ft_mul, ft_sub, ft_nm, ft_m1p, ft_and, ft_or, ft_31, ft_shl, ft_shr, ft_bz, ft_z0, ft_z1, ft_z01, ft_bb, ft_zt, ft_zf, ft_or0, ft_rv, ft_rvr, ft_rf, ft_rfn, ft_bI, ft_bJ, ft_bV, ft_bR, ft_bRn, ft_isr, ft_isn, ft_ifn, ft_ifr, ft_ov, ft_ovn, ft_in, k_sI, n_sI, R_sI, J_sI, c_sI, z_sI, k_sJ, n_sJ, R_sJ, I_sJ, c_sJ, z_sJ, k_sR, n_sR, I_sR, J_sR, c_sR, z_sR, k_wI, n_wI, R_wI, J_wI, I_wIe, k_wJ, n_wJ, R_wJ, I_wJ, J_wJe, I_wIn, J_wJn, I_sIe, J_sJe, R_sRe, I_sIn, I_sIk, J_sJn, J_sJk, R_sRn, R_sRk, eq_self, if_true, if_false, ↓reduceIte, cond_true, cond_false, ↓cond_eq_ite, and_true, true_and, and_false, false_and, or_true, true_or, or_false, false_or, not_true_eq_false, not_false_eq_true, ft_ltT, ft_ltF, ft_eqT, ft_eqF, Bool.false_eq_true, Bool.true_eq_false, Bool.not_true, Bool.not_false, Bool.and_true, Bool.true_and, Bool.and_false, Bool.false_and, decide_true, decide_false, Nat.reduceAdd, Nat.reduceMul, Nat.reduceSub, Nat.reduceEqDiff, Nat.reduceLT, Nat.zero_add, Nat.add_zero, Nat.reduceDiv, Nat.reduceMod, S.1, S.2.1, S.2.2.1, S.2.2.2.1, S.2.2.2.2.1, S.2.2.2.2.2.1, S.2.2.2.2.2.2.1, S.2.2.2.2.2.2.2.1, S.2.2.2.2.2.2.2.2.1, S.2.2.2.2.2.2.2.2.2.1, S.2.2.2.2.2.2.2.2.2.2.1, S.2.2.2.2.2.2.2.2.2.2.2.1, S.2.2.2.2.2.2.2.2.2.2.2.2.1, S.2.2.2.2.2.2.2.2.2.2.2.2.2.1, S.2.2.2.2.2.2.2.2.2.2.2.2.2.2, ↓sp_3 S, ↓sp_4 S, ↓sp_5 S, ↓sp_6 S, ↓sp_0 S, hC_k, hC_8, c40, q, ↓fa, h_testr, h_flt]
    | succ e =>
      simp only [h_testr]
      have a0 : h_adv (true, t, l) = (true, t + 1, l) := rfl
      rw [a0]
      obtain ⟨r1, r2⟩ := hrc e rfl (t + 1) l sz code hlt hl (by omega)
      have k1 := h_test_ok (od := od) hT e (s := (true, t + 1, l)) hlt
      have k3 := h_test_len (T := T) (od := od) e (s := (true, t + 1, l)) sz
      generalize h_test T od e (true, t + 1, l) = z at r1 r2 k1 k3 ⊢
      obtain ⟨⟨zb, zt, zl⟩, zc, zd⟩ := z
      simp only at r1 r2 k3 ⊢
      have hzt : zt ≤ n := k1.1
      cases zb
      · obtain ⟨l', sz', code', r2⟩ := r2 rfl
        have r0 := bI_of r2
        refine ⟨fun z => ?_, fun _ => ⟨l', sz', code', ?_⟩⟩
        · simp [h_must, h_tk, h_flt] at z
        · simp (disch := first | exact sR_rfl _ _ rfl | omega) only [q_P_readsPlain_51, ft_lit, ft_m1, ft_m2, ft_m3, ft_m5, ft_m6, ft_cl, ft_lt, ft_le, ft_eq, ft_mlt, ft_ltm, ft_mltm, ft_meq, ft_eqm, ft_meqm, ft_add, ft_mul, ft_sub, ft_nm, ft_m1p, ft_and, ft_or, ft_31, ft_shl, ft_shr, ft_bz, ft_z0, ft_z1, ft_z01, ft_bb, ft_zt, ft_zf, ft_or0, ft_rv, ft_rvr, ft_rf, ft_rfn, ft_bI, ft_bJ, ft_bV, ft_bR, ft_bRn, ft_isr, ft_isn, ft_ifn, ft_ifr, ft_ov, ft_ovn, ft_in, k_sI, n_sI, R_sI, J_sI, c_sI, z_sI, k_sJ, n_sJ, R_sJ, I_sJ, c_sJ, z_sJ, k_sR, n_sR, I_sR, J_sR, c_sR, z_sR, k_wI, n_wI, R_wI, J_wI, I_wIe, k_wJ, n_wJ, R_wJ, I_wJ, J_wJe, I_wIn, J_wJn, I_sIe, J_sJe, R_sRe, I_sIn, I_sIk, J_sJn, J_sJk, R_sRn, R_sRk, eq_self, if_true, if_false, ↓reduceIte, cond_true, cond_false, ↓cond_eq_ite, and_true, true_and, and_false, false_and, or_true, true_or, or_false, false_or, not_true_eq_false, not_false_eq_true, ft_ltT, ft_ltF, ft_eqT, ft_eqF, Bool.false_eq_true, Bool.true_eq_false, Bool.not_true, Bool.not_false, Bool.and_true, Bool.true_and, Bool.and_false, Bool.false_and, decide_true, decide_false, Nat.reduceAdd, Nat.reduceMul, Nat.reduceSub, Nat.reduceEqDiff, Nat.reduceLT, Nat.zero_add, Nat.add_zero, Nat.reduceDiv, Nat.reduceMod, S.1, S.2.1, S.2.2.1, S.2.2.2.1, S.2.2.2.2.1, S.2.2.2.2.2.1, S.2.2.2.2.2.2.1, S.2.2.2.2.2.2.2.1, S.2.2.2.2.2.2.2.2.1, S.2.2.2.2.2.2.2.2.2.1, S.2.2.2.2.2.2.2.2.2.2.1, S.2.2.2.2.2.2.2.2.2.2.2.1, S.2.2.2.2.2.2.2.2.2.2.2.2.1, S.2.2.2.2.2.2.2.2.2.2.2.2.2.1, S.2.2.2.2.2.2.2.2.2.2.2.2.2.2, ↓sp_3 S, ↓sp_4 S, ↓sp_5 S, ↓sp_6 S, ↓sp_0 S, hC_k, hC_8, c40, q, ↓go, ↓r0, h_must, h_tk, h_flt]
      · have r0 := bI_of (r1 rfl)
        have hlen := k3 rfl
        have b6 := (C.2.2.2.2.2.2.1 zt).1
        have c41 := C.eq hzt 41 141 (by decide)
        by_cases q2 : T.1 zt = 141
        · have hlt2 : zt < n := by
            have : zt ≠ n := fun z => by rw [z, hT] at q2; omega
            omega
          have hm : h_must T 141 (true, zt, zl) = (true, zt + 1, zl) := by unfold h_must h_tk h_adv; simp [q2]
          rw [hm]
          have go2 := C_goTo_b (F := F) S C (l := zl) (sz := sz + (zc sz).length) (code := cput code sz (zc sz)) hlt2
          have en := fun hh => bV_of (C_emN (F := F) (h := hh))
          have em := bV_of (C_emx (F := F) (h := h) (ct := ct) (vt := vt) S (some 3) (fun q hq => by cases Option.some.inj hq; omega) (t := zt + 1) (l := zl) (sz := sz) (code := code) (c := zc sz) (by omega))
          simp only [oI, Option.toList_some] at em
          refine ⟨fun _ => ?_, fun z => (nomatch z)⟩
          cases nb
          · simp (disch := first | exact sR_rfl _ _ rfl | omega) only [q_P_readsPlain_51, ft_lit, ft_m1, ft_m2, ft_m3, ft_m5, ft_m6, ft_cl, ft_lt, ft_le, ft_eq, ft_mlt, ft_ltm, ft_mltm, ft_meq, ft_eqm, ft_meqm, ft_add, ft_mul, ft_sub, ft_nm, ft_m1p, ft_and, ft_or, ft_31, ft_shl, ft_shr, ft_bz, ft_z0, ft_z1, ft_z01, ft_bb, ft_zt, ft_zf, ft_or0, ft_rv, ft_rvr, ft_rf, ft_rfn, ft_bI, ft_bJ, ft_bV, ft_bR, ft_bRn, ft_isr, ft_isn, ft_ifn, ft_ifr, ft_ov, ft_ovn, ft_in, k_sI, n_sI, R_sI, J_sI, c_sI, z_sI, k_sJ, n_sJ, R_sJ, I_sJ, c_sJ, z_sJ, k_sR, n_sR, I_sR, J_sR, c_sR, z_sR, k_wI, n_wI, R_wI, J_wI, I_wIe, k_wJ, n_wJ, R_wJ, I_wJ, J_wJe, I_wIn, J_wJn, I_sIe, J_sJe, R_sRe, I_sIn, I_sIk, J_sJn, J_sJk, R_sRn, R_sRk, eq_self, if_true, if_false, ↓reduceIte, cond_true, cond_false, ↓cond_eq_ite, and_true, true_and, and_false, false_and, or_true, true_or, or_false, false_or, not_true_eq_false, not_false_eq_true, ft_ltT, ft_ltF, ft_eqT, ft_eqF, Bool.false_eq_true, Bool.true_eq_false, Bool.not_true, Bool.not_false, Bool.and_true, Bool.true_and, Bool.and_false, Bool.false_and, decide_true, decide_false, Nat.reduceAdd, Nat.reduceMul, Nat.reduceSub, Nat.reduceEqDiff, Nat.reduceLT, Nat.zero_add, Nat.add_zero, Nat.reduceDiv, Nat.reduceMod, S.1, S.2.1, S.2.2.1, S.2.2.2.1, S.2.2.2.2.1, S.2.2.2.2.2.1, S.2.2.2.2.2.2.1, S.2.2.2.2.2.2.2.1, S.2.2.2.2.2.2.2.2.1, S.2.2.2.2.2.2.2.2.2.1, S.2.2.2.2.2.2.2.2.2.2.1, S.2.2.2.2.2.2.2.2.2.2.2.1, S.2.2.2.2.2.2.2.2.2.2.2.2.1, S.2.2.2.2.2.2.2.2.2.2.2.2.2.1, S.2.2.2.2.2.2.2.2.2.2.2.2.2.2, ↓sp_3 S, ↓sp_4 S, ↓sp_5 S, ↓sp_6 S, ↓sp_0 S, hC_k, hC_8, c40, c41, q, q2, ↓go, ↓r0, ↓go2, ↓en, List.append_nil]
          · simp (disch := first | exact sR_rfl _ _ rfl | omega) only [q_P_readsPlain_51, ft_lit, ft_m1, ft_m2, ft_m3, ft_m5, ft_m6, ft_cl, ft_lt, ft_le, ft_eq, ft_mlt, ft_ltm, ft_mltm, ft_meq, ft_eqm, ft_meqm, ft_add, ft_mul, ft_sub, ft_nm, ft_m1p, ft_and, ft_or, ft_31, ft_shl, ft_shr, ft_bz, ft_z0, ft_z1, ft_z01, ft_bb, ft_zt, ft_zf, ft_or0, ft_rv, ft_rvr, ft_rf, ft_rfn, ft_bI, ft_bJ, ft_bV, ft_bR, ft_bRn, ft_isr, ft_isn, ft_ifn, ft_ifr, ft_ov, ft_ovn, ft_in, k_sI, n_sI, R_sI, J_sI, c_sI, z_sI, k_sJ, n_sJ, R_sJ, I_sJ, c_sJ, z_sJ, k_sR, n_sR, I_sR, J_sR, c_sR, z_sR, k_wI, n_wI, R_wI, J_wI, I_wIe, k_wJ, n_wJ, R_wJ, I_wJ, J_wJe, I_wIn, J_wJn, I_sIe, J_sJe, R_sRe, I_sIn, I_sIk, J_sJn, J_sJk, R_sRn, R_sRk, eq_self, if_true, if_false, ↓reduceIte, cond_true, cond_false, ↓cond_eq_ite, and_true, true_and, and_false, false_and, or_true, true_or, or_false, false_or, not_true_eq_false, not_false_eq_true, ft_ltT, ft_ltF, ft_eqT, ft_eqF, Bool.false_eq_true, Bool.true_eq_false, Bool.not_true, Bool.not_false, Bool.and_true, Bool.true_and, Bool.and_false, Bool.false_and, decide_true, decide_false, Nat.reduceAdd, Nat.reduceMul, Nat.reduceSub, Nat.reduceEqDiff, Nat.reduceLT, Nat.zero_add, Nat.add_zero, Nat.reduceDiv, Nat.reduceMod, S.1, S.2.1, S.2.2.1, S.2.2.2.1, S.2.2.2.2.1, S.2.2.2.2.2.1, S.2.2.2.2.2.2.1, S.2.2.2.2.2.2.2.1, S.2.2.2.2.2.2.2.2.1, S.2.2.2.2.2.2.2.2.2.1, S.2.2.2.2.2.2.2.2.2.2.1, S.2.2.2.2.2.2.2.2.2.2.2.1, S.2.2.2.2.2.2.2.2.2.2.2.2.1, S.2.2.2.2.2.2.2.2.2.2.2.2.2.1, S.2.2.2.2.2.2.2.2.2.2.2.2.2.2, ↓sp_3 S, ↓sp_4 S, ↓sp_5 S, ↓sp_6 S, ↓sp_0 S, hC_k, hC_8, c40, c41, q, q2, ↓go, ↓r0, ↓go2, ↓en, ↓em]
        · have hm : h_must T 141 (true, zt, zl) = (false, zt, zl) := by unfold h_must h_tk h_flt; simp [q2]
          rw [hm]
          refine ⟨fun z => (nomatch z), fun _ => ⟨zl, sz + (zc sz).length, cput code sz (zc sz), ?_⟩⟩
          simp (disch := first | exact sR_rfl _ _ rfl | omega) only [q_P_readsPlain_51, ft_lit, ft_m1, ft_m2, ft_m3, ft_m5, ft_m6, ft_cl, ft_lt, ft_le, ft_eq, ft_mlt, ft_ltm, ft_mltm, ft_meq, ft_eqm, ft_meqm, ft_add, ft_mul, ft_sub, ft_nm, ft_m1p, ft_and, ft_or, ft_31, ft_shl, ft_shr, ft_bz, ft_z0, ft_z1, ft_z01, ft_bb, ft_zt, ft_zf, ft_or0, ft_rv, ft_rvr, ft_rf, ft_rfn, ft_bI, ft_bJ, ft_bV, ft_bR, ft_bRn, ft_isr, ft_isn, ft_ifn, ft_ifr, ft_ov, ft_ovn, ft_in, k_sI, n_sI, R_sI, J_sI, c_sI, z_sI, k_sJ, n_sJ, R_sJ, I_sJ, c_sJ, z_sJ, k_sR, n_sR, I_sR, J_sR, c_sR, z_sR, k_wI, n_wI, R_wI, J_wI, I_wIe, k_wJ, n_wJ, R_wJ, I_wJ, J_wJe, I_wIn, J_wJn, I_sIe, J_sJe, R_sRe, I_sIn, I_sIk, J_sJn, J_sJk, R_sRn, R_sRk, eq_self, if_true, if_false, ↓reduceIte, cond_true, cond_false, ↓cond_eq_ite, and_true, true_and, and_false, false_and, or_true, true_or, or_false, false_or, not_true_eq_false, not_false_eq_true, ft_ltT, ft_ltF, ft_eqT, ft_eqF, Bool.false_eq_true, Bool.true_eq_false, Bool.not_true, Bool.not_false, Bool.and_true, Bool.true_and, Bool.and_false, Bool.false_and, decide_true, decide_false, Nat.reduceAdd, Nat.reduceMul, Nat.reduceSub, Nat.reduceEqDiff, Nat.reduceLT, Nat.zero_add, Nat.add_zero, Nat.reduceDiv, Nat.reduceMod, S.1, S.2.1, S.2.2.1, S.2.2.2.1, S.2.2.2.2.1, S.2.2.2.2.2.1, S.2.2.2.2.2.2.1, S.2.2.2.2.2.2.2.1, S.2.2.2.2.2.2.2.2.1, S.2.2.2.2.2.2.2.2.2.1, S.2.2.2.2.2.2.2.2.2.2.1, S.2.2.2.2.2.2.2.2.2.2.2.1, S.2.2.2.2.2.2.2.2.2.2.2.2.1, S.2.2.2.2.2.2.2.2.2.2.2.2.2.1, S.2.2.2.2.2.2.2.2.2.2.2.2.2.2, ↓sp_3 S, ↓sp_4 S, ↓sp_5 S, ↓sp_6 S, ↓sp_0 S, hC_k, hC_8, c40, c41, q, q2, ↓go, ↓r0, ↓fa]
  · have hp : h_posi T od (h_testr T od d) d (true, t, l) = ((h_sum T od d (h_cs T (h_sum T od d (true, t, l)).1)).1, fun _ => (h_sum T od d (true, t, l)).2.1 ++ (h_sum T od d (h_cs T (h_sum T od d (true, t, l)).1)).2.1 ++ [h_op (T.1 (h_sum T od d (true, t, l)).1.2.1)], fun e => h_cmp (h_op (T.1 (h_sum T od d (true, t, l)).1.2.1)) ((h_sum T od d (true, t, l)).2.2 e) ((h_sum T od d (h_cs T (h_sum T od d (true, t, l)).1)).2.2 e)) := by
      unfold h_posi
      rw [if_neg (by simp), if_neg q]
    rw [hp]
    clear hp
    simp only
    obtain ⟨r1, r2⟩ := C_sumF hF S C O hd ht hl (sz := sz) (code := code) (by omega)
    have k1 := h_sum_ok (od := od) hT d (s := (true, t, l)) ht
    have k2 := h_sum_lv (T := T) (od := od) d (s := (true, t, l)) ⟨by show l ≤ 51; omega, fun _ => hl⟩
    have k3 := h_sum_len (T := T) (od := od) d (s := (true, t, l))
    generalize h_sum T od d (true, t, l) = z at r1 r2 k1 k2 k3 ⊢
    obtain ⟨⟨zb, zt, zl⟩, zc, zd⟩ := z
    simp only at r1 r2 k3 ⊢
    have hzt : zt ≤ n := k1.1
    have hno : ∀ (d : Nat) t l, (h_sum T od d (false, t, l)).1 = (false, t, l) := by
      intro d t l
      rw [h_sum_eq]
      have e0 : h_part T od (h_sumr T od d) (false, t, l) = ((false, t, l), [], fun _ => none) := by unfold h_part; rw [if_pos rfl]
      unfold h_su h_term
      rw [e0, h_tl_no _ rfl, h_sl_no _ rfl]
    cases zb
    · obtain ⟨l', sz', code', r2⟩ := r2 rfl
      have r0 := bI_of r2
      have hcs : h_cs T (false, zt, zl) = (false, zt, zl) := by simp [h_cs, h_tk, h_must, h_flt]
      rw [hcs, hno]
      refine ⟨fun z => (nomatch z), fun _ => ⟨l', sz', code', ?_⟩⟩
      simp (disch := first | exact sR_rfl _ _ rfl | omega) only [q_P_readsPlain_51, ft_lit, ft_m1, ft_m2, ft_m3, ft_m5, ft_m6, ft_cl, ft_lt, ft_le, ft_eq, ft_mlt, ft_ltm, ft_mltm, ft_meq, ft_eqm, ft_meqm, ft_add, ft_mul, ft_sub, ft_nm, ft_m1p, ft_and, ft_or, ft_31, ft_shl, ft_shr, ft_bz, ft_z0, ft_z1, ft_z01, ft_bb, ft_zt, ft_zf, ft_or0, ft_rv, ft_rvr, ft_rf, ft_rfn, ft_bI, ft_bJ, ft_bV, ft_bR, ft_bRn, ft_isr, ft_isn, ft_ifn, ft_ifr, ft_ov, ft_ovn, ft_in, k_sI, n_sI, R_sI, J_sI, c_sI, z_sI, k_sJ, n_sJ, R_sJ, I_sJ, c_sJ, z_sJ, k_sR, n_sR, I_sR, J_sR, c_sR, z_sR, k_wI, n_wI, R_wI, J_wI, I_wIe, k_wJ, n_wJ, R_wJ, I_wJ, J_wJe, I_wIn, J_wJn, I_sIe, J_sJe, R_sRe, I_sIn, I_sIk, J_sJn, J_sJk, R_sRn, R_sRk, eq_self, if_true, if_false, ↓reduceIte, cond_true, cond_false, ↓cond_eq_ite, and_true, true_and, and_false, false_and, or_true, true_or, or_false, false_or, not_true_eq_false, not_false_eq_true, ft_ltT, ft_ltF, ft_eqT, ft_eqF, Bool.false_eq_true, Bool.true_eq_false, Bool.not_true, Bool.not_false, Bool.and_true, Bool.true_and, Bool.and_false, Bool.false_and, decide_true, decide_false, Nat.reduceAdd, Nat.reduceMul, Nat.reduceSub, Nat.reduceEqDiff, Nat.reduceLT, Nat.zero_add, Nat.add_zero, Nat.reduceDiv, Nat.reduceMod, S.1, S.2.1, S.2.2.1, S.2.2.2.1, S.2.2.2.2.1, S.2.2.2.2.2.1, S.2.2.2.2.2.2.1, S.2.2.2.2.2.2.2.1, S.2.2.2.2.2.2.2.2.1, S.2.2.2.2.2.2.2.2.2.1, S.2.2.2.2.2.2.2.2.2.2.1, S.2.2.2.2.2.2.2.2.2.2.2.1, S.2.2.2.2.2.2.2.2.2.2.2.2.1, S.2.2.2.2.2.2.2.2.2.2.2.2.2.1, S.2.2.2.2.2.2.2.2.2.2.2.2.2.2, ↓sp_3 S, ↓sp_4 S, ↓sp_5 S, ↓sp_6 S, ↓sp_0 S, hC_k, hC_8, c40, q, ↓r0]
    · have r0 := bI_of (r1 rfl)
      have hlen := k3 rfl
      have hzl : zl ≤ 50 := k2.2 rfl
      have b6 := (C.2.2.2.2.2.2.1 zt).1
      have cc := C_cmp_b (F := F) C (hC h ct vt zt zl (sz + zc.length) (cput code sz zc)) hzt
      rw [← hC_8 h ct vt zt zl (sz + zc.length) (cput code sz zc)] at cc
      by_cases q2 : T.1 zt = 160 ∨ T.1 zt = 162 ∨ T.1 zt = 161
      · have hlt2 : zt < n := by
          have : zt ≠ n := fun z => by rw [z, hT] at q2; omega
          omega
        rw [if_pos q2] at cc
        have hop : 11 ≤ h_op (T.1 zt) ∧ h_op (T.1 zt) ≤ 13 := by rcases q2 with q2 | q2 | q2 <;> (rw [q2]; decide)
        have hcs : h_cs T (true, zt, zl) = (true, zt + 1, zl) := by
          unfold h_cs h_must h_tk h_adv
          rcases q2 with q2 | q2 | q2 <;> simp [q2]
        rw [hcs]
        have go2 := C_goTo_b (F := F) S C (l := zl) (sz := sz + zc.length) (code := cput code sz zc) hlt2
        obtain ⟨s1, s2⟩ := C_sumF hF S C O hd (t := zt + 1) (l := zl) hlt2 hzl (sz := sz + zc.length) (code := cput code sz zc) (by omega)
        have k4 := h_sum_ok (od := od) hT d (s := (true, zt + 1, zl)) hlt2
        have k5 := h_sum_len (T := T) (od := od) d (s := (true, zt + 1, zl))
        generalize h_sum T od d (true, zt + 1, zl) = y at s1 s2 k4 k5 ⊢
        obtain ⟨⟨yb, yt, yl⟩, yc, yd⟩ := y
        simp only at s1 s2 k5 ⊢
        cases yb
        · obtain ⟨l', sz', code', s2⟩ := s2 rfl
          have u0 := bI_of s2
          refine ⟨fun z => (nomatch z), fun _ => ⟨l', sz', code', ?_⟩⟩
          simp (disch := first | exact sR_rfl _ _ rfl | omega) only [q_P_readsPlain_51, ft_lit, ft_m1, ft_m2, ft_m3, ft_m5, ft_m6, ft_cl, ft_lt, ft_le, ft_eq, ft_mlt, ft_ltm, ft_mltm, ft_meq, ft_eqm, ft_meqm, ft_add, ft_mul, ft_sub, ft_nm, ft_m1p, ft_and, ft_or, ft_31, ft_shl, ft_shr, ft_bz, ft_z0, ft_z1, ft_z01, ft_bb, ft_zt, ft_zf, ft_or0, ft_rv, ft_rvr, ft_rf, ft_rfn, ft_bI, ft_bJ, ft_bV, ft_bR, ft_bRn, ft_isr, ft_isn, ft_ifn, ft_ifr, ft_ov, ft_ovn, ft_in, k_sI, n_sI, R_sI, J_sI, c_sI, z_sI, k_sJ, n_sJ, R_sJ, I_sJ, c_sJ, z_sJ, k_sR, n_sR, I_sR, J_sR, c_sR, z_sR, k_wI, n_wI, R_wI, J_wI, I_wIe, k_wJ, n_wJ, R_wJ, I_wJ, J_wJe, I_wIn, J_wJn, I_sIe, J_sJe, R_sRe, I_sIn, I_sIk, J_sJn, J_sJk, R_sRn, R_sRk, eq_self, if_true, if_false, ↓reduceIte, cond_true, cond_false, ↓cond_eq_ite, and_true, true_and, and_false, false_and, or_true, true_or, or_false, false_or, not_true_eq_false, not_false_eq_true, ft_ltT, ft_ltF, ft_eqT, ft_eqF, Bool.false_eq_true, Bool.true_eq_false, Bool.not_true, Bool.not_false, Bool.and_true, Bool.true_and, Bool.and_false, Bool.false_and, decide_true, decide_false, Nat.reduceAdd, Nat.reduceMul, Nat.reduceSub, Nat.reduceEqDiff, Nat.reduceLT, Nat.zero_add, Nat.add_zero, Nat.reduceDiv, Nat.reduceMod, S.1, S.2.1, S.2.2.1, S.2.2.2.1, S.2.2.2.2.1, S.2.2.2.2.2.1, S.2.2.2.2.2.2.1, S.2.2.2.2.2.2.2.1, S.2.2.2.2.2.2.2.2.1, S.2.2.2.2.2.2.2.2.2.1, S.2.2.2.2.2.2.2.2.2.2.1, S.2.2.2.2.2.2.2.2.2.2.2.1, S.2.2.2.2.2.2.2.2.2.2.2.2.1, S.2.2.2.2.2.2.2.2.2.2.2.2.2.1, S.2.2.2.2.2.2.2.2.2.2.2.2.2.2, ↓sp_3 S, ↓sp_4 S, ↓sp_5 S, ↓sp_6 S, ↓sp_0 S, hC_k, hC_8, c40, q, ↓r0]
          simp only [hC_8] at cc
          simp (disch := first | exact sR_rfl _ _ rfl | omega) only [↓cc, ft_lit, ft_m1, ft_m2, ft_m3, ft_m5, ft_m6, ft_cl, ft_lt, ft_le, ft_eq, ft_mlt, ft_ltm, ft_mltm, ft_meq, ft_eqm, ft_meqm, ft_add, ft_mul, ft_sub, ft_nm, ft_m1p, ft_and, ft_or, ft_31, ft_shl, ft_shr, ft_bz, ft_z0, ft_z1, ft_z01, ft_bb, ft_zt, ft_zf, ft_or0, ft_rv, ft_rvr, ft_rf, ft_rfn, ft_bI, ft_bJ, ft_bV, ft_bR, ft_bRn, ft_isr, ft_isn, ft_ifn, ft_ifr, ft_ov, ft_ovn, ft_in, k_sI, n_sI, R_sI, J_sI, c_sI, z_sI, k_sJ, n_sJ, R_sJ, I_sJ, c_sJ, z_sJ, k_sR, n_sR, I_sR, J_sR, c_sR, z_sR, k_wI, n_wI, R_wI, J_wI, I_wIe, k_wJ, n_wJ, R_wJ, I_wJ, J_wJe, I_wIn, J_wJn, I_sIe, J_sJe, R_sRe, I_sIn, I_sIk, J_sJn, J_sJk, R_sRn, R_sRk, eq_self, if_true, if_false, ↓reduceIte, cond_true, cond_false, ↓cond_eq_ite, and_true, true_and, and_false, false_and, or_true, true_or, or_false, false_or, not_true_eq_false, not_false_eq_true, ft_ltT, ft_ltF, ft_eqT, ft_eqF, Bool.false_eq_true, Bool.true_eq_false, Bool.not_true, Bool.not_false, Bool.and_true, Bool.true_and, Bool.and_false, Bool.false_and, decide_true, decide_false, Nat.reduceAdd, Nat.reduceMul, Nat.reduceSub, Nat.reduceEqDiff, Nat.reduceLT, Nat.zero_add, Nat.add_zero, Nat.reduceDiv, Nat.reduceMod, S.1, S.2.1, S.2.2.1, S.2.2.2.1, S.2.2.2.2.1, S.2.2.2.2.2.1, S.2.2.2.2.2.2.1, S.2.2.2.2.2.2.2.1, S.2.2.2.2.2.2.2.2.1, S.2.2.2.2.2.2.2.2.2.1, S.2.2.2.2.2.2.2.2.2.2.1, S.2.2.2.2.2.2.2.2.2.2.2.1, S.2.2.2.2.2.2.2.2.2.2.2.2.1, S.2.2.2.2.2.2.2.2.2.2.2.2.2.1, S.2.2.2.2.2.2.2.2.2.2.2.2.2.2, ↓sp_3 S, ↓sp_4 S, ↓sp_5 S, ↓sp_6 S, ↓sp_0 S, hC_k, ↓go2, ↓u0]
        · have u0 := s1 rfl
          rw [cput_app, show sz + zc.length + yc.length = sz + (zc ++ yc).length by simp [Nat.add_assoc]] at u0
          have u0 := bI_of u0
          have hyt : yt ≤ n := k4.1
          have hlen2 := k5 rfl
          have hll : (zc ++ yc).length = zc.length + yc.length := List.length_append
          have em := bV_of (C_emx (F := F) (h := h) (ct := ct) (vt := vt) S (some (h_op (T.1 zt))) (fun q hq => by cases Option.some.inj hq; omega) (t := yt) (l := yl) (sz := sz) (code := code) (c := zc ++ yc) (by omega))
          have hl2 : (zc ++ yc ++ [h_op (T.1 zt)]).length = zc.length + yc.length + 1 := by simp [Nat.add_assoc]
          have em3 := bV_of (C_emx (F := F) (h := h) (ct := ct) (vt := vt) S (some 3) (fun q hq => by cases Option.some.inj hq; omega) (t := yt) (l := yl) (sz := sz) (code := code) (c := zc ++ yc ++ [h_op (T.1 zt)]) (by omega))
          have en := fun hh => bV_of (C_emN (F := F) (h := hh))
          simp only [oI, Option.toList_some] at em em3
          refine ⟨fun _ => ?_, fun z => (nomatch z)⟩
          simp only [hC_8] at cc
          cases nb
          · simp (disch := first | exact sR_rfl _ _ rfl | omega) only [q_P_readsPlain_51, ft_lit, ft_m1, ft_m2, ft_m3, ft_m5, ft_m6, ft_cl, ft_lt, ft_le, ft_eq, ft_mlt, ft_ltm, ft_mltm, ft_meq, ft_eqm, ft_meqm, ft_add, ft_mul, ft_sub, ft_nm, ft_m1p, ft_and, ft_or, ft_31, ft_shl, ft_shr, ft_bz, ft_z0, ft_z1, ft_z01, ft_bb, ft_zt, ft_zf, ft_or0, ft_rv, ft_rvr, ft_rf, ft_rfn, ft_bI, ft_bJ, ft_bV, ft_bR, ft_bRn, ft_isr, ft_isn, ft_ifn, ft_ifr, ft_ov, ft_ovn, ft_in, k_sI, n_sI, R_sI, J_sI, c_sI, z_sI, k_sJ, n_sJ, R_sJ, I_sJ, c_sJ, z_sJ, k_sR, n_sR, I_sR, J_sR, c_sR, z_sR, k_wI, n_wI, R_wI, J_wI, I_wIe, k_wJ, n_wJ, R_wJ, I_wJ, J_wJe, I_wIn, J_wJn, I_sIe, J_sJe, R_sRe, I_sIn, I_sIk, J_sJn, J_sJk, R_sRn, R_sRk, eq_self, if_true, if_false, ↓reduceIte, cond_true, cond_false, ↓cond_eq_ite, and_true, true_and, and_false, false_and, or_true, true_or, or_false, false_or, not_true_eq_false, not_false_eq_true, ft_ltT, ft_ltF, ft_eqT, ft_eqF, Bool.false_eq_true, Bool.true_eq_false, Bool.not_true, Bool.not_false, Bool.and_true, Bool.true_and, Bool.and_false, Bool.false_and, decide_true, decide_false, Nat.reduceAdd, Nat.reduceMul, Nat.reduceSub, Nat.reduceEqDiff, Nat.reduceLT, Nat.zero_add, Nat.add_zero, Nat.reduceDiv, Nat.reduceMod, S.1, S.2.1, S.2.2.1, S.2.2.2.1, S.2.2.2.2.1, S.2.2.2.2.2.1, S.2.2.2.2.2.2.1, S.2.2.2.2.2.2.2.1, S.2.2.2.2.2.2.2.2.1, S.2.2.2.2.2.2.2.2.2.1, S.2.2.2.2.2.2.2.2.2.2.1, S.2.2.2.2.2.2.2.2.2.2.2.1, S.2.2.2.2.2.2.2.2.2.2.2.2.1, S.2.2.2.2.2.2.2.2.2.2.2.2.2.1, S.2.2.2.2.2.2.2.2.2.2.2.2.2.2, ↓sp_3 S, ↓sp_4 S, ↓sp_5 S, ↓sp_6 S, ↓sp_0 S, hC_k, hC_8, c40, q, ↓r0]
            simp (disch := first | exact sR_rfl _ _ rfl | omega) only [↓cc, ft_lit, ft_m1, ft_m2, ft_m3, ft_m5, ft_m6, ft_cl, ft_lt, ft_le, ft_eq, ft_mlt, ft_ltm, ft_mltm, ft_meq, ft_eqm, ft_meqm, ft_add, ft_mul, ft_sub, ft_nm, ft_m1p, ft_and, ft_or, ft_31, ft_shl, ft_shr, ft_bz, ft_z0, ft_z1, ft_z01, ft_bb, ft_zt, ft_zf, ft_or0, ft_rv, ft_rvr, ft_rf, ft_rfn, ft_bI, ft_bJ, ft_bV, ft_bR, ft_bRn, ft_isr, ft_isn, ft_ifn, ft_ifr, ft_ov, ft_ovn, ft_in, k_sI, n_sI, R_sI, J_sI, c_sI, z_sI, k_sJ, n_sJ, R_sJ, I_sJ, c_sJ, z_sJ, k_sR, n_sR, I_sR, J_sR, c_sR, z_sR, k_wI, n_wI, R_wI, J_wI, I_wIe, k_wJ, n_wJ, R_wJ, I_wJ, J_wJe, I_wIn, J_wJn, I_sIe, J_sJe, R_sRe, I_sIn, I_sIk, J_sJn, J_sJk, R_sRn, R_sRk, eq_self, if_true, if_false, ↓reduceIte, cond_true, cond_false, ↓cond_eq_ite, and_true, true_and, and_false, false_and, or_true, true_or, or_false, false_or, not_true_eq_false, not_false_eq_true, ft_ltT, ft_ltF, ft_eqT, ft_eqF, Bool.false_eq_true, Bool.true_eq_false, Bool.not_true, Bool.not_false, Bool.and_true, Bool.true_and, Bool.and_false, Bool.false_and, decide_true, decide_false, Nat.reduceAdd, Nat.reduceMul, Nat.reduceSub, Nat.reduceEqDiff, Nat.reduceLT, Nat.zero_add, Nat.add_zero, Nat.reduceDiv, Nat.reduceMod, S.1, S.2.1, S.2.2.1, S.2.2.2.1, S.2.2.2.2.1, S.2.2.2.2.2.1, S.2.2.2.2.2.2.1, S.2.2.2.2.2.2.2.1, S.2.2.2.2.2.2.2.2.1, S.2.2.2.2.2.2.2.2.2.1, S.2.2.2.2.2.2.2.2.2.2.1, S.2.2.2.2.2.2.2.2.2.2.2.1, S.2.2.2.2.2.2.2.2.2.2.2.2.1, S.2.2.2.2.2.2.2.2.2.2.2.2.2.1, S.2.2.2.2.2.2.2.2.2.2.2.2.2.2, ↓sp_3 S, ↓sp_4 S, ↓sp_5 S, ↓sp_6 S, ↓sp_0 S, hC_k, ↓go2, ↓u0, ↓em, ↓en, List.append_nil]
          · simp (disch := first | exact sR_rfl _ _ rfl | omega) only [q_P_readsPlain_51, ft_lit, ft_m1, ft_m2, ft_m3, ft_m5, ft_m6, ft_cl, ft_lt, ft_le, ft_eq, ft_mlt, ft_ltm, ft_mltm, ft_meq, ft_eqm, ft_meqm, ft_add, ft_mul, ft_sub, ft_nm, ft_m1p, ft_and, ft_or, ft_31, ft_shl, ft_shr, ft_bz, ft_z0, ft_z1, ft_z01, ft_bb, ft_zt, ft_zf, ft_or0, ft_rv, ft_rvr, ft_rf, ft_rfn, ft_bI, ft_bJ, ft_bV, ft_bR, ft_bRn, ft_isr, ft_isn, ft_ifn, ft_ifr, ft_ov, ft_ovn, ft_in, k_sI, n_sI, R_sI, J_sI, c_sI, z_sI, k_sJ, n_sJ, R_sJ, I_sJ, c_sJ, z_sJ, k_sR, n_sR, I_sR, J_sR, c_sR, z_sR, k_wI, n_wI, R_wI, J_wI, I_wIe, k_wJ, n_wJ, R_wJ, I_wJ, J_wJe, I_wIn, J_wJn, I_sIe, J_sJe, R_sRe, I_sIn, I_sIk, J_sJn, J_sJk, R_sRn, R_sRk, eq_self, if_true, if_false, ↓reduceIte, cond_true, cond_false, ↓cond_eq_ite, and_true, true_and, and_false, false_and, or_true, true_or, or_false, false_or, not_true_eq_false, not_false_eq_true, ft_ltT, ft_ltF, ft_eqT, ft_eqF, Bool.false_eq_true, Bool.true_eq_false, Bool.not_true, Bool.not_false, Bool.and_true, Bool.true_and, Bool.and_false, Bool.false_and, decide_true, decide_false, Nat.reduceAdd, Nat.reduceMul, Nat.reduceSub, Nat.reduceEqDiff, Nat.reduceLT, Nat.zero_add, Nat.add_zero, Nat.reduceDiv, Nat.reduceMod, S.1, S.2.1, S.2.2.1, S.2.2.2.1, S.2.2.2.2.1, S.2.2.2.2.2.1, S.2.2.2.2.2.2.1, S.2.2.2.2.2.2.2.1, S.2.2.2.2.2.2.2.2.1, S.2.2.2.2.2.2.2.2.2.1, S.2.2.2.2.2.2.2.2.2.2.1, S.2.2.2.2.2.2.2.2.2.2.2.1, S.2.2.2.2.2.2.2.2.2.2.2.2.1, S.2.2.2.2.2.2.2.2.2.2.2.2.2.1, S.2.2.2.2.2.2.2.2.2.2.2.2.2.2, ↓sp_3 S, ↓sp_4 S, ↓sp_5 S, ↓sp_6 S, ↓sp_0 S, hC_k, hC_8, c40, q, ↓r0]
            simp (disch := first | exact sR_rfl _ _ rfl | omega) only [↓cc, ft_lit, ft_m1, ft_m2, ft_m3, ft_m5, ft_m6, ft_cl, ft_lt, ft_le, ft_eq, ft_mlt, ft_ltm, ft_mltm, ft_meq, ft_eqm, ft_meqm, ft_add, ft_mul, ft_sub, ft_nm, ft_m1p, ft_and, ft_or, ft_31, ft_shl, ft_shr, ft_bz, ft_z0, ft_z1, ft_z01, ft_bb, ft_zt, ft_zf, ft_or0, ft_rv, ft_rvr, ft_rf, ft_rfn, ft_bI, ft_bJ, ft_bV, ft_bR, ft_bRn, ft_isr, ft_isn, ft_ifn, ft_ifr, ft_ov, ft_ovn, ft_in, k_sI, n_sI, R_sI, J_sI, c_sI, z_sI, k_sJ, n_sJ, R_sJ, I_sJ, c_sJ, z_sJ, k_sR, n_sR, I_sR, J_sR, c_sR, z_sR, k_wI, n_wI, R_wI, J_wI, I_wIe, k_wJ, n_wJ, R_wJ, I_wJ, J_wJe, I_wIn, J_wJn, I_sIe, J_sJe, R_sRe, I_sIn, I_sIk, J_sJn, J_sJk, R_sRn, R_sRk, eq_self, if_true, if_false, ↓reduceIte, cond_true, cond_false, ↓cond_eq_ite, and_true, true_and, and_false, false_and, or_true, true_or, or_false, false_or, not_true_eq_false, not_false_eq_true, ft_ltT, ft_ltF, ft_eqT, ft_eqF, Bool.false_eq_true, Bool.true_eq_false, Bool.not_true, Bool.not_false, Bool.and_true, Bool.true_and, Bool.and_false, Bool.false_and, decide_true, decide_false, Nat.reduceAdd, Nat.reduceMul, Nat.reduceSub, Nat.reduceEqDiff, Nat.reduceLT, Nat.zero_add, Nat.add_zero, Nat.reduceDiv, Nat.reduceMod, S.1, S.2.1, S.2.2.1, S.2.2.2.1, S.2.2.2.2.1, S.2.2.2.2.2.1, S.2.2.2.2.2.2.1, S.2.2.2.2.2.2.2.1, S.2.2.2.2.2.2.2.2.1, S.2.2.2.2.2.2.2.2.2.1, S.2.2.2.2.2.2.2.2.2.2.1, S.2.2.2.2.2.2.2.2.2.2.2.1, S.2.2.2.2.2.2.2.2.2.2.2.2.1, S.2.2.2.2.2.2.2.2.2.2.2.2.2.1, S.2.2.2.2.2.2.2.2.2.2.2.2.2.2, ↓sp_3 S, ↓sp_4 S, ↓sp_5 S, ↓sp_6 S, ↓sp_0 S, hC_k, ↓go2, ↓u0, ↓em, ↓em3]
      · rw [if_neg q2] at cc
        have hcs : h_cs T (true, zt, zl) = (false, zt, zl) := by
          unfold h_cs h_must h_tk h_flt
          have w1 : ¬ T.1 zt = 160 := fun z => q2 (Or.inl z)
          have w2 : ¬ T.1 zt = 162 := fun z => q2 (Or.inr (Or.inl z))
          have w3 : ¬ T.1 zt = 161 := fun z => q2 (Or.inr (Or.inr z))
          simp [w1, w2, w3]
        rw [hcs, hno]
        refine ⟨fun z => (nomatch z), fun _ => ⟨zl, sz + zc.length, cput code sz zc, ?_⟩⟩
        simp only [hC_8] at cc
        simp (disch := first | exact sR_rfl _ _ rfl | omega) only [q_P_readsPlain_51, ft_lit, ft_m1, ft_m2, ft_m3, ft_m5, ft_m6, ft_cl, ft_lt, ft_le, ft_eq, ft_mlt, ft_ltm, ft_mltm, ft_meq, ft_eqm, ft_meqm, ft_add, ft_mul, ft_sub, ft_nm, ft_m1p, ft_and, ft_or, ft_31, ft_shl, ft_shr, ft_bz, ft_z0, ft_z1, ft_z01, ft_bb, ft_zt, ft_zf, ft_or0, ft_rv, ft_rvr, ft_rf, ft_rfn, ft_bI, ft_bJ, ft_bV, ft_bR, ft_bRn, ft_isr, ft_isn, ft_ifn, ft_ifr, ft_ov, ft_ovn, ft_in, k_sI, n_sI, R_sI, J_sI, c_sI, z_sI, k_sJ, n_sJ, R_sJ, I_sJ, c_sJ, z_sJ, k_sR, n_sR, I_sR, J_sR, c_sR, z_sR, k_wI, n_wI, R_wI, J_wI, I_wIe, k_wJ, n_wJ, R_wJ, I_wJ, J_wJe, I_wIn, J_wJn, I_sIe, J_sJe, R_sRe, I_sIn, I_sIk, J_sJn, J_sJk, R_sRn, R_sRk, eq_self, if_true, if_false, ↓reduceIte, cond_true, cond_false, ↓cond_eq_ite, and_true, true_and, and_false, false_and, or_true, true_or, or_false, false_or, not_true_eq_false, not_false_eq_true, ft_ltT, ft_ltF, ft_eqT, ft_eqF, Bool.false_eq_true, Bool.true_eq_false, Bool.not_true, Bool.not_false, Bool.and_true, Bool.true_and, Bool.and_false, Bool.false_and, decide_true, decide_false, Nat.reduceAdd, Nat.reduceMul, Nat.reduceSub, Nat.reduceEqDiff, Nat.reduceLT, Nat.zero_add, Nat.add_zero, Nat.reduceDiv, Nat.reduceMod, S.1, S.2.1, S.2.2.1, S.2.2.2.1, S.2.2.2.2.1, S.2.2.2.2.2.1, S.2.2.2.2.2.2.1, S.2.2.2.2.2.2.2.1, S.2.2.2.2.2.2.2.2.1, S.2.2.2.2.2.2.2.2.2.1, S.2.2.2.2.2.2.2.2.2.2.1, S.2.2.2.2.2.2.2.2.2.2.2.1, S.2.2.2.2.2.2.2.2.2.2.2.2.1, S.2.2.2.2.2.2.2.2.2.2.2.2.2.1, S.2.2.2.2.2.2.2.2.2.2.2.2.2.2, ↓sp_3 S, ↓sp_4 S, ↓sp_5 S, ↓sp_6 S, ↓sp_0 S, hC_k, hC_8, c40, q, ↓r0]
        simp (disch := first | exact sR_rfl _ _ rfl | omega) only [↓cc, ft_lit, ft_m1, ft_m2, ft_m3, ft_m5, ft_m6, ft_cl, ft_lt, ft_le, ft_eq, ft_mlt, ft_ltm, ft_mltm, ft_meq, ft_eqm, ft_meqm, ft_add, ft_mul, ft_sub, ft_nm, ft_m1p, ft_and, ft_or, ft_31, ft_shl, ft_shr, ft_bz, ft_z0, ft_z1, ft_z01, ft_bb, ft_zt, ft_zf, ft_or0, ft_rv, ft_rvr, ft_rf, ft_rfn, ft_bI, ft_bJ, ft_bV, ft_bR, ft_bRn, ft_isr, ft_isn, ft_ifn, ft_ifr, ft_ov, ft_ovn, ft_in, k_sI, n_sI, R_sI, J_sI, c_sI, z_sI, k_sJ, n_sJ, R_sJ, I_sJ, c_sJ, z_sJ, k_sR, n_sR, I_sR, J_sR, c_sR, z_sR, k_wI, n_wI, R_wI, J_wI, I_wIe, k_wJ, n_wJ, R_wJ, I_wJ, J_wJe, I_wIn, J_wJn, I_sIe, J_sJe, R_sRe, I_sIn, I_sIk, J_sJn, J_sJk, R_sRn, R_sRk, eq_self, if_true, if_false, ↓reduceIte, cond_true, cond_false, ↓cond_eq_ite, and_true, true_and, and_false, false_and, or_true, true_or, or_false, false_or, not_true_eq_false, not_false_eq_true, ft_ltT, ft_ltF, ft_eqT, ft_eqF, Bool.false_eq_true, Bool.true_eq_false, Bool.not_true, Bool.not_false, Bool.and_true, Bool.true_and, Bool.and_false, Bool.false_and, decide_true, decide_false, Nat.reduceAdd, Nat.reduceMul, Nat.reduceSub, Nat.reduceEqDiff, Nat.reduceLT, Nat.zero_add, Nat.add_zero, Nat.reduceDiv, Nat.reduceMod, S.1, S.2.1, S.2.2.1, S.2.2.2.1, S.2.2.2.2.1, S.2.2.2.2.2.1, S.2.2.2.2.2.2.1, S.2.2.2.2.2.2.2.1, S.2.2.2.2.2.2.2.2.1, S.2.2.2.2.2.2.2.2.2.1, S.2.2.2.2.2.2.2.2.2.2.1, S.2.2.2.2.2.2.2.2.2.2.2.1, S.2.2.2.2.2.2.2.2.2.2.2.2.1, S.2.2.2.2.2.2.2.2.2.2.2.2.2.1, S.2.2.2.2.2.2.2.2.2.2.2.2.2.2, ↓sp_3 S, ↓sp_4 S, ↓sp_5 S, ↓sp_6 S, ↓sp_0 S, hC_k, ↓fa]
