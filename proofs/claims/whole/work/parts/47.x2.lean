/-! THE CLASS RUNS ITS CODE: what the hub made is worth what the hub says -/
theorem Xr.up {F : Nat × Nat} {h : jH} {t ws n n' : Nat} {c : List Nat} {s : Nat} {x : Option Int} (H : Xr F t ws h n c s x) (hn : n ≤ n') : Xr F t ws h n' c s x := fun f top st ht => H f top st (by omega)
theorem X_bin {F : Nat × Nat} {h : jH} {t p sz ws : Nat} {cd : Nat → Nat} (U : XU h) (X : XT h t p sz cd) {c1 c2 : List Nat} {op s n1 n2 N : Nat} {x y : Option Int} (A : Xat cd sz s (c1 ++ c2 ++ [op])) (ho1 : 6 ≤ op) (ho2 : op ≤ 13) (hx : Xr F t ws h n1 c1 s x) (hy : Xr F t ws h n2 c2 (s + c1.length) y) (bx : h_bdd x) (bY : h_bdd y) (hn1 : n1 ≤ N) (hn2 : n2 + 1 ≤ N) (hN2 : 2 ≤ N) : Xr F t ws h N (c1 ++ c2 ++ [op]) s (h_cb op x y) := by
  intro f top st ht
  have A3 := A.app.2
  have hlen : (c1 ++ c2 ++ [op]).length = c1.length + c2.length + 1 := by simp [Nat.add_assoc]
  have hl2 : s + (c1 ++ c2).length = s + c1.length + c2.length := by simp [Nat.add_assoc]
  rw [hlen, show f + (c1.length + c2.length + 1) = f + 1 + c2.length + c1.length by omega]
  obtain ⟨hx1, hx2⟩ := hx (f + 1 + c2.length) top st (by omega)
  cases x with
  | none =>
    have e0 : h_cb op none y = none := by unfold h_cb h_cmb h_cmp; split <;> rfl
    rw [e0]
    refine ⟨fun v q => (nomatch q), fun _ => hx2 rfl⟩
  | some a =>
    obtain ⟨f1, st1, g1, g2, g3, g4⟩ := hx1 a rfl
    obtain ⟨f2, hf2⟩ : ∃ f2, f1 = f2 + c2.length := ⟨f1 - c2.length, by omega⟩
    rw [g2, hf2]
    obtain ⟨hy1, hy2⟩ := hy f2 (top + 1) st1 (by omega)
    cases y with
    | none =>
      have e0 : h_cb op (some a) none = none := by unfold h_cb h_cmb h_cmp; split <;> rfl
      rw [e0]
      refine ⟨fun v q => (nomatch q), fun _ => hy2 rfl⟩
    | some b =>
      obtain ⟨f3, st3, k1, k2, k3, k4⟩ := hy1 b rfl
      obtain ⟨f4, hf4⟩ : ∃ f4, f3 = f4 + 1 := ⟨f3 - 1, by omega⟩
      rw [k2, hf4]
      rw [hl2] at A3
      obtain ⟨o1, o2⟩ := X_op (F := F) (ws := ws) U X A3 ho1 ho2 (bx a rfl) (bY b rfl) (top := top) (by omega) (st := st3) (by rw [k3 top (by omega)]; exact g4) k4 f4
      refine ⟨fun v hv => ?_, fun hv => o2 hv⟩
      refine ⟨f4, va_up st3 top (iL v), by omega, ?_, ?_, va_up_self _ _ _⟩
      · rw [show s + (c1.length + c2.length + 1) = s + c1.length + c2.length + 1 by omega]
        exact o1 v hv
      · intro i hi
        rw [va_up_lt i hi, k3 i (by omega), g3 i hi]
/-- the words that stand ready -/
def h_wv (od : Bool) (c v : Nat) : Prop := h_fw od ≤ c ∧ c ≤ h_lw od ∧ ((od = true ∧ c = 14 ∧ v ≤ 24) ∨ (od = true ∧ (c = 18 ∨ c = 19) ∧ v ≤ 3) ∨ v = 0)
def XE (h : jH) (ws : Nat) (e : Ev) (od : Bool) : Prop := j_k h ws = 1 ∧ j_n h ws < 1000 ∧ ws ≠ 74 ∧ (∀ c k, -1000000 ≤ e c k ∧ e c k ≤ 1000000) ∧ ∀ c v, h_wv od c v → h_slot od c v < j_n h ws ∧ j_J h ws (h_slot od c v) = iL (e c v)
/-- a reader whose code is worth what it says -/
def Xg (F : Nat × Nat) (t ws : Nat) (h : jH) (cd : Nat → Nat) (sz : Nat) (e : Ev) (need : Nat) (r : Rs) : Prop := r.1.1 = true → ∀ s, Xat cd sz s r.2.1 → Xr F t ws h need r.2.1 s (r.2.2 e)
theorem X_part {F : Nat × Nat} {h : jH} {t p sz ws : Nat} {cd : Nat → Nat} (U : XU h) (X : XT h t p sz cd) {e : Ev} {od : Bool} (E : XE h ws e od) {T : Tk} {d : Nat} (hr : ∀ e1, d = e1 + 1 → ∀ st, Xg F t ws h cd sz e (2 * e1 + 3) (h_sum T od e1 st)) (st : Ps) : Xg F t ws h cd sz e (2 * d + 1) (h_part T od (h_sumr T od d) st) := by
  obtain ⟨E1, E2, E3, E4, E5⟩ := E
  intro hok s A
  unfold h_part at hok A ⊢
  split
  · rename_i q
    rw [if_pos q] at hok
    rw [q] at hok
    cases hok
  · rename_i q
    rw [if_neg q] at hok A
    split
    · rename_i q1
      rw [if_pos q1] at hok A
      cases d with
      | zero => simp [h_sumr, h_flt] at hok
      | succ e1 =>
        simp only [h_sumr] at hok A ⊢
        obtain ⟨m1, m2, m3⟩ := h_must_t hok
        exact (hr e1 rfl _ m2 s A).up (by omega)
    · rename_i q1
      rw [if_neg q1] at hok A
      split
      · rename_i q2
        rw [if_pos q2] at A
        exact (X_num U X A).up (by omega)
      · rename_i q2
        rw [if_neg q2] at hok A
        split
        · rename_i q3
          rw [if_pos q3] at hok A
          split
          · rename_i q4
            rw [if_pos q4] at hok A
            obtain ⟨m1, m2, m3, m4, m5⟩ := h_num_t hok
            have hl : (h_leaf st).2.1 = st.2.1 + 1 := by
              unfold h_leaf at m2 ⊢
              split at m2
              · cases m2
              · rename_i q5
                rw [if_neg q5]
            rw [hl] at m5
            have := E5 (T.1 st.2.1) (T.2 (st.2.1 + 1)) ⟨q3.1, q3.2, Or.inl ⟨q4.1, q4.2, m5⟩⟩
            exact (X_word U X A E1 this.1 E2 this.2 E3).up (by omega)
          · rename_i q4
            rw [if_neg q4] at hok A
            split
            · rename_i q5
              rw [if_pos q5] at hok A
              obtain ⟨m1, m2, m3, m4, m5⟩ := h_num_t hok
              have hl : (h_leaf st).2.1 = st.2.1 + 1 := by
                unfold h_leaf at m2 ⊢
                split at m2
                · cases m2
                · rename_i q5
                  rw [if_neg q5]
              rw [hl] at m5
              have := E5 (T.1 st.2.1) (T.2 (st.2.1 + 1)) ⟨q3.1, q3.2, Or.inr (Or.inl ⟨q5.1, q5.2, m5⟩)⟩
              exact (X_word U X A E1 this.1 E2 this.2 E3).up (by omega)
            · rename_i q5
              rw [if_neg q5] at hok A
              have := E5 (T.1 st.2.1) 0 ⟨q3.1, q3.2, Or.inr (Or.inr rfl)⟩
              exact (X_word U X A E1 this.1 E2 this.2 E3).up (by omega)
        · rename_i q3
          rw [if_neg q3] at hok
          cases hok
theorem h_opT {c : Nat} (h : h_isT c = true) : 8 ≤ h_op c ∧ h_op c ≤ 10 := by
  unfold h_isT at h
  simp only [Bool.or_eq_true, beq_iff_eq] at h
  rcases h with (h | h) | h <;> (subst h; decide)
theorem h_opA {c : Nat} (h : h_isA c = true) : 6 ≤ h_op c ∧ h_op c ≤ 7 := by
  unfold h_isA at h
  simp only [Bool.or_eq_true, beq_iff_eq] at h
  rcases h with h | h <;> (subst h; decide)
theorem h_cb_m {op : Nat} (h : op < 11) (a b : Option Int) : h_cb op a b = h_cmb op a b := if_pos h
theorem X_tl {F : Nat × Nat} {h : jH} {t p sz ws : Nat} {cd : Nat → Nat} (U : XU h) (X : XT h t p sz cd) {e : Ev} {od : Bool} (E : XE h ws e od) {T : Tk} {d : Nat} (hr : ∀ st, Xg F t ws h cd sz e (2 * d + 1) (h_part T od (h_sumr T od d) st)) : ∀ f (x : Rs), Xg F t ws h cd sz e (2 * d + 2) x → h_bdd (x.2.2 e) → Xg F t ws h cd sz e (2 * d + 2) (h_tl T od (h_sumr T od d) f x)
  | 0, x, hx, hb => hx
  | f + 1, x, hx, hb => by
    unfold h_tl
    split
    · rename_i q
      simp only [Bool.and_eq_true] at q
      refine X_tl U X E hr f _ ?_ (h_cmb_b _ _ _)
      intro hok s A
      have ho := h_opT q.2
      simp only at hok A ⊢
      have A1 := A.app.1.app
      have := X_bin U X A (by omega) (by omega) (hx q.1 s A1.1) (hr (h_adv x.1) hok _ A1.2) hb (h_part_b E.2.2.2.1 (h_sumr_b E.2.2.2.1 d) _) (N := 2 * d + 2) (by omega) (by omega) (by omega)
      rw [h_cb_m (by omega)] at this
      exact this
    · exact hx
theorem X_term {F : Nat × Nat} {h : jH} {t p sz ws : Nat} {cd : Nat → Nat} (U : XU h) (X : XT h t p sz cd) {e : Ev} {od : Bool} (E : XE h ws e od) {T : Tk} {d : Nat} (hr : ∀ st, Xg F t ws h cd sz e (2 * d + 1) (h_part T od (h_sumr T od d) st)) (st : Ps) : Xg F t ws h cd sz e (2 * d + 2) (h_term T od (h_sumr T od d) st) :=
  X_tl U X E hr hN _ (fun hok s A => (hr st hok s A).up (by omega)) (h_part_b E.2.2.2.1 (h_sumr_b E.2.2.2.1 d) _)
theorem X_sl {F : Nat × Nat} {h : jH} {t p sz ws : Nat} {cd : Nat → Nat} (U : XU h) (X : XT h t p sz cd) {e : Ev} {od : Bool} (E : XE h ws e od) {T : Tk} {d : Nat} (hr : ∀ st, Xg F t ws h cd sz e (2 * d + 2) (h_term T od (h_sumr T od d) st)) : ∀ f (x : Rs), Xg F t ws h cd sz e (2 * d + 3) x → h_bdd (x.2.2 e) → Xg F t ws h cd sz e (2 * d + 3) (h_sl T od (h_sumr T od d) f x)
  | 0, x, hx, hb => hx
  | f + 1, x, hx, hb => by
    unfold h_sl
    split
    · rename_i q
      simp only [Bool.and_eq_true] at q
      refine X_sl U X E hr f _ ?_ (h_cmb_b _ _ _)
      intro hok s A
      have ho := h_opA q.2
      simp only at hok A ⊢
      have A1 := A.app.1.app
      have := X_bin U X A (by omega) (by omega) (hx q.1 s A1.1) (hr (h_adv x.1) hok _ A1.2) hb (h_term_b E.2.2.2.1 (h_sumr_b E.2.2.2.1 d) _) (N := 2 * d + 3) (by omega) (by omega) (by omega)
      rw [h_cb_m (by omega)] at this
      exact this
    · exact hx
theorem X_su {F : Nat × Nat} {h : jH} {t p sz ws : Nat} {cd : Nat → Nat} (U : XU h) (X : XT h t p sz cd) {e : Ev} {od : Bool} (E : XE h ws e od) {T : Tk} {d : Nat} (hr : ∀ st, Xg F t ws h cd sz e (2 * d + 2) (h_term T od (h_sumr T od d) st)) (st : Ps) : Xg F t ws h cd sz e (2 * d + 3) (h_su T od (h_sumr T od d) st) :=
  X_sl U X E hr hN _ (fun hok s A => (hr st hok s A).up (by omega)) (h_term_b E.2.2.2.1 (h_sumr_b E.2.2.2.1 d) _)
theorem X_sum {F : Nat × Nat} {h : jH} {t p sz ws : Nat} {cd : Nat → Nat} (U : XU h) (X : XT h t p sz cd) {e : Ev} {od : Bool} (E : XE h ws e od) {T : Tk} : ∀ d st, Xg F t ws h cd sz e (2 * d + 3) (h_sum T od d st)
  | d, st => by
    rw [h_sum_eq]
    exact X_su U X E (X_term U X E (X_part U X E (fun e1 he st => by subst he; exact X_sum U X E e1 st))) st
  termination_by d => d
/-- tests -/
def Xh (F : Nat × Nat) (t ws : Nat) (h : jH) (cd : Nat → Nat) (sz : Nat) (e : Ev) (need : Nat) (r : Rt) : Prop := r.1.1 = true → ∀ s, Xat cd sz s (r.2.1 s) → Xr F t ws h need (r.2.1 s) s ((r.2.2 e).map zL)
theorem zL_b (b : Bool) : -1000000000 ≤ zL b ∧ zL b ≤ 1000000000 := by cases b <;> decide
theorem X_not {F : Nat × Nat} {h : jH} {t p sz ws : Nat} {cd : Nat → Nat} (U : XU h) (X : XT h t p sz cd) {s : Nat} (A : Xat cd sz s [3]) {b : Bool} {top : Nat} (ht : top + 1 ≤ 48) {st : Nat → Int64} (h1 : st top = iL (zL b)) (f : Nat) : Xm F t ws h (f + 1) (top + 1) s st = Xm F t ws h f (top + 1) (s + 1) (va_up st top (iL (zL (!b)))) := by
  obtain ⟨a1, a2⟩ := A.one
  obtain ⟨U1, U2, U3, U4⟩ := U
  obtain ⟨X1, X2, X3, X4, X5, X6, X7, X8⟩ := X
  have c0 := X7 s a1
  have c1 : cd s &&& 31 = 3 := op31 (v := 0) (by omega) (by omega)
  have c2 : cd s >>> 5 = 0 := op5 (o := 3) (by omega) (by omega)
  have c3 := X8 s
  have v1 := fun {h2 : jH} (e : sR h2 h) f => rv_of U2 e f
  have v2 := fun {h2 : jH} (e : sR h2 h) f => rv_of X2 e f
  have t1 : top + 1 - 1 = top := by omega
  have e1 : iL 1 - iL (zL b) = iL (zL (!b)) := by rw [iL_sub]; cases b <;> rfl
  unfold Xm
  rw [q_U_worth_13]
  simp (disch := first | exact sR_rfl _ _ rfl | omega) only [q_U_worth_157, ft_lit, ft_m1, ft_m2, ft_m3, ft_m5, ft_m6, ft_cl, ft_lt, ft_le, ft_eq, ft_mlt, ft_ltm, ft_mltm, ft_meq, ft_eqm, ft_meqm, ft_add, ft_mul, ft_sub, ft_nm, ft_m1p, ft_and, ft_or, ft_31, ft_shl, ft_shr, ft_bz, ft_z0, ft_z1, ft_z01, ft_bb, ft_zt, ft_zf, ft_or0, ft_rv, ft_rvr, ft_rf, ft_rfn, ft_bI, ft_bJ, ft_bV, ft_bR, ft_bRn, ft_isr, ft_isn, ft_ifn, ft_ifr, ft_ov, ft_ovn, ft_in, k_sI, n_sI, R_sI, J_sI, c_sI, z_sI, k_sJ, n_sJ, R_sJ, I_sJ, c_sJ, z_sJ, k_sR, n_sR, I_sR, J_sR, c_sR, z_sR, k_wI, n_wI, R_wI, J_wI, I_wIe, k_wJ, n_wJ, R_wJ, I_wJ, J_wJe, I_wIn, J_wJn, I_sIe, J_sJe, R_sRe, I_sIn, I_sIk, J_sJn, J_sJk, R_sRn, R_sRk, eq_self, if_true, if_false, ↓reduceIte, cond_true, cond_false, ↓cond_eq_ite, and_true, true_and, and_false, false_and, or_true, true_or, or_false, false_or, not_true_eq_false, not_false_eq_true, ft_ltT, ft_ltF, ft_eqT, ft_eqF, Bool.false_eq_true, Bool.true_eq_false, Bool.not_true, Bool.not_false, Bool.and_true, Bool.true_and, Bool.and_false, Bool.false_and, decide_true, decide_false, Nat.reduceAdd, Nat.reduceMul, Nat.reduceSub, Nat.reduceEqDiff, Nat.reduceLT, Nat.zero_add, Nat.add_zero, Nat.reduceDiv, Nat.reduceMod, hW_k, hW_n, hW_R, hW_I, U1, U2, U3, U4, X1, X2, X3, X6, ↓v1, ↓v2, c0, c1, c2, hW_J, t1, h1, iL_1, e1, hW_s]
theorem Jm_max {F : Nat × Nat} {h : jH} {a b : Nat} (ha : a < 2147483648) (hb : b < 2147483648) (hab : a ≤ b) : m_Jm_max F (nI a) (nI b) h = some (some (.int (nI b)), h) := by
  by_cases q : a < b
  · simp (disch := first | exact sR_rfl _ _ rfl | omega) only [q_Jm_max, ft_lit, ft_m1, ft_m2, ft_m3, ft_m5, ft_m6, ft_cl, ft_lt, ft_le, ft_eq, ft_mlt, ft_ltm, ft_mltm, ft_meq, ft_eqm, ft_meqm, ft_add, ft_mul, ft_sub, ft_nm, ft_m1p, ft_and, ft_or, ft_31, ft_shl, ft_shr, ft_bz, ft_z0, ft_z1, ft_z01, ft_bb, ft_zt, ft_zf, ft_or0, ft_rv, ft_rvr, ft_rf, ft_rfn, ft_bI, ft_bJ, ft_bV, ft_bR, ft_bRn, ft_isr, ft_isn, ft_ifn, ft_ifr, ft_ov, ft_ovn, ft_in, k_sI, n_sI, R_sI, J_sI, c_sI, z_sI, k_sJ, n_sJ, R_sJ, I_sJ, c_sJ, z_sJ, k_sR, n_sR, I_sR, J_sR, c_sR, z_sR, k_wI, n_wI, R_wI, J_wI, I_wIe, k_wJ, n_wJ, R_wJ, I_wJ, J_wJe, I_wIn, J_wJn, I_sIe, J_sJe, R_sRe, I_sIn, I_sIk, J_sJn, J_sJk, R_sRn, R_sRk, eq_self, if_true, if_false, ↓reduceIte, cond_true, cond_false, ↓cond_eq_ite, and_true, true_and, and_false, false_and, or_true, true_or, or_false, false_or, not_true_eq_false, not_false_eq_true, ft_ltT, ft_ltF, ft_eqT, ft_eqF, Bool.false_eq_true, Bool.true_eq_false, Bool.not_true, Bool.not_false, Bool.and_true, Bool.true_and, Bool.and_false, Bool.false_and, decide_true, decide_false, Nat.reduceAdd, Nat.reduceMul, Nat.reduceSub, Nat.reduceEqDiff, Nat.reduceLT, Nat.zero_add, Nat.add_zero, Nat.reduceDiv, Nat.reduceMod]
  · have : a = b := by omega
    subst this
    simp (disch := first | exact sR_rfl _ _ rfl | omega) only [q_Jm_max, ft_lit, ft_m1, ft_m2, ft_m3, ft_m5, ft_m6, ft_cl, ft_lt, ft_le, ft_eq, ft_mlt, ft_ltm, ft_mltm, ft_meq, ft_eqm, ft_meqm, ft_add, ft_mul, ft_sub, ft_nm, ft_m1p, ft_and, ft_or, ft_31, ft_shl, ft_shr, ft_bz, ft_z0, ft_z1, ft_z01, ft_bb, ft_zt, ft_zf, ft_or0, ft_rv, ft_rvr, ft_rf, ft_rfn, ft_bI, ft_bJ, ft_bV, ft_bR, ft_bRn, ft_isr, ft_isn, ft_ifn, ft_ifr, ft_ov, ft_ovn, ft_in, k_sI, n_sI, R_sI, J_sI, c_sI, z_sI, k_sJ, n_sJ, R_sJ, I_sJ, c_sJ, z_sJ, k_sR, n_sR, I_sR, J_sR, c_sR, z_sR, k_wI, n_wI, R_wI, J_wI, I_wIe, k_wJ, n_wJ, R_wJ, I_wJ, J_wJe, I_wIn, J_wJn, I_sIe, J_sJe, R_sRe, I_sIn, I_sIk, J_sJn, J_sJk, R_sRn, R_sRk, eq_self, if_true, if_false, ↓reduceIte, cond_true, cond_false, ↓cond_eq_ite, and_true, true_and, and_false, false_and, or_true, true_or, or_false, false_or, not_true_eq_false, not_false_eq_true, ft_ltT, ft_ltF, ft_eqT, ft_eqF, Bool.false_eq_true, Bool.true_eq_false, Bool.not_true, Bool.not_false, Bool.and_true, Bool.true_and, Bool.and_false, Bool.false_and, decide_true, decide_false, Nat.reduceAdd, Nat.reduceMul, Nat.reduceSub, Nat.reduceEqDiff, Nat.reduceLT, Nat.zero_add, Nat.add_zero, Nat.reduceDiv, Nat.reduceMod]
theorem Jm_max_b {F : Nat × Nat} {h : jH} {a b : Nat} (ha : a < 2147483648) (hb : b < 2147483648) (hab : a ≤ b) (ff : Int32 → jH → Option jO) : jbI (m_Jm_max F (nI a) (nI b) h) ff = ff ((nI b)) (h) := bI_of (Jm_max (F := F) (h := h) (a := a) (b := b) (ha := ha) (hb := hb) (hab := hab)) ff
/-- "and" (what: true), "or" (false) at s -/
theorem X_skip {F : Nat × Nat} {h : jH} {t p sz ws : Nat} {cd : Nat → Nat} (U : XU h) (X : XT h t p sz cd) {s tg op : Nat} {what : Bool} (ho : op = 4 ∧ what = true ∨ op = 5 ∧ what = false) (A : Xat cd sz s [tg * 32 + op]) (htg : s < tg) {b : Bool} {top : Nat} (ht : top + 1 ≤ 48) {st : Nat → Int64} (h1 : st top = iL (zL b)) (f : Nat) : Xm F t ws h (f + 1) (top + 1) s st = if b = what then Xm F t ws h f top (s + 1) st else Xm F t ws h f (top + 1) tg st := by
  obtain ⟨a1, a2⟩ := A.one
  obtain ⟨U1, U2, U3, U4⟩ := U
  obtain ⟨X1, X2, X3, X4, X5, X6, X7, X8⟩ := X
  have c0 := X7 s a1
  have c1 : cd s &&& 31 = op := op31 a2 (by omega)
  have c2 : cd s >>> 5 = tg := op5 a2 (by omega)
  have c3 := X8 s
  have v1 := fun {h2 : jH} (e : sR h2 h) f => rv_of U2 e f
  have v2 := fun {h2 : jH} (e : sR h2 h) f => rv_of X2 e f
  have t1 : top + 1 - 1 = top := by omega
  have t3 : tg - 1 + 1 = tg := by omega
  have jm := fun hh : jH => Jm_max_b (F := F) (h := hh) (a := s) (b := tg - 1) (by omega) (by omega) (by omega)
  unfold Xm
  rw [q_U_worth_13]
  have z1 : ∀ b, (lg_cmp (iL (zL b)) (iL 1) = nI 0) = (b = true) := by intro b; cases b <;> decide
  have z0 : ∀ b, (lg_cmp (iL (zL b)) (iL 0) = nI 0) = (b = false) := by intro b; cases b <;> decide
  rcases ho with ⟨rfl, rfl⟩ | ⟨rfl, rfl⟩
  · cases b <;> simp (disch := first | exact sR_rfl _ _ rfl | omega) only [q_U_worth_157, ft_lit, ft_m1, ft_m2, ft_m3, ft_m5, ft_m6, ft_cl, ft_lt, ft_le, ft_eq, ft_mlt, ft_ltm, ft_mltm, ft_meq, ft_eqm, ft_meqm, ft_add, ft_mul, ft_sub, ft_nm, ft_m1p, ft_and, ft_or, ft_31, ft_shl, ft_shr, ft_bz, ft_z0, ft_z1, ft_z01, ft_bb, ft_zt, ft_zf, ft_or0, ft_rv, ft_rvr, ft_rf, ft_rfn, ft_bI, ft_bJ, ft_bV, ft_bR, ft_bRn, ft_isr, ft_isn, ft_ifn, ft_ifr, ft_ov, ft_ovn, ft_in, k_sI, n_sI, R_sI, J_sI, c_sI, z_sI, k_sJ, n_sJ, R_sJ, I_sJ, c_sJ, z_sJ, k_sR, n_sR, I_sR, J_sR, c_sR, z_sR, k_wI, n_wI, R_wI, J_wI, I_wIe, k_wJ, n_wJ, R_wJ, I_wJ, J_wJe, I_wIn, J_wJn, I_sIe, J_sJe, R_sRe, I_sIn, I_sIk, J_sJn, J_sJk, R_sRn, R_sRk, eq_self, if_true, if_false, ↓reduceIte, cond_true, cond_false, ↓cond_eq_ite, and_true, true_and, and_false, false_and, or_true, true_or, or_false, false_or, not_true_eq_false, not_false_eq_true, ft_ltT, ft_ltF, ft_eqT, ft_eqF, Bool.false_eq_true, Bool.true_eq_false, Bool.not_true, Bool.not_false, Bool.and_true, Bool.true_and, Bool.and_false, Bool.false_and, decide_true, decide_false, Nat.reduceAdd, Nat.reduceMul, Nat.reduceSub, Nat.reduceEqDiff, Nat.reduceLT, Nat.zero_add, Nat.add_zero, Nat.reduceDiv, Nat.reduceMod, hW_k, hW_n, hW_R, hW_I, U1, U2, U3, U4, X1, X2, X3, X6, ↓v1, ↓v2, c0, c1, c2, hW_J, t1, h1, iL_1, iL_0, z1, z0, jm, t3]
  · cases b <;> simp (disch := first | exact sR_rfl _ _ rfl | omega) only [q_U_worth_157, ft_lit, ft_m1, ft_m2, ft_m3, ft_m5, ft_m6, ft_cl, ft_lt, ft_le, ft_eq, ft_mlt, ft_ltm, ft_mltm, ft_meq, ft_eqm, ft_meqm, ft_add, ft_mul, ft_sub, ft_nm, ft_m1p, ft_and, ft_or, ft_31, ft_shl, ft_shr, ft_bz, ft_z0, ft_z1, ft_z01, ft_bb, ft_zt, ft_zf, ft_or0, ft_rv, ft_rvr, ft_rf, ft_rfn, ft_bI, ft_bJ, ft_bV, ft_bR, ft_bRn, ft_isr, ft_isn, ft_ifn, ft_ifr, ft_ov, ft_ovn, ft_in, k_sI, n_sI, R_sI, J_sI, c_sI, z_sI, k_sJ, n_sJ, R_sJ, I_sJ, c_sJ, z_sJ, k_sR, n_sR, I_sR, J_sR, c_sR, z_sR, k_wI, n_wI, R_wI, J_wI, I_wIe, k_wJ, n_wJ, R_wJ, I_wJ, J_wJe, I_wIn, J_wJn, I_sIe, J_sJe, R_sRe, I_sIn, I_sIk, J_sJn, J_sJk, R_sRn, R_sRk, eq_self, if_true, if_false, ↓reduceIte, cond_true, cond_false, ↓cond_eq_ite, and_true, true_and, and_false, false_and, or_true, true_or, or_false, false_or, not_true_eq_false, not_false_eq_true, ft_ltT, ft_ltF, ft_eqT, ft_eqF, Bool.false_eq_true, Bool.true_eq_false, Bool.not_true, Bool.not_false, Bool.and_true, Bool.true_and, Bool.and_false, Bool.false_and, decide_true, decide_false, Nat.reduceAdd, Nat.reduceMul, Nat.reduceSub, Nat.reduceEqDiff, Nat.reduceLT, Nat.zero_add, Nat.add_zero, Nat.reduceDiv, Nat.reduceMod, hW_k, hW_n, hW_R, hW_I, U1, U2, U3, U4, X1, X2, X3, X6, ↓v1, ↓v2, c0, c1, c2, hW_J, t1, h1, iL_1, iL_0, z1, z0, jm, t3]
theorem X_bin2 {F : Nat × Nat} {h : jH} {t p sz ws : Nat} {cd : Nat → Nat} (U : XU h) (X : XT h t p sz cd) {op s N : Nat} {what : Bool} (ho : op = 4 ∧ what = true ∨ op = 5 ∧ what = false) {P Q : Nat → List Nat} {x y : Option Bool} (A : Xat cd sz s (h_skip op P Q s)) (hx : Xr F t ws h N (P s) s (x.map zL)) (hy : Xr F t ws h N (Q (s + (P s).length + 1)) (s + (P s).length + 1) (y.map zL)) (hN1 : 1 ≤ N) : Xr F t ws h N (h_skip op P Q s) s ((h_both2 what x y).map zL) := by
  intro f top st ht
  unfold h_skip at A ⊢
  generalize hp : P s = c1 at A hx hy ⊢
  generalize hq : Q (s + c1.length + 1) = c2 at A hy ⊢
  have A2 := A.app.1.app.2
  have hlen : (c1 ++ [(s + c1.length + 1 + c2.length) * 32 + op] ++ c2).length = c1.length + 1 + c2.length := by simp [Nat.add_assoc]; omega
  rw [hlen, show f + (c1.length + 1 + c2.length) = f + c2.length + 1 + c1.length by omega]
  obtain ⟨hx1, hx2⟩ := hx (f + c2.length + 1) top st ht
  cases x with
  | none => exact ⟨fun v q => (nomatch q), fun _ => hx2 rfl⟩
  | some b =>
    obtain ⟨f1, st1, g1, g2, g3, g4⟩ := hx1 (zL b) rfl
    obtain ⟨f2, hf2⟩ : ∃ f2, f1 = f2 + 1 := ⟨f1 - 1, by omega⟩
    rw [g2, hf2, X_skip U X ho A2 (by omega) (by omega) g4]
    by_cases q : b = what
    · rw [if_pos q]
      have e1 : h_both2 what (some b) y = y := by unfold h_both2; simp [q]
      rw [e1]
      obtain ⟨f3, hf3⟩ : ∃ f3, f2 = f3 + c2.length := ⟨f2 - c2.length, by omega⟩
      rw [hf3]
      obtain ⟨hy1, hy2⟩ := hy f3 top st1 ht
      refine ⟨fun v hv => ?_, hy2⟩
      obtain ⟨f4, st4, k1, k2, k3, k4⟩ := hy1 v hv
      refine ⟨f4, st4, by omega, ?_, fun i hi => by rw [k3 i hi, g3 i hi], k4⟩
      rw [k2, show s + (c1.length + 1 + c2.length) = s + c1.length + 1 + c2.length by omega]
    · rw [if_neg q]
      have e1 : h_both2 what (some b) y = some b := by unfold h_both2; simp [q]
      rw [e1]
      refine ⟨fun v hv => ?_, fun q => nomatch q⟩
      cases Option.some.inj hv
      exact ⟨f2, st1, by omega, by rw [show s + (c1.length + 1 + c2.length) = s + c1.length + 1 + c2.length by omega], g3, g4⟩
theorem X_posi {F : Nat × Nat} {h : jH} {t p sz ws : Nat} {cd : Nat → Nat} (U : XU h) (X : XT h t p sz cd) {e : Ev} {od : Bool} (E : XE h ws e od) {T : Tk} {d : Nat} (hr : ∀ e1, d = e1 + 1 → ∀ st, Xh F t ws h cd sz e (2 * e1 + 4) (h_test T od e1 st)) (st : Ps) : Xh F t ws h cd sz e (2 * d + 4) (h_posi T od (h_testr T od d) d st) := by
  intro hok s A
  unfold h_posi at hok A ⊢
  split
  · rename_i q
    rw [if_pos q] at hok
    rw [q] at hok
    cases hok
  · rename_i q
    rw [if_neg q] at hok A
    split
    · rename_i q1
      rw [if_pos q1] at hok A
      cases d with
      | zero => simp [h_testr, h_flt] at hok
      | succ e1 =>
        simp only [h_testr] at hok A ⊢
        obtain ⟨m1, m2, m3⟩ := h_must_t hok
        exact (hr e1 rfl _ m2 s A).up (by omega)
    · rename_i q1
      rw [if_neg q1] at hok A
      simp only at hok A ⊢
      have ok2 : (h_cs T (h_sum T od d st).1).1 = true := by
        have hf : ∀ s : Ps, (h_sum T od d s).1.1 = true → s.1 = true := by
          intro s hs
          rw [h_sum_eq] at hs
          have h1 := h_sl_f hs
          have h2 := h_tl_f h1
          unfold h_part at h2
          split at h2
          · exact h2
          · rename_i z
            simpa using z
        exact hf _ hok
      obtain ⟨m1, m2, m3⟩ := h_cs_t ok2
      have ho : 11 ≤ h_op (T.1 (h_sum T od d st).1.2.1) ∧ h_op (T.1 (h_sum T od d st).1.2.1) ≤ 13 := by
        rcases m3 with m3 | m3 | m3 <;> (rw [m3]; decide)
      have A1 := A.app.1.app
      have := X_bin (F := F) U X A (by omega) (by omega) (X_sum U X E d st m2 s A1.1) (X_sum U X E d _ hok _ A1.2) (h_sum_b E.2.2.2.1 d _) (h_sum_b E.2.2.2.1 d _) (N := 2 * d + 4) (by omega) (by omega) (by omega)
      have e1 : h_cb (h_op (T.1 (h_sum T od d st).1.2.1)) ((h_sum T od d st).2.2 e) ((h_sum T od d (h_cs T (h_sum T od d st).1)).2.2 e) = (h_cmp (h_op (T.1 (h_sum T od d st).1.2.1)) ((h_sum T od d st).2.2 e) ((h_sum T od d (h_cs T (h_sum T od d st).1)).2.2 e)).map zL := by
        unfold h_cb
        rw [if_neg (by omega)]
      rw [e1] at this
      exact this
theorem X_plain {F : Nat × Nat} {h : jH} {t p sz ws : Nat} {cd : Nat → Nat} (U : XU h) (X : XT h t p sz cd) {e : Ev} {od : Bool} {T : Tk} {d : Nat} (hr : ∀ st, Xh F t ws h cd sz e (2 * d + 4) (h_posi T od (h_testr T od d) d st)) (st : Ps) : Xh F t ws h cd sz e (2 * d + 4) (h_plain T od (h_testr T od d) d st) := by
  intro hok s A
  unfold h_plain at hok A ⊢
  simp only at hok A ⊢
  have hq := hr (h_nl T hN false st).2 hok s A.app.1
  generalize h_posi T od (h_testr T od d) d (h_nl T hN false st).2 = r at hok A hq ⊢
  cases hb : (h_nl T hN false st).1 with
  | false =>
    rw [hb] at A
    simp only [Bool.false_eq_true, if_false, List.append_nil] at A ⊢
    have : (r.2.2 e).map (fun x => x != false) = r.2.2 e := by
      cases r.2.2 e with
      | none => rfl
      | some b => cases b <;> rfl
    rw [this]
    exact hq
  | true =>
    rw [hb] at A
    simp only [if_true] at A ⊢
    intro f top st ht
    have A2 := A.app.2
    rw [List.length_append, show f + ((r.2.1 s).length + [3].length) = f + 1 + (r.2.1 s).length by simp; omega]
    obtain ⟨hx1, hx2⟩ := hq (f + 1) top st ht
    cases hx : r.2.2 e with
    | none =>
      rw [hx] at hx2
      exact ⟨fun v q => (nomatch q), fun _ => hx2 rfl⟩
    | some b =>
      rw [hx] at hx1
      obtain ⟨f1, st1, g1, g2, g3, g4⟩ := hx1 (zL b) rfl
      obtain ⟨f2, hf2⟩ : ∃ f2, f1 = f2 + 1 := ⟨f1 - 1, by omega⟩
      rw [g2, hf2, X_not U X A2 (by omega) g4]
      refine ⟨fun v hv => ?_, fun q => nomatch q⟩
      have hv : zL (b != true) = v := Option.some.inj hv
      refine ⟨f2, _, by omega, by rw [← Nat.add_assoc]; rfl, fun i hi => by rw [va_up_lt i hi, g3 i hi], ?_⟩
      rw [va_up_self, ← hv]
      cases b <;> rfl
theorem X_bl {F : Nat × Nat} {h : jH} {t p sz ws : Nat} {cd : Nat → Nat} (U : XU h) (X : XT h t p sz cd) {e : Ev} {od : Bool} {T : Tk} {d : Nat} (hr : ∀ st, Xh F t ws h cd sz e (2 * d + 4) (h_plain T od (h_testr T od d) d st)) : ∀ f (x : Rt), Xh F t ws h cd sz e (2 * d + 4) x → Xh F t ws h cd sz e (2 * d + 4) (h_bl T od (h_testr T od d) d f x)
  | 0, x, hx => hx
  | f + 1, x, hx => by
    unfold h_bl
    split
    · rename_i q
      refine X_bl U X hr f _ ?_
      intro hok s A
      simp only at hok A ⊢
      have A' := A
      unfold h_skip at A'
      refine X_bin2 U X (Or.inl ⟨rfl, rfl⟩) A (hx (h_tk_1 q) s A'.app.1.app.1) (hr (h_adv x.1) hok _ ?_) (by omega)
      have := A'.app.2
      simp only [List.length_append, List.length_cons, List.length_nil] at this
      exact this
    · exact hx
theorem X_both {F : Nat × Nat} {h : jH} {t p sz ws : Nat} {cd : Nat → Nat} (U : XU h) (X : XT h t p sz cd) {e : Ev} {od : Bool} {T : Tk} {d : Nat} (hr : ∀ st, Xh F t ws h cd sz e (2 * d + 4) (h_plain T od (h_testr T od d) d st)) (st : Ps) : Xh F t ws h cd sz e (2 * d + 4) (h_both T od (h_testr T od d) d st) := X_bl U X hr hN _ (hr st)
theorem X_ol {F : Nat × Nat} {h : jH} {t p sz ws : Nat} {cd : Nat → Nat} (U : XU h) (X : XT h t p sz cd) {e : Ev} {od : Bool} {T : Tk} {d : Nat} (hr : ∀ st, Xh F t ws h cd sz e (2 * d + 4) (h_both T od (h_testr T od d) d st)) : ∀ f (x : Rt), Xh F t ws h cd sz e (2 * d + 4) x → Xh F t ws h cd sz e (2 * d + 4) (h_ol T od (h_testr T od d) d f x)
  | 0, x, hx => hx
  | f + 1, x, hx => by
    unfold h_ol
    split
    · rename_i q
      refine X_ol U X hr f _ ?_
      intro hok s A
      simp only at hok A ⊢
      have A' := A
      unfold h_skip at A'
      refine X_bin2 U X (Or.inr ⟨rfl, rfl⟩) A (hx (h_tk_1 q) s A'.app.1.app.1) (hr (h_adv x.1) hok _ ?_) (by omega)
      have := A'.app.2
      simp only [List.length_append, List.length_cons, List.length_nil] at this
      exact this
    · exact hx
theorem X_test {F : Nat × Nat} {h : jH} {t p sz ws : Nat} {cd : Nat → Nat} (U : XU h) (X : XT h t p sz cd) {e : Ev} {od : Bool} (E : XE h ws e od) {T : Tk} : ∀ d st, Xh F t ws h cd sz e (2 * d + 4) (h_test T od d st)
  | d, st => by
    rw [h_test_eq]
    have h1 := X_plain (F := F) (T := T) (od := od) (d := d) U X (X_posi U X E (fun e1 he st => by subst he; exact X_test U X E e1 st))
    have h2 := X_both U X h1
    exact X_ol U X h2 hN _ (h2 st)
  termination_by d => d
/-- the whole: from a start to the end -/
theorem X_worth {F : Nat × Nat} (hF : FF F) {h : jH} {t p sz ws : Nat} {cd : Nat → Nat} (U : XU h) (X : XT h t p sz cd) {c : List Nat} {s need : Nat} {x : Option Int} (A : Xat cd sz s (c ++ [0])) (hx : Xr F t ws h need c s x) (hn : need ≤ 48) : ∃ st, m_U_worth F 72 t (nI s) ws h = some (some (.long (iL (x.getD BR))), hW h st) := by
  have A2 := A.app.2
  have hl := A.1
  rw [List.length_append] at hl
  have hl1 : [0].length = 1 := rfl
  have X5 := X.2.2.2.2.1
  have hf := hF.1
  obtain ⟨f, hf1⟩ : ∃ f, F.1 = f + 1 + c.length := ⟨F.1 - 1 - c.length, by omega⟩
  obtain ⟨hx1, hx2⟩ := hx (f + 1) 0 (fun i => j_J h 74 i) (by omega)
  have e0 : m_U_worth F 72 t (nI s) ws h = Xm F t ws h (f + 1 + c.length) 0 s (fun i => j_J h 74 i) := by
    unfold Xm
    rw [hW_0, ← hf1]
    simp (disch := first | exact sR_rfl _ _ rfl | omega) only [q_U_worth, ft_lit, ft_m1, ft_m2, ft_m3, ft_m5, ft_m6, ft_cl, ft_lt, ft_le, ft_eq, ft_mlt, ft_ltm, ft_mltm, ft_meq, ft_eqm, ft_meqm, ft_add, ft_mul, ft_sub, ft_nm, ft_m1p, ft_and, ft_or, ft_31, ft_shl, ft_shr, ft_bz, ft_z0, ft_z1, ft_z01, ft_bb, ft_zt, ft_zf, ft_or0, ft_rv, ft_rvr, ft_rf, ft_rfn, ft_bI, ft_bJ, ft_bV, ft_bR, ft_bRn, ft_isr, ft_isn, ft_ifn, ft_ifr, ft_ov, ft_ovn, ft_in, k_sI, n_sI, R_sI, J_sI, c_sI, z_sI, k_sJ, n_sJ, R_sJ, I_sJ, c_sJ, z_sJ, k_sR, n_sR, I_sR, J_sR, c_sR, z_sR, k_wI, n_wI, R_wI, J_wI, I_wIe, k_wJ, n_wJ, R_wJ, I_wJ, J_wJe, I_wIn, J_wJn, I_sIe, J_sJe, R_sRe, I_sIn, I_sIk, J_sJn, J_sJk, R_sRn, R_sRk, eq_self, if_true, if_false, ↓reduceIte, cond_true, cond_false, ↓cond_eq_ite, and_true, true_and, and_false, false_and, or_true, true_or, or_false, false_or, not_true_eq_false, not_false_eq_true, ft_ltT, ft_ltF, ft_eqT, ft_eqF, Bool.false_eq_true, Bool.true_eq_false, Bool.not_true, Bool.not_false, Bool.and_true, Bool.true_and, Bool.and_false, Bool.false_and, decide_true, decide_false, Nat.reduceAdd, Nat.reduceMul, Nat.reduceSub, Nat.reduceEqDiff, Nat.reduceLT, Nat.zero_add, Nat.add_zero, Nat.reduceDiv, Nat.reduceMod]
  rw [e0]
  cases x with
  | none =>
    obtain ⟨st, hs⟩ := hx2 rfl
    exact ⟨st, hs⟩
  | some v =>
    obtain ⟨f1, st1, g1, g2, g3, g4⟩ := hx1 v rfl
    obtain ⟨f2, hf2⟩ : ∃ f2, f1 = f2 + 1 := ⟨f1 - 1, by omega⟩
    rw [g2, hf2]
    refine ⟨st1, ?_⟩
    obtain ⟨a1, a2⟩ := A2.one
    obtain ⟨U1, U2, U3, U4⟩ := U
    obtain ⟨X1, X2, X3, X4, X5, X6, X7, X8⟩ := X
    have c0 := X7 _ a1
    rw [a2] at c0
    have v1 := fun {h2 : jH} (e : sR h2 h) f => rv_of U2 e f
    have v2 := fun {h2 : jH} (e : sR h2 h) f => rv_of X2 e f
    unfold Xm
    rw [q_U_worth_13]
    simp (disch := first | exact sR_rfl _ _ rfl | omega) only [ft_lit, ft_m1, ft_m2, ft_m3, ft_m5, ft_m6, ft_cl, ft_lt, ft_le, ft_eq, ft_mlt, ft_ltm, ft_mltm, ft_meq, ft_eqm, ft_meqm, ft_add, ft_mul, ft_sub, ft_nm, ft_m1p, ft_and, ft_or, ft_31, ft_shl, ft_shr, ft_bz, ft_z0, ft_z1, ft_z01, ft_bb, ft_zt, ft_zf, ft_or0, ft_rv, ft_rvr, ft_rf, ft_rfn, ft_bI, ft_bJ, ft_bV, ft_bR, ft_bRn, ft_isr, ft_isn, ft_ifn, ft_ifr, ft_ov, ft_ovn, ft_in, k_sI, n_sI, R_sI, J_sI, c_sI, z_sI, k_sJ, n_sJ, R_sJ, I_sJ, c_sJ, z_sJ, k_sR, n_sR, I_sR, J_sR, c_sR, z_sR, k_wI, n_wI, R_wI, J_wI, I_wIe, k_wJ, n_wJ, R_wJ, I_wJ, J_wJe, I_wIn, J_wJn, I_sIe, J_sJe, R_sRe, I_sIn, I_sIk, J_sJn, J_sJk, R_sRn, R_sRk, eq_self, if_true, if_false, ↓reduceIte, cond_true, cond_false, ↓cond_eq_ite, and_true, true_and, and_false, false_and, or_true, true_or, or_false, false_or, not_true_eq_false, not_false_eq_true, ft_ltT, ft_ltF, ft_eqT, ft_eqF, Bool.false_eq_true, Bool.true_eq_false, Bool.not_true, Bool.not_false, Bool.and_true, Bool.true_and, Bool.and_false, Bool.false_and, decide_true, decide_false, Nat.reduceAdd, Nat.reduceMul, Nat.reduceSub, Nat.reduceEqDiff, Nat.reduceLT, Nat.zero_add, Nat.add_zero, Nat.reduceDiv, Nat.reduceMod, hW_k, hW_n, hW_R, hW_I, U1, U2, U3, U4, X1, X2, X3, X6, ↓v1, ↓v2, c0, hW_J, g4, Nat.zero_and, Option.getD_some]
