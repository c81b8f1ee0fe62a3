/-! THE REFERENCE READS, the recursive ones -/
def h_lv (s : Ps) : Prop := s.2.2 ≤ 51 ∧ (s.1 = true → s.2.2 ≤ 50)
theorem h_adv_lv {s : Ps} (h : h_lv s) (e : s.1 = true) : h_lv (h_adv s) := ⟨h.1, fun _ => h.2 e⟩
theorem h_flt_lv {s : Ps} (h : h_lv s) : h_lv (h_flt s) := ⟨h.1, fun q => nomatch q⟩
theorem h_tk_1 {T : Tk} {c : Nat} {s : Ps} (e : h_tk T c s = true) : s.1 = true := by
  unfold h_tk at e
  simp only [Bool.and_eq_true] at e
  exact e.1
theorem h_must_lv {T : Tk} {c : Nat} {s : Ps} (h : h_lv s) : h_lv (h_must T c s) := by
  unfold h_must
  split
  · rename_i e; exact h_adv_lv h (h_tk_1 e)
  · exact h_flt_lv h
theorem h_num_lv {T : Tk} {lo hi : Nat} {s : Ps} (h : h_lv s) : h_lv (h_num T lo hi s) := by
  unfold h_num
  split
  · rename_i e
    split
    · exact h_adv_lv h e
    · exact h_flt_lv h
  · exact h
theorem h_leaf_lv {s : Ps} (h : h_lv s) (e : s.1 = true) : h_lv (h_leaf s) := by
  have := h.2 e
  unfold h_leaf
  split
  · exact ⟨Nat.le_refl _, fun q => nomatch q⟩
  · exact ⟨by show s.2.2 + 1 ≤ 51; omega, fun _ => by show s.2.2 + 1 ≤ 50; omega⟩
def h_lvr (rec : Option (Ps → Rs)) : Prop := ∀ r, rec = some r → ∀ s : Ps, h_lv s → h_lv (r s).1
theorem h_part_lv {T : Tk} {od : Bool} {rec : Option (Ps → Rs)} (hr : h_lvr rec) {s : Ps} (h : h_lv s) : h_lv (h_part T od rec s).1 := by
  unfold h_part
  split
  · exact h
  · rename_i e
    have e1 : s.1 = true := by simpa using e
    split
    · split
      · exact h_flt_lv h
      · exact h_must_lv (hr _ rfl _ (h_adv_lv h e1))
    · split
      · exact h_leaf_lv h e1
      · split
        · split
          · exact h_num_lv (h_leaf_lv h e1)
          · split
            · exact h_num_lv (h_leaf_lv h e1)
            · exact h_leaf_lv h e1
        · exact h_flt_lv h
theorem h_tl_lv {T : Tk} {od : Bool} {rec : Option (Ps → Rs)} (hr : h_lvr rec) : ∀ f (x : Rs), h_lv x.1 → h_lv (h_tl T od rec f x).1
  | 0, x, h => h
  | f + 1, x, h => by
    unfold h_tl
    split
    · rename_i e
      simp only [Bool.and_eq_true] at e
      exact h_tl_lv hr f _ (h_part_lv hr (h_adv_lv h e.1))
    · exact h
theorem h_term_lv {T : Tk} {od : Bool} {rec : Option (Ps → Rs)} (hr : h_lvr rec) {s : Ps} (h : h_lv s) : h_lv (h_term T od rec s).1 := h_tl_lv hr hN _ (h_part_lv hr h)
theorem h_sl_lv {T : Tk} {od : Bool} {rec : Option (Ps → Rs)} (hr : h_lvr rec) : ∀ f (x : Rs), h_lv x.1 → h_lv (h_sl T od rec f x).1
  | 0, x, h => h
  | f + 1, x, h => by
    unfold h_sl
    split
    · rename_i e
      simp only [Bool.and_eq_true] at e
      exact h_sl_lv hr f _ (h_term_lv hr (h_adv_lv h e.1))
    · exact h
theorem h_su_lv {T : Tk} {od : Bool} {rec : Option (Ps → Rs)} (hr : h_lvr rec) {s : Ps} (h : h_lv s) : h_lv (h_su T od rec s).1 := h_sl_lv hr hN _ (h_term_lv hr h)
theorem h_sum_lv {T : Tk} {od : Bool} : ∀ d {s : Ps}, h_lv s → h_lv (h_sum T od d s).1
  | 0, s, h => h_su_lv (fun r e => by cases e) h
  | d + 1, s, h => h_su_lv (fun r e s hs => by cases Option.some.inj e; exact h_sum_lv d hs) h
theorem h_sumr_lv {T : Tk} {od : Bool} (d : Nat) : h_lvr (h_sumr T od d) := by
  cases d with
  | zero => exact fun r e => by cases e
  | succ d => exact fun r e s hs => by cases Option.some.inj e; exact h_sum_lv d hs
theorem h_nl_lv {T : Tk} : ∀ f b (s : Ps), h_lv s → h_lv (h_nl T f b s).2
  | 0, b, s, h => h
  | f + 1, b, s, h => by
    unfold h_nl
    split
    · rename_i e
      exact h_nl_lv f _ _ (h_adv_lv h (h_tk_1 e))
    · exact h
theorem h_cs_lv {T : Tk} {s : Ps} (h : h_lv s) : h_lv (h_cs T s) := by
  unfold h_cs
  split
  · rename_i e; exact h_adv_lv h (h_tk_1 e)
  · split
    · rename_i e; exact h_adv_lv h (h_tk_1 e)
    · exact h_must_lv h
def h_lvt (rec : Option (Ps → Rt)) : Prop := ∀ r, rec = some r → ∀ s : Ps, h_lv s → h_lv (r s).1
theorem h_posi_lv {T : Tk} {od : Bool} {rec : Option (Ps → Rt)} (hr : h_lvt rec) {d : Nat} {s : Ps} (h : h_lv s) : h_lv (h_posi T od rec d s).1 := by
  unfold h_posi
  split
  · exact h
  · rename_i e
    have e1 : s.1 = true := by simpa using e
    split
    · split
      · exact h_flt_lv h
      · exact h_must_lv (hr _ rfl _ (h_adv_lv h e1))
    · exact h_sum_lv d (h_cs_lv (h_sum_lv d h))
theorem h_plain_lv {T : Tk} {od : Bool} {rec : Option (Ps → Rt)} (hr : h_lvt rec) {d : Nat} {s : Ps} (h : h_lv s) : h_lv (h_plain T od rec d s).1 := h_posi_lv hr (h_nl_lv hN false s h)
theorem h_bl_lv {T : Tk} {od : Bool} {rec : Option (Ps → Rt)} (hr : h_lvt rec) {d : Nat} : ∀ f (x : Rt), h_lv x.1 → h_lv (h_bl T od rec d f x).1
  | 0, x, h => h
  | f + 1, x, h => by
    unfold h_bl
    split
    · rename_i e
      exact h_bl_lv hr f _ (h_plain_lv hr (h_adv_lv h (h_tk_1 e)))
    · exact h
theorem h_both_lv {T : Tk} {od : Bool} {rec : Option (Ps → Rt)} (hr : h_lvt rec) {d : Nat} {s : Ps} (h : h_lv s) : h_lv (h_both T od rec d s).1 := h_bl_lv hr hN _ (h_plain_lv hr h)
theorem h_ol_lv {T : Tk} {od : Bool} {rec : Option (Ps → Rt)} (hr : h_lvt rec) {d : Nat} : ∀ f (x : Rt), h_lv x.1 → h_lv (h_ol T od rec d f x).1
  | 0, x, h => h
  | f + 1, x, h => by
    unfold h_ol
    split
    · rename_i e
      exact h_ol_lv hr f _ (h_both_lv hr (h_adv_lv h (h_tk_1 e)))
    · exact h
theorem h_te_lv {T : Tk} {od : Bool} {rec : Option (Ps → Rt)} (hr : h_lvt rec) {d : Nat} {s : Ps} (h : h_lv s) : h_lv (h_te T od rec d s).1 := h_ol_lv hr hN _ (h_both_lv hr h)
theorem h_test_lv {T : Tk} {od : Bool} : ∀ d {s : Ps}, h_lv s → h_lv (h_test T od d s).1
  | 0, s, h => h_te_lv (fun r e => by cases e) h
  | d + 1, s, h => h_te_lv (fun r e s hs => by cases Option.some.inj e; exact h_test_lv d hs) h
theorem h_testr_lv {T : Tk} {od : Bool} (d : Nat) : h_lvt (h_testr T od d) := by
  cases d with
  | zero => exact fun r e => by cases e
  | succ d => exact fun r e s hs => by cases Option.some.inj e; exact h_test_lv d hs
/-- a reader of the reference does on the heap what g does on the state -/
def Pr (h : jH) (pl : Nat → Nat) (n : Nat) (m : jH → Option jO) (g : Ps → Ps) : Prop := ∀ s : Ps, s.2.1 ≤ n → h_lv s → m (hP h pl s) = some (none, hP h pl (g s))
theorem Pr.b {h : jH} {pl : Nat → Nat} {n : Nat} {m : jH → Option jO} {g : Ps → Ps} (P : Pr h pl n m g) {s : Ps} (h1 : s.2.1 ≤ n) (h2 : h_lv s) (ff : jH → Option jO) : jbV (m (hP h pl s)) ff = ff (hP h pl (g s)) := bV_of (P s h1 h2) ff
theorem M_sign {F : Nat × Nat} {h : jH} (x : Int32) : m_M_sign F x h = some (some (.int (nI 100 + x)), h) := rfl
theorem M_sign_b {F : Nat × Nat} {h : jH} (x : Int32) (ff : Int32 → jH → Option jO) : jbI (m_M_sign F x h) ff = ff ((nI 100 + x)) (h) := bI_of (M_sign (F := F) (h := h) (x := x)) ff
theorem P_part {F : Nat × Nat} {h : jH} {T : Tk} {pl : Nat → Nat} {n : Nat} {od : Bool} (H : PM h T pl n od) {rc : Nat → List Value → jH → Option jO} {dp d : Nat} (hd : dp + d = 8) (hrc : ∀ e, d = e + 1 → Pr h pl n (rc 216 [.ref 85, .int (nI (dp + 1))]) (fun s => (h_sum T od e s).1)) : Pr h pl n (m_M_readPart_r F rc 85 (nI dp)) (fun s => (h_part T od (h_sumr T od d) s).1) := by
  intro s h1 h2
  obtain ⟨b, t, l⟩ := s
  have fi := P_fine_b (F := F) H
  have fa := fun b {t} l (ht : t ≤ n) => P_faults_b (F := F) H b (l := l) ht
  have mu := fun b {t} l (ht : t ≤ n) => P_must_b (F := F) H (c := 193) (by omega) b (l := l) ht
  have nu := fun hi (hh : hi < 2147483648) b {t} l (ht : t ≤ n) => P_num_b (F := F) H (lo := 0) (hi := hi) (by omega) hh b (l := l) ht
  obtain ⟨S, Q, f1, f2, f3⟩ := id H
  have hn := Q.2.1
  have b1 := (Q.2.2.2 t).1
  have b2 := (Q.2.2.2 t).2.1
  have ht : t ≤ n := h1
  clear h1
  have e1 := (Q.1 t ht).1
  have e2 := (Q.1 t ht).2.1
  cases b
  · simp (disch := first | exact sR_rfl _ _ rfl | omega) only [q_M_readPart_r, q_M_readPart_95, q_M_readPart_135, ft_lit, ft_m1, ft_m2, ft_m3, ft_m5, ft_m6, ft_cl, ft_lt, ft_le, ft_eq, ft_mlt, ft_ltm, ft_mltm, ft_meq, ft_eqm, ft_meqm, ft_add, ft_mul, ft_sub, ft_nm, ft_m1p, ft_and, ft_or, ft_31, ft_shl, ft_shr, ft_bz, ft_z0, ft_z1, ft_z01, ft_bb, ft_zt, ft_zf, ft_or0, ft_rv, ft_rvr, ft_rf, ft_rfn, ft_bI, ft_bJ, ft_bV, ft_bR, ft_bRn, ft_isr, ft_isn, ft_ifn, ft_ifr, ft_ov, ft_ovn, ft_in, k_sI, n_sI, R_sI, J_sI, c_sI, z_sI, k_sJ, n_sJ, R_sJ, I_sJ, c_sJ, z_sJ, k_sR, n_sR, I_sR, J_sR, c_sR, z_sR, k_wI, n_wI, R_wI, J_wI, I_wIe, k_wJ, n_wJ, R_wJ, I_wJ, J_wJe, I_wIn, J_wJn, I_sIe, J_sJe, R_sRe, I_sIn, I_sIk, J_sJn, J_sJk, R_sRn, R_sRk, eq_self, if_true, if_false, ↓reduceIte, cond_true, cond_false, ↓cond_eq_ite, and_true, true_and, and_false, false_and, or_true, true_or, or_false, false_or, not_true_eq_false, not_false_eq_true, ft_ltT, ft_ltF, ft_eqT, ft_eqF, Bool.false_eq_true, Bool.true_eq_false, Bool.not_true, Bool.not_false, Bool.and_true, Bool.true_and, Bool.and_false, Bool.false_and, decide_true, decide_false, Nat.reduceAdd, Nat.reduceMul, Nat.reduceSub, Nat.reduceEqDiff, Nat.reduceLT, Nat.zero_add, Nat.add_zero, Nat.reduceDiv, Nat.reduceMod, sm_k85 S, sm_R85_1 S, ↓sm_v85_1 S, sm_R85_2 S, ↓sm_v85_2 S, sm_R85_3 S, ↓sm_v85_3 S, sm_R85_4 S, ↓sm_v85_4 S, sm_R85_5 S, ↓sm_v85_5 S, sm_R85_7 S, ↓sm_v85_7 S, sm_R85_11 S, ↓sm_v85_11 S, sm_R85_12 S, ↓sm_v85_12 S, sm_R85_15 S, ↓sm_v85_15 S, sm_R85_16 S, ↓sm_v85_16 S, sm_R85_17 S, ↓sm_v85_17 S, sm_R85_26 S, ↓sm_v85_26 S, sm_R85_29 S, ↓sm_v85_29 S, sm_R85_30 S, ↓sm_v85_30 S, sm_R85_32 S, ↓sm_v85_32 S, sm_R85_33 S, ↓sm_v85_33 S, sm_R85_34 S, ↓sm_v85_34 S, sm_R85_35 S, ↓sm_v85_35 S, sm_R85_36 S, ↓sm_v85_36 S, sm_R85_37 S, ↓sm_v85_37 S, sm_R85_38 S, ↓sm_v85_38 S, sm_R85_40 S, ↓sm_v85_40 S, sm_R85_41 S, ↓sm_v85_41 S, sm_R85_48 S, ↓sm_v85_48 S, sm_R85_49 S, ↓sm_v85_49 S, sm_k86 S, sm_n86 S, sm_k87 S, sm_n87 S, sm_k88 S, sm_n88 S, sm_k89 S, sm_n89 S, sm_k90 S, sm_n90 S, sm_k91 S, sm_n91 S, sm_k92 S, sm_n92 S, sm_k93 S, sm_n93 S, sm_k94 S, sm_n94 S, sm_k95 S, sm_n95 S, sm_k96 S, sm_n96 S, sm_k97 S, sm_n97 S, sm_k98 S, sm_n98 S, sm_k99 S, sm_n99 S, sm_k100 S, sm_n100 S, sm_k101 S, sm_n101 S, sm_k102 S, sm_n102 S, sm_k103 S, sm_n103 S, sm_k104 S, sm_n104 S, sm_k105 S, sm_n105 S, sm_k106 S, sm_n106 S, sm_k107 S, sm_n107 S, sm_k108 S, sm_n108 S, sm_k109 S, sm_n109 S, sm_k110 S, sm_n110 S, hP_k, ↓fi, h_part]
  · have hl : l ≤ 50 := h2.2 rfl
    have le := P_leaf_b (F := F) H ht hl
    by_cases q : T.1 t = 191
    · have hlt : t < n := by
        have : t ≠ n := fun z => by rw [z, Q.2.2.1] at q; omega
        omega
      cases d with
      | zero =>
        have : dp = 8 := by omega
        subst this
        simp (disch := first | exact sR_rfl _ _ rfl | omega) only [q_M_readPart_r, q_M_readPart_95, q_M_readPart_135, ft_lit, ft_m1, ft_m2, ft_m3, ft_m5, ft_m6, ft_cl, ft_lt, ft_le, ft_eq, ft_mlt, ft_ltm, ft_mltm, ft_meq, ft_eqm, ft_meqm, ft_add, ft_mul, ft_sub, ft_nm, ft_m1p, ft_and, ft_or, ft_31, ft_shl, ft_shr, ft_bz, ft_z0, ft_z1, ft_z01, ft_bb, ft_zt, ft_zf, ft_or0, ft_rv, ft_rvr, ft_rf, ft_rfn, ft_bI, ft_bJ, ft_bV, ft_bR, ft_bRn, ft_isr, ft_isn, ft_ifn, ft_ifr, ft_ov, ft_ovn, ft_in, k_sI, n_sI, R_sI, J_sI, c_sI, z_sI, k_sJ, n_sJ, R_sJ, I_sJ, c_sJ, z_sJ, k_sR, n_sR, I_sR, J_sR, c_sR, z_sR, k_wI, n_wI, R_wI, J_wI, I_wIe, k_wJ, n_wJ, R_wJ, I_wJ, J_wJe, I_wIn, J_wJn, I_sIe, J_sJe, R_sRe, I_sIn, I_sIk, J_sJn, J_sJk, R_sRn, R_sRk, eq_self, if_true, if_false, ↓reduceIte, cond_true, cond_false, ↓cond_eq_ite, and_true, true_and, and_false, false_and, or_true, true_or, or_false, false_or, not_true_eq_false, not_false_eq_true, ft_ltT, ft_ltF, ft_eqT, ft_eqF, Bool.false_eq_true, Bool.true_eq_false, Bool.not_true, Bool.not_false, Bool.and_true, Bool.true_and, Bool.and_false, Bool.false_and, decide_true, decide_false, Nat.reduceAdd, Nat.reduceMul, Nat.reduceSub, Nat.reduceEqDiff, Nat.reduceLT, Nat.zero_add, Nat.add_zero, Nat.reduceDiv, Nat.reduceMod, sm_k85 S, sm_R85_1 S, ↓sm_v85_1 S, sm_R85_2 S, ↓sm_v85_2 S, sm_R85_3 S, ↓sm_v85_3 S, sm_R85_4 S, ↓sm_v85_4 S, sm_R85_5 S, ↓sm_v85_5 S, sm_R85_7 S, ↓sm_v85_7 S, sm_R85_11 S, ↓sm_v85_11 S, sm_R85_12 S, ↓sm_v85_12 S, sm_R85_15 S, ↓sm_v85_15 S, sm_R85_16 S, ↓sm_v85_16 S, sm_R85_17 S, ↓sm_v85_17 S, sm_R85_26 S, ↓sm_v85_26 S, sm_R85_29 S, ↓sm_v85_29 S, sm_R85_30 S, ↓sm_v85_30 S, sm_R85_32 S, ↓sm_v85_32 S, sm_R85_33 S, ↓sm_v85_33 S, sm_R85_34 S, ↓sm_v85_34 S, sm_R85_35 S, ↓sm_v85_35 S, sm_R85_36 S, ↓sm_v85_36 S, sm_R85_37 S, ↓sm_v85_37 S, sm_R85_38 S, ↓sm_v85_38 S, sm_R85_40 S, ↓sm_v85_40 S, sm_R85_41 S, ↓sm_v85_41 S, sm_R85_48 S, ↓sm_v85_48 S, sm_R85_49 S, ↓sm_v85_49 S, sm_k86 S, sm_n86 S, sm_k87 S, sm_n87 S, sm_k88 S, sm_n88 S, sm_k89 S, sm_n89 S, sm_k90 S, sm_n90 S, sm_k91 S, sm_n91 S, sm_k92 S, sm_n92 S, sm_k93 S, sm_n93 S, sm_k94 S, sm_n94 S, sm_k95 S, sm_n95 S, sm_k96 S, sm_n96 S, sm_k97 S, sm_n97 S, sm_k98 S, sm_n98 S, sm_k99 S, sm_n99 S, sm_k100 S, sm_n100 S, sm_k101 S, sm_n101 S, sm_k102 S, sm_n102 S, sm_k103 S, sm_n103 S, sm_k104 S, sm_n104 S, sm_k105 S, sm_n105 S, sm_k106 S, sm_n106 S, sm_k107 S, sm_n107 S, sm_k108 S, sm_n108 S, sm_k109 S, sm_n109 S, sm_k110 S, sm_n110 S, hP_k, hP_n, hP_R, hP_I, hP_19, ↓fi, ↓fa, ↓M_sign_b, e1, q, h_part, h_sumr, h_flt]
      | succ e =>
        have r0 := (hrc e rfl).b (s := (true, t + 1, l)) hlt ⟨h2.1, fun _ => hl⟩
        have g1 : ((h_sum T od e (true, t + 1, l)).1).2.1 ≤ n := (h_sum_ok (od := od) Q.2.2.1 e (s := (true, t + 1, l)) hlt).1
        generalize hz : (h_sum T od e (true, t + 1, l)).1 = z at r0 g1
        obtain ⟨b', t', l'⟩ := z
        have mu' := mu b' (t := t') l' g1
        simp (disch := first | exact sR_rfl _ _ rfl | omega) only [q_M_readPart_r, q_M_readPart_95, q_M_readPart_135, ft_lit, ft_m1, ft_m2, ft_m3, ft_m5, ft_m6, ft_cl, ft_lt, ft_le, ft_eq, ft_mlt, ft_ltm, ft_mltm, ft_meq, ft_eqm, ft_meqm, ft_add, ft_mul, ft_sub, ft_nm, ft_m1p, ft_and, ft_or, ft_31, ft_shl, ft_shr, ft_bz, ft_z0, ft_z1, ft_z01, ft_bb, ft_zt, ft_zf, ft_or0, ft_rv, ft_rvr, ft_rf, ft_rfn, ft_bI, ft_bJ, ft_bV, ft_bR, ft_bRn, ft_isr, ft_isn, ft_ifn, ft_ifr, ft_ov, ft_ovn, ft_in, k_sI, n_sI, R_sI, J_sI, c_sI, z_sI, k_sJ, n_sJ, R_sJ, I_sJ, c_sJ, z_sJ, k_sR, n_sR, I_sR, J_sR, c_sR, z_sR, k_wI, n_wI, R_wI, J_wI, I_wIe, k_wJ, n_wJ, R_wJ, I_wJ, J_wJe, I_wIn, J_wJn, I_sIe, J_sJe, R_sRe, I_sIn, I_sIk, J_sJn, J_sJk, R_sRn, R_sRk, eq_self, if_true, if_false, ↓reduceIte, cond_true, cond_false, ↓cond_eq_ite, and_true, true_and, and_false, false_and, or_true, true_or, or_false, false_or, not_true_eq_false, not_false_eq_true, ft_ltT, ft_ltF, ft_eqT, ft_eqF, Bool.false_eq_true, Bool.true_eq_false, Bool.not_true, Bool.not_false, Bool.and_true, Bool.true_and, Bool.and_false, Bool.false_and, decide_true, decide_false, Nat.reduceAdd, Nat.reduceMul, Nat.reduceSub, Nat.reduceEqDiff, Nat.reduceLT, Nat.zero_add, Nat.add_zero, Nat.reduceDiv, Nat.reduceMod, sm_k85 S, sm_R85_1 S, ↓sm_v85_1 S, sm_R85_2 S, ↓sm_v85_2 S, sm_R85_3 S, ↓sm_v85_3 S, sm_R85_4 S, ↓sm_v85_4 S, sm_R85_5 S, ↓sm_v85_5 S, sm_R85_7 S, ↓sm_v85_7 S, sm_R85_11 S, ↓sm_v85_11 S, sm_R85_12 S, ↓sm_v85_12 S, sm_R85_15 S, ↓sm_v85_15 S, sm_R85_16 S, ↓sm_v85_16 S, sm_R85_17 S, ↓sm_v85_17 S, sm_R85_26 S, ↓sm_v85_26 S, sm_R85_29 S, ↓sm_v85_29 S, sm_R85_30 S, ↓sm_v85_30 S, sm_R85_32 S, ↓sm_v85_32 S, sm_R85_33 S, ↓sm_v85_33 S, sm_R85_34 S, ↓sm_v85_34 S, sm_R85_35 S, ↓sm_v85_35 S, sm_R85_36 S, ↓sm_v85_36 S, sm_R85_37 S, ↓sm_v85_37 S, sm_R85_38 S, ↓sm_v85_38 S, sm_R85_40 S, ↓sm_v85_40 S, sm_R85_41 S, ↓sm_v85_41 S, sm_R85_48 S, ↓sm_v85_48 S, sm_R85_49 S, ↓sm_v85_49 S, sm_k86 S, sm_n86 S, sm_k87 S, sm_n87 S, sm_k88 S, sm_n88 S, sm_k89 S, sm_n89 S, sm_k90 S, sm_n90 S, sm_k91 S, sm_n91 S, sm_k92 S, sm_n92 S, sm_k93 S, sm_n93 S, sm_k94 S, sm_n94 S, sm_k95 S, sm_n95 S, sm_k96 S, sm_n96 S, sm_k97 S, sm_n97 S, sm_k98 S, sm_n98 S, sm_k99 S, sm_n99 S, sm_k100 S, sm_n100 S, sm_k101 S, sm_n101 S, sm_k102 S, sm_n102 S, sm_k103 S, sm_n103 S, sm_k104 S, sm_n104 S, sm_k105 S, sm_n105 S, sm_k106 S, sm_n106 S, sm_k107 S, sm_n107 S, sm_k108 S, sm_n108 S, sm_k109 S, sm_n109 S, sm_k110 S, sm_n110 S, hP_k, hP_n, hP_R, hP_I, hP_19, ↓fi, ↓fa, ↓M_sign_b, e1, q, h_part, h_sumr, h_adv, hP_st, ↓r0, ↓mu', hz]
    · by_cases q2 : T.1 t = 50 ∧ T.2 t ≤ 1000
      · obtain ⟨q2, q3⟩ := q2
        generalize hz : h_leaf (true, t, l) = z at le
        obtain ⟨b', t', l'⟩ := z
        cases od
        · simp (disch := first | exact sR_rfl _ _ rfl | omega) only [q_M_readPart_r, q_M_readPart_95, q_M_readPart_135, ft_lit, ft_m1, ft_m2, ft_m3, ft_m5, ft_m6, ft_cl, ft_lt, ft_le, ft_eq, ft_mlt, ft_ltm, ft_mltm, ft_meq, ft_eqm, ft_meqm, ft_add, ft_mul, ft_sub, ft_nm, ft_m1p, ft_and, ft_or, ft_31, ft_shl, ft_shr, ft_bz, ft_z0, ft_z1, ft_z01, ft_bb, ft_zt, ft_zf, ft_or0, ft_rv, ft_rvr, ft_rf, ft_rfn, ft_bI, ft_bJ, ft_bV, ft_bR, ft_bRn, ft_isr, ft_isn, ft_ifn, ft_ifr, ft_ov, ft_ovn, ft_in, k_sI, n_sI, R_sI, J_sI, c_sI, z_sI, k_sJ, n_sJ, R_sJ, I_sJ, c_sJ, z_sJ, k_sR, n_sR, I_sR, J_sR, c_sR, z_sR, k_wI, n_wI, R_wI, J_wI, I_wIe, k_wJ, n_wJ, R_wJ, I_wJ, J_wJe, I_wIn, J_wJn, I_sIe, J_sJe, R_sRe, I_sIn, I_sIk, J_sJn, J_sJk, R_sRn, R_sRk, eq_self, if_true, if_false, ↓reduceIte, cond_true, cond_false, ↓cond_eq_ite, and_true, true_and, and_false, false_and, or_true, true_or, or_false, false_or, not_true_eq_false, not_false_eq_true, ft_ltT, ft_ltF, ft_eqT, ft_eqF, Bool.false_eq_true, Bool.true_eq_false, Bool.not_true, Bool.not_false, Bool.and_true, Bool.true_and, Bool.and_false, Bool.false_and, decide_true, decide_false, Nat.reduceAdd, Nat.reduceMul, Nat.reduceSub, Nat.reduceEqDiff, Nat.reduceLT, Nat.zero_add, Nat.add_zero, Nat.reduceDiv, Nat.reduceMod, sm_k85 S, sm_R85_1 S, ↓sm_v85_1 S, sm_R85_2 S, ↓sm_v85_2 S, sm_R85_3 S, ↓sm_v85_3 S, sm_R85_4 S, ↓sm_v85_4 S, sm_R85_5 S, ↓sm_v85_5 S, sm_R85_7 S, ↓sm_v85_7 S, sm_R85_11 S, ↓sm_v85_11 S, sm_R85_12 S, ↓sm_v85_12 S, sm_R85_15 S, ↓sm_v85_15 S, sm_R85_16 S, ↓sm_v85_16 S, sm_R85_17 S, ↓sm_v85_17 S, sm_R85_26 S, ↓sm_v85_26 S, sm_R85_29 S, ↓sm_v85_29 S, sm_R85_30 S, ↓sm_v85_30 S, sm_R85_32 S, ↓sm_v85_32 S, sm_R85_33 S, ↓sm_v85_33 S, sm_R85_34 S, ↓sm_v85_34 S, sm_R85_35 S, ↓sm_v85_35 S, sm_R85_36 S, ↓sm_v85_36 S, sm_R85_37 S, ↓sm_v85_37 S, sm_R85_38 S, ↓sm_v85_38 S, sm_R85_40 S, ↓sm_v85_40 S, sm_R85_41 S, ↓sm_v85_41 S, sm_R85_48 S, ↓sm_v85_48 S, sm_R85_49 S, ↓sm_v85_49 S, sm_k86 S, sm_n86 S, sm_k87 S, sm_n87 S, sm_k88 S, sm_n88 S, sm_k89 S, sm_n89 S, sm_k90 S, sm_n90 S, sm_k91 S, sm_n91 S, sm_k92 S, sm_n92 S, sm_k93 S, sm_n93 S, sm_k94 S, sm_n94 S, sm_k95 S, sm_n95 S, sm_k96 S, sm_n96 S, sm_k97 S, sm_n97 S, sm_k98 S, sm_n98 S, sm_k99 S, sm_n99 S, sm_k100 S, sm_n100 S, sm_k101 S, sm_n101 S, sm_k102 S, sm_n102 S, sm_k103 S, sm_n103 S, sm_k104 S, sm_n104 S, sm_k105 S, sm_n105 S, sm_k106 S, sm_n106 S, sm_k107 S, sm_n107 S, sm_k108 S, sm_n108 S, sm_k109 S, sm_n109 S, sm_k110 S, sm_n110 S, hP_k, hP_n, hP_R, hP_I, hP_19, hP_o, ↓fi, ↓fa, ↓M_sign_b, e1, e2, q2, q3, h_part, h_sumr, h_adv, hP_st, ↓le, hz, f1, f2, f3, and_self]
        · simp (disch := first | exact sR_rfl _ _ rfl | omega) only [q_M_readPart_r, q_M_readPart_95, q_M_readPart_135, ft_lit, ft_m1, ft_m2, ft_m3, ft_m5, ft_m6, ft_cl, ft_lt, ft_le, ft_eq, ft_mlt, ft_ltm, ft_mltm, ft_meq, ft_eqm, ft_meqm, ft_add, ft_mul, ft_sub, ft_nm, ft_m1p, ft_and, ft_or, ft_31, ft_shl, ft_shr, ft_bz, ft_z0, ft_z1, ft_z01, ft_bb, ft_zt, ft_zf, ft_or0, ft_rv, ft_rvr, ft_rf, ft_rfn, ft_bI, ft_bJ, ft_bV, ft_bR, ft_bRn, ft_isr, ft_isn, ft_ifn, ft_ifr, ft_ov, ft_ovn, ft_in, k_sI, n_sI, R_sI, J_sI, c_sI, z_sI, k_sJ, n_sJ, R_sJ, I_sJ, c_sJ, z_sJ, k_sR, n_sR, I_sR, J_sR, c_sR, z_sR, k_wI, n_wI, R_wI, J_wI, I_wIe, k_wJ, n_wJ, R_wJ, I_wJ, J_wJe, I_wIn, J_wJn, I_sIe, J_sJe, R_sRe, I_sIn, I_sIk, J_sJn, J_sJk, R_sRn, R_sRk, eq_self, if_true, if_false, ↓reduceIte, cond_true, cond_false, ↓cond_eq_ite, and_true, true_and, and_false, false_and, or_true, true_or, or_false, false_or, not_true_eq_false, not_false_eq_true, ft_ltT, ft_ltF, ft_eqT, ft_eqF, Bool.false_eq_true, Bool.true_eq_false, Bool.not_true, Bool.not_false, Bool.and_true, Bool.true_and, Bool.and_false, Bool.false_and, decide_true, decide_false, Nat.reduceAdd, Nat.reduceMul, Nat.reduceSub, Nat.reduceEqDiff, Nat.reduceLT, Nat.zero_add, Nat.add_zero, Nat.reduceDiv, Nat.reduceMod, sm_k85 S, sm_R85_1 S, ↓sm_v85_1 S, sm_R85_2 S, ↓sm_v85_2 S, sm_R85_3 S, ↓sm_v85_3 S, sm_R85_4 S, ↓sm_v85_4 S, sm_R85_5 S, ↓sm_v85_5 S, sm_R85_7 S, ↓sm_v85_7 S, sm_R85_11 S, ↓sm_v85_11 S, sm_R85_12 S, ↓sm_v85_12 S, sm_R85_15 S, ↓sm_v85_15 S, sm_R85_16 S, ↓sm_v85_16 S, sm_R85_17 S, ↓sm_v85_17 S, sm_R85_26 S, ↓sm_v85_26 S, sm_R85_29 S, ↓sm_v85_29 S, sm_R85_30 S, ↓sm_v85_30 S, sm_R85_32 S, ↓sm_v85_32 S, sm_R85_33 S, ↓sm_v85_33 S, sm_R85_34 S, ↓sm_v85_34 S, sm_R85_35 S, ↓sm_v85_35 S, sm_R85_36 S, ↓sm_v85_36 S, sm_R85_37 S, ↓sm_v85_37 S, sm_R85_38 S, ↓sm_v85_38 S, sm_R85_40 S, ↓sm_v85_40 S, sm_R85_41 S, ↓sm_v85_41 S, sm_R85_48 S, ↓sm_v85_48 S, sm_R85_49 S, ↓sm_v85_49 S, sm_k86 S, sm_n86 S, sm_k87 S, sm_n87 S, sm_k88 S, sm_n88 S, sm_k89 S, sm_n89 S, sm_k90 S, sm_n90 S, sm_k91 S, sm_n91 S, sm_k92 S, sm_n92 S, sm_k93 S, sm_n93 S, sm_k94 S, sm_n94 S, sm_k95 S, sm_n95 S, sm_k96 S, sm_n96 S, sm_k97 S, sm_n97 S, sm_k98 S, sm_n98 S, sm_k99 S, sm_n99 S, sm_k100 S, sm_n100 S, sm_k101 S, sm_n101 S, sm_k102 S, sm_n102 S, sm_k103 S, sm_n103 S, sm_k104 S, sm_n104 S, sm_k105 S, sm_n105 S, sm_k106 S, sm_n106 S, sm_k107 S, sm_n107 S, sm_k108 S, sm_n108 S, sm_k109 S, sm_n109 S, sm_k110 S, sm_n110 S, hP_k, hP_n, hP_R, hP_I, hP_19, hP_o, ↓fi, ↓fa, ↓M_sign_b, e1, e2, q2, q3, h_part, h_sumr, h_adv, hP_st, ↓le, hz, f1, f2, f3, and_self]
      · sorry
