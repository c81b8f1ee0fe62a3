/-! THE REFERENCE: what a law tells -/
/-- what a clause is worth: none, if it doesn't hold -/
def h_holds (e : Ev) (c : Cz) : Bool := match c.2.2.2.2 with
  | none => true
  | some d => d.2 e == some true
def h_cw (e : Ev) (c : Cz) : Option Int := if h_holds e c then (match c.2.1 with
  | none => some 1
  | some d => d.2 e) else none
def h_clamp (lo hi : Nat) (v : Int) : Nat := if v < lo then lo else if (hi : Int) < v then hi else v.toNat
def h_tell (e : Ev) (head lo hi : Nat) (told : Nat) (c : Cz) : Nat := if c.1 = head then (match h_cw e c with
  | none => told
  | some v => h_clamp lo hi v) else told
theorem h_clamp_b {lo hi : Nat} (h : lo ≤ hi) (v : Int) : lo ≤ h_clamp lo hi v ∧ h_clamp lo hi v ≤ hi := by
  unfold h_clamp
  repeat' split
  all_goals omega
theorem h_tell_b {e : Ev} {head lo hi told : Nat} {c : Cz} (h : lo ≤ hi) (ht : lo ≤ told ∧ told ≤ hi) : lo ≤ h_tell e head lo hi told c ∧ h_tell e head lo hi told c ≤ hi := by
  unfold h_tell
  split
  · split
    · exact ht
    · exact h_clamp_b h _
  · exact ht
theorem h_fold_b {e : Ev} {head lo hi : Nat} (h : lo ≤ hi) : ∀ (cs : List Cz) (told : Nat), lo ≤ told ∧ told ≤ hi → lo ≤ cs.foldl (h_tell e head lo hi) told ∧ cs.foldl (h_tell e head lo hi) told ≤ hi
  | [], told, ht => ht
  | c :: cs, told, ht => h_fold_b h cs _ (h_tell_b h ht)
/-- a law's clause begins with costs, sees or bars -/
theorem h_one_l {T : Tk} {s : Ps} (h : (h_one T false s).1.1 = true) : s.1 = true ∧ (((T.1 s.2.1 = 1 ∨ T.1 s.2.1 = 2) ∧ (h_sum T false 8 (h_adv s)).1.1 = true ∧ h_lsum T s = ((h_sum T false 8 (h_adv s)).1, some (h_sum T false 8 (h_adv s)).2, none)) ∨ (T.1 s.2.1 = 3 ∧ h_lsum T s = (h_adv s, none, none))) ∧ ((T.1 (h_lsum T s).1.2.1 = 4 ∧ (h_test T false 8 (h_adv (h_lsum T s).1)).1.1 = true ∧ h_if T false (h_lsum T s).1 = ((h_test T false 8 (h_adv (h_lsum T s).1)).1, some (h_test T false 8 (h_adv (h_lsum T s).1)).2)) ∨ (T.1 (h_lsum T s).1.2.1 ≠ 4 ∧ h_if T false (h_lsum T s).1 = ((h_lsum T s).1, none))) := by
  have h0 : (h_if T false (h_lsum T s).1).1.1 = true := h
  have h1 : (h_lsum T s).1.1 = true ∧ ((T.1 (h_lsum T s).1.2.1 = 4 ∧ (h_test T false 8 (h_adv (h_lsum T s).1)).1.1 = true ∧ h_if T false (h_lsum T s).1 = ((h_test T false 8 (h_adv (h_lsum T s).1)).1, some (h_test T false 8 (h_adv (h_lsum T s).1)).2)) ∨ (T.1 (h_lsum T s).1.2.1 ≠ 4 ∧ h_if T false (h_lsum T s).1 = ((h_lsum T s).1, none))) := by
    unfold h_if at h0 ⊢
    by_cases q : h_tk T 4 (h_lsum T s).1 = true
    · rw [if_pos q] at h0 ⊢
      have := q
      unfold h_tk at this
      simp only [Bool.and_eq_true, beq_iff_eq] at this
      exact ⟨this.1, Or.inl ⟨this.2, h0, rfl⟩⟩
    · rw [if_neg q] at h0 ⊢
      have h0' : (h_lsum T s).1.1 = true := h0
      refine ⟨h0, Or.inr ⟨?_, rfl⟩⟩
      intro e
      apply q
      unfold h_tk
      simp [e, h0']
  refine ⟨?_, ?_, h1.2⟩
  · have h2 := h1.1
    unfold h_lsum at h2
    split at h2
    · rename_i e; exact h_tk_1 e
    · split at h2
      · rename_i e; exact h_tk_1 e
      · exact (h_must_t h2).2.1
  · have h2 := h1.1
    unfold h_lsum at h2 ⊢
    by_cases q : h_tk T 1 s = true
    · rw [if_pos q] at h2 ⊢
      have := q
      unfold h_tk at this
      simp only [Bool.and_eq_true, beq_iff_eq] at this
      exact Or.inl ⟨Or.inl this.2, h2, rfl⟩
    · rw [if_neg q] at h2 ⊢
      by_cases q2 : h_tk T 2 s = true
      · rw [if_pos q2] at h2 ⊢
        have := q2
        unfold h_tk at this
        simp only [Bool.and_eq_true, beq_iff_eq] at this
        exact Or.inl ⟨Or.inr this.2, h2, rfl⟩
      · rw [if_neg q2] at h2 ⊢
        obtain ⟨m1, m2, m3⟩ := h_must_t h2
        exact Or.inr ⟨m3, by rw [m1]⟩
theorem hvl_t (x : Option Int) : hvl true false x = x.getD 0 := rfl
theorem hbk_t (i : Bool) : hbk true false i = i := rfl
theorem E_286 {F : Nat × Nat} {h : jH} (S : ShM h) {k201 : Nat → Int32 → Int32 → Int32 → Int64 → jH → Option jO} {head lo hi told is j0 t : Nat} {e : Ev} {c : Cz} {sb r b2 : Bool} {v : Int} (hlo : lo ≤ 100) (hhi : hi ≤ 100) (his : is < 100) (hhe : head < 100) (hc : c.1 = is) (hv : -1000000000 ≤ v ∧ v ≤ 1000000000) (h1 : (h_cw e c).isNone = (sb || !(r && !b2))) (h2 : ∀ w, h_cw e c = some w → w = v) : m_M_tells_286 F k201 85 (nI head) (nI lo) (nI hi) (iL told) (nI is) (iL v) (nI (ft_z sb)) (nI (ft_z r)) (hE h j0 t b2) = k201 85 (nI head) (nI lo) (nI hi) (iL (h_tell e head lo hi told c)) (hE h j0 (t + 1) b2) := by
  have t345 : ∀ x, m_M_tells_345 F k201 85 (nI head) (nI lo) (nI hi) x (hE h j0 t b2) = k201 85 (nI head) (nI lo) (nI hi) x (hE h j0 (t + 1) b2) := by
    intro x
    simp (disch := first | exact sR_rfl _ _ rfl | omega) only [q_M_tells_345, ft_lit, ft_m1, ft_m2, ft_m3, ft_m5, ft_m6, ft_cl, ft_lt, ft_le, ft_eq, ft_mlt, ft_ltm, ft_mltm, ft_meq, ft_eqm, ft_meqm, ft_add, ft_mul, ft_sub, ft_nm, ft_m1p, ft_and, ft_or, ft_31, ft_shl, ft_shr, ft_bz, ft_z0, ft_z1, ft_z01, ft_bb, ft_zt, ft_zf, ft_or0, ft_rv, ft_rvr, ft_rf, ft_rfn, ft_bI, ft_bJ, ft_bV, ft_bR, ft_bRn, ft_isr, ft_isn, ft_ifn, ft_ifr, ft_ov, ft_ovn, ft_in, k_sI, n_sI, R_sI, J_sI, c_sI, z_sI, k_sJ, n_sJ, R_sJ, I_sJ, c_sJ, z_sJ, k_sR, n_sR, I_sR, J_sR, c_sR, z_sR, k_wI, n_wI, R_wI, J_wI, I_wIe, k_wJ, n_wJ, R_wJ, I_wJ, J_wJe, I_wIn, J_wJn, I_sIe, J_sJe, R_sRe, I_sIn, I_sIk, J_sJn, J_sJk, R_sRn, R_sRk, eq_self, if_true, if_false, ↓reduceIte, cond_true, cond_false, ↓cond_eq_ite, and_true, true_and, and_false, false_and, or_true, true_or, or_false, false_or, not_true_eq_false, not_false_eq_true, ft_ltT, ft_ltF, ft_eqT, ft_eqF, Bool.false_eq_true, Bool.true_eq_false, Bool.not_true, Bool.not_false, Bool.and_true, Bool.true_and, Bool.and_false, Bool.false_and, decide_true, decide_false, Nat.reduceAdd, Nat.reduceMul, Nat.reduceSub, Nat.reduceEqDiff, Nat.reduceLT, Nat.zero_add, Nat.add_zero, Nat.reduceDiv, Nat.reduceMod, sm_k85 S, sm_R85_1 S, ↓sm_v85_1 S, sm_R85_2 S, ↓sm_v85_2 S, sm_R85_3 S, ↓sm_v85_3 S, sm_R85_4 S, ↓sm_v85_4 S, sm_R85_5 S, ↓sm_v85_5 S, sm_R85_7 S, ↓sm_v85_7 S, sm_R85_11 S, ↓sm_v85_11 S, sm_R85_12 S, ↓sm_v85_12 S, sm_R85_15 S, ↓sm_v85_15 S, sm_R85_16 S, ↓sm_v85_16 S, sm_R85_17 S, ↓sm_v85_17 S, sm_R85_26 S, ↓sm_v85_26 S, sm_R85_29 S, ↓sm_v85_29 S, sm_R85_30 S, ↓sm_v85_30 S, sm_R85_32 S, ↓sm_v85_32 S, sm_R85_33 S, ↓sm_v85_33 S, sm_R85_34 S, ↓sm_v85_34 S, sm_R85_35 S, ↓sm_v85_35 S, sm_R85_36 S, ↓sm_v85_36 S, sm_R85_37 S, ↓sm_v85_37 S, sm_R85_38 S, ↓sm_v85_38 S, sm_R85_40 S, ↓sm_v85_40 S, sm_R85_41 S, ↓sm_v85_41 S, sm_R85_48 S, ↓sm_v85_48 S, sm_R85_49 S, ↓sm_v85_49 S, sm_k86 S, sm_n86 S, sm_k87 S, sm_n87 S, sm_k88 S, sm_n88 S, sm_k89 S, sm_n89 S, sm_k90 S, sm_n90 S, sm_k91 S, sm_n91 S, sm_k92 S, sm_n92 S, sm_k93 S, sm_n93 S, sm_k94 S, sm_n94 S, sm_k95 S, sm_n95 S, sm_k96 S, sm_n96 S, sm_k97 S, sm_n97 S, sm_k98 S, sm_n98 S, sm_k99 S, sm_n99 S, sm_k100 S, sm_n100 S, sm_k101 S, sm_n101 S, sm_k102 S, sm_n102 S, sm_k103 S, sm_n103 S, sm_k104 S, sm_n104 S, sm_k105 S, sm_n105 S, sm_k106 S, sm_n106 S, sm_k107 S, sm_n107 S, sm_k108 S, sm_n108 S, sm_k109 S, sm_n109 S, sm_k110 S, sm_n110 S, hE_k, hE_22, hE_sg]
  unfold h_tell
  rw [hc]
  by_cases q : is = head
  · subst q
    rw [if_pos rfl]
    cases hcw : h_cw e c with
    | none =>
      rw [hcw] at h1
      simp only [Option.isNone_none] at h1
      cases sb <;> cases r <;> cases b2 <;> first | (exact absurd h1 (by decide)) | simp (disch := first | exact sR_rfl _ _ rfl | omega) only [q_M_tells_286, t345, ft_lit, ft_m1, ft_m2, ft_m3, ft_m5, ft_m6, ft_cl, ft_lt, ft_le, ft_eq, ft_mlt, ft_ltm, ft_mltm, ft_meq, ft_eqm, ft_meqm, ft_add, ft_mul, ft_sub, ft_nm, ft_m1p, ft_and, ft_or, ft_31, ft_shl, ft_shr, ft_bz, ft_z0, ft_z1, ft_z01, ft_bb, ft_zt, ft_zf, ft_or0, ft_rv, ft_rvr, ft_rf, ft_rfn, ft_bI, ft_bJ, ft_bV, ft_bR, ft_bRn, ft_isr, ft_isn, ft_ifn, ft_ifr, ft_ov, ft_ovn, ft_in, k_sI, n_sI, R_sI, J_sI, c_sI, z_sI, k_sJ, n_sJ, R_sJ, I_sJ, c_sJ, z_sJ, k_sR, n_sR, I_sR, J_sR, c_sR, z_sR, k_wI, n_wI, R_wI, J_wI, I_wIe, k_wJ, n_wJ, R_wJ, I_wJ, J_wJe, I_wIn, J_wJn, I_sIe, J_sJe, R_sRe, I_sIn, I_sIk, J_sJn, J_sJk, R_sRn, R_sRk, eq_self, if_true, if_false, ↓reduceIte, cond_true, cond_false, ↓cond_eq_ite, and_true, true_and, and_false, false_and, or_true, true_or, or_false, false_or, not_true_eq_false, not_false_eq_true, ft_ltT, ft_ltF, ft_eqT, ft_eqF, Bool.false_eq_true, Bool.true_eq_false, Bool.not_true, Bool.not_false, Bool.and_true, Bool.true_and, Bool.and_false, Bool.false_and, decide_true, decide_false, Nat.reduceAdd, Nat.reduceMul, Nat.reduceSub, Nat.reduceEqDiff, Nat.reduceLT, Nat.zero_add, Nat.add_zero, Nat.reduceDiv, Nat.reduceMod, sm_k85 S, sm_R85_1 S, ↓sm_v85_1 S, sm_R85_2 S, ↓sm_v85_2 S, sm_R85_3 S, ↓sm_v85_3 S, sm_R85_4 S, ↓sm_v85_4 S, sm_R85_5 S, ↓sm_v85_5 S, sm_R85_7 S, ↓sm_v85_7 S, sm_R85_11 S, ↓sm_v85_11 S, sm_R85_12 S, ↓sm_v85_12 S, sm_R85_15 S, ↓sm_v85_15 S, sm_R85_16 S, ↓sm_v85_16 S, sm_R85_17 S, ↓sm_v85_17 S, sm_R85_26 S, ↓sm_v85_26 S, sm_R85_29 S, ↓sm_v85_29 S, sm_R85_30 S, ↓sm_v85_30 S, sm_R85_32 S, ↓sm_v85_32 S, sm_R85_33 S, ↓sm_v85_33 S, sm_R85_34 S, ↓sm_v85_34 S, sm_R85_35 S, ↓sm_v85_35 S, sm_R85_36 S, ↓sm_v85_36 S, sm_R85_37 S, ↓sm_v85_37 S, sm_R85_38 S, ↓sm_v85_38 S, sm_R85_40 S, ↓sm_v85_40 S, sm_R85_41 S, ↓sm_v85_41 S, sm_R85_48 S, ↓sm_v85_48 S, sm_R85_49 S, ↓sm_v85_49 S, sm_k86 S, sm_n86 S, sm_k87 S, sm_n87 S, sm_k88 S, sm_n88 S, sm_k89 S, sm_n89 S, sm_k90 S, sm_n90 S, sm_k91 S, sm_n91 S, sm_k92 S, sm_n92 S, sm_k93 S, sm_n93 S, sm_k94 S, sm_n94 S, sm_k95 S, sm_n95 S, sm_k96 S, sm_n96 S, sm_k97 S, sm_n97 S, sm_k98 S, sm_n98 S, sm_k99 S, sm_n99 S, sm_k100 S, sm_n100 S, sm_k101 S, sm_n101 S, sm_k102 S, sm_n102 S, sm_k103 S, sm_n103 S, sm_k104 S, sm_n104 S, sm_k105 S, sm_n105 S, sm_k106 S, sm_n106 S, sm_k107 S, sm_n107 S, sm_k108 S, sm_n108 S, sm_k109 S, sm_n109 S, sm_k110 S, sm_n110 S, hE_k, hE_24]
    | some w =>
      rw [hcw] at h1
      have hw := h2 w hcw
      subst hw
      simp only [Option.isNone_some] at h1
      have e3 : sb = false ∧ r = true ∧ b2 = false := by revert h1; cases sb <;> cases r <;> cases b2 <;> decide
      obtain ⟨rfl, rfl, rfl⟩ := e3
      simp only
      unfold h_clamp
      by_cases q1 : w < lo
      · rw [if_pos q1]
        simp (disch := first | exact sR_rfl _ _ rfl | omega) only [q_M_tells_286, t345, ft_lit, ft_m1, ft_m2, ft_m3, ft_m5, ft_m6, ft_cl, ft_lt, ft_le, ft_eq, ft_mlt, ft_ltm, ft_mltm, ft_meq, ft_eqm, ft_meqm, ft_add, ft_mul, ft_sub, ft_nm, ft_m1p, ft_and, ft_or, ft_31, ft_shl, ft_shr, ft_bz, ft_z0, ft_z1, ft_z01, ft_bb, ft_zt, ft_zf, ft_or0, ft_rv, ft_rvr, ft_rf, ft_rfn, ft_bI, ft_bJ, ft_bV, ft_bR, ft_bRn, ft_isr, ft_isn, ft_ifn, ft_ifr, ft_ov, ft_ovn, ft_in, k_sI, n_sI, R_sI, J_sI, c_sI, z_sI, k_sJ, n_sJ, R_sJ, I_sJ, c_sJ, z_sJ, k_sR, n_sR, I_sR, J_sR, c_sR, z_sR, k_wI, n_wI, R_wI, J_wI, I_wIe, k_wJ, n_wJ, R_wJ, I_wJ, J_wJe, I_wIn, J_wJn, I_sIe, J_sJe, R_sRe, I_sIn, I_sIk, J_sJn, J_sJk, R_sRn, R_sRk, eq_self, if_true, if_false, ↓reduceIte, cond_true, cond_false, ↓cond_eq_ite, and_true, true_and, and_false, false_and, or_true, true_or, or_false, false_or, not_true_eq_false, not_false_eq_true, ft_ltT, ft_ltF, ft_eqT, ft_eqF, Bool.false_eq_true, Bool.true_eq_false, Bool.not_true, Bool.not_false, Bool.and_true, Bool.true_and, Bool.and_false, Bool.false_and, decide_true, decide_false, Nat.reduceAdd, Nat.reduceMul, Nat.reduceSub, Nat.reduceEqDiff, Nat.reduceLT, Nat.zero_add, Nat.add_zero, Nat.reduceDiv, Nat.reduceMod, sm_k85 S, sm_R85_1 S, ↓sm_v85_1 S, sm_R85_2 S, ↓sm_v85_2 S, sm_R85_3 S, ↓sm_v85_3 S, sm_R85_4 S, ↓sm_v85_4 S, sm_R85_5 S, ↓sm_v85_5 S, sm_R85_7 S, ↓sm_v85_7 S, sm_R85_11 S, ↓sm_v85_11 S, sm_R85_12 S, ↓sm_v85_12 S, sm_R85_15 S, ↓sm_v85_15 S, sm_R85_16 S, ↓sm_v85_16 S, sm_R85_17 S, ↓sm_v85_17 S, sm_R85_26 S, ↓sm_v85_26 S, sm_R85_29 S, ↓sm_v85_29 S, sm_R85_30 S, ↓sm_v85_30 S, sm_R85_32 S, ↓sm_v85_32 S, sm_R85_33 S, ↓sm_v85_33 S, sm_R85_34 S, ↓sm_v85_34 S, sm_R85_35 S, ↓sm_v85_35 S, sm_R85_36 S, ↓sm_v85_36 S, sm_R85_37 S, ↓sm_v85_37 S, sm_R85_38 S, ↓sm_v85_38 S, sm_R85_40 S, ↓sm_v85_40 S, sm_R85_41 S, ↓sm_v85_41 S, sm_R85_48 S, ↓sm_v85_48 S, sm_R85_49 S, ↓sm_v85_49 S, sm_k86 S, sm_n86 S, sm_k87 S, sm_n87 S, sm_k88 S, sm_n88 S, sm_k89 S, sm_n89 S, sm_k90 S, sm_n90 S, sm_k91 S, sm_n91 S, sm_k92 S, sm_n92 S, sm_k93 S, sm_n93 S, sm_k94 S, sm_n94 S, sm_k95 S, sm_n95 S, sm_k96 S, sm_n96 S, sm_k97 S, sm_n97 S, sm_k98 S, sm_n98 S, sm_k99 S, sm_n99 S, sm_k100 S, sm_n100 S, sm_k101 S, sm_n101 S, sm_k102 S, sm_n102 S, sm_k103 S, sm_n103 S, sm_k104 S, sm_n104 S, sm_k105 S, sm_n105 S, sm_k106 S, sm_n106 S, sm_k107 S, sm_n107 S, sm_k108 S, sm_n108 S, sm_k109 S, sm_n109 S, sm_k110 S, sm_n110 S, hE_k, hE_24, nI_L, cmp_lt, q1]
      · rw [if_neg q1]
        by_cases q2 : (hi : Int) < w
        · rw [if_pos q2]
          simp (disch := first | exact sR_rfl _ _ rfl | omega) only [q_M_tells_286, t345, ft_lit, ft_m1, ft_m2, ft_m3, ft_m5, ft_m6, ft_cl, ft_lt, ft_le, ft_eq, ft_mlt, ft_ltm, ft_mltm, ft_meq, ft_eqm, ft_meqm, ft_add, ft_mul, ft_sub, ft_nm, ft_m1p, ft_and, ft_or, ft_31, ft_shl, ft_shr, ft_bz, ft_z0, ft_z1, ft_z01, ft_bb, ft_zt, ft_zf, ft_or0, ft_rv, ft_rvr, ft_rf, ft_rfn, ft_bI, ft_bJ, ft_bV, ft_bR, ft_bRn, ft_isr, ft_isn, ft_ifn, ft_ifr, ft_ov, ft_ovn, ft_in, k_sI, n_sI, R_sI, J_sI, c_sI, z_sI, k_sJ, n_sJ, R_sJ, I_sJ, c_sJ, z_sJ, k_sR, n_sR, I_sR, J_sR, c_sR, z_sR, k_wI, n_wI, R_wI, J_wI, I_wIe, k_wJ, n_wJ, R_wJ, I_wJ, J_wJe, I_wIn, J_wJn, I_sIe, J_sJe, R_sRe, I_sIn, I_sIk, J_sJn, J_sJk, R_sRn, R_sRk, eq_self, if_true, if_false, ↓reduceIte, cond_true, cond_false, ↓cond_eq_ite, and_true, true_and, and_false, false_and, or_true, true_or, or_false, false_or, not_true_eq_false, not_false_eq_true, ft_ltT, ft_ltF, ft_eqT, ft_eqF, Bool.false_eq_true, Bool.true_eq_false, Bool.not_true, Bool.not_false, Bool.and_true, Bool.true_and, Bool.and_false, Bool.false_and, decide_true, decide_false, Nat.reduceAdd, Nat.reduceMul, Nat.reduceSub, Nat.reduceEqDiff, Nat.reduceLT, Nat.zero_add, Nat.add_zero, Nat.reduceDiv, Nat.reduceMod, sm_k85 S, sm_R85_1 S, ↓sm_v85_1 S, sm_R85_2 S, ↓sm_v85_2 S, sm_R85_3 S, ↓sm_v85_3 S, sm_R85_4 S, ↓sm_v85_4 S, sm_R85_5 S, ↓sm_v85_5 S, sm_R85_7 S, ↓sm_v85_7 S, sm_R85_11 S, ↓sm_v85_11 S, sm_R85_12 S, ↓sm_v85_12 S, sm_R85_15 S, ↓sm_v85_15 S, sm_R85_16 S, ↓sm_v85_16 S, sm_R85_17 S, ↓sm_v85_17 S, sm_R85_26 S, ↓sm_v85_26 S, sm_R85_29 S, ↓sm_v85_29 S, sm_R85_30 S, ↓sm_v85_30 S, sm_R85_32 S, ↓sm_v85_32 S, sm_R85_33 S, ↓sm_v85_33 S, sm_R85_34 S, ↓sm_v85_34 S, sm_R85_35 S, ↓sm_v85_35 S, sm_R85_36 S, ↓sm_v85_36 S, sm_R85_37 S, ↓sm_v85_37 S, sm_R85_38 S, ↓sm_v85_38 S, sm_R85_40 S, ↓sm_v85_40 S, sm_R85_41 S, ↓sm_v85_41 S, sm_R85_48 S, ↓sm_v85_48 S, sm_R85_49 S, ↓sm_v85_49 S, sm_k86 S, sm_n86 S, sm_k87 S, sm_n87 S, sm_k88 S, sm_n88 S, sm_k89 S, sm_n89 S, sm_k90 S, sm_n90 S, sm_k91 S, sm_n91 S, sm_k92 S, sm_n92 S, sm_k93 S, sm_n93 S, sm_k94 S, sm_n94 S, sm_k95 S, sm_n95 S, sm_k96 S, sm_n96 S, sm_k97 S, sm_n97 S, sm_k98 S, sm_n98 S, sm_k99 S, sm_n99 S, sm_k100 S, sm_n100 S, sm_k101 S, sm_n101 S, sm_k102 S, sm_n102 S, sm_k103 S, sm_n103 S, sm_k104 S, sm_n104 S, sm_k105 S, sm_n105 S, sm_k106 S, sm_n106 S, sm_k107 S, sm_n107 S, sm_k108 S, sm_n108 S, sm_k109 S, sm_n109 S, sm_k110 S, sm_n110 S, hE_k, hE_24, nI_L, cmp_lt, cmp_gt, q1, q2]
        · rw [if_neg q2]
          have : ((w.toNat : Nat) : Int) = w := by omega
          rw [this]
          simp (disch := first | exact sR_rfl _ _ rfl | omega) only [q_M_tells_286, t345, ft_lit, ft_m1, ft_m2, ft_m3, ft_m5, ft_m6, ft_cl, ft_lt, ft_le, ft_eq, ft_mlt, ft_ltm, ft_mltm, ft_meq, ft_eqm, ft_meqm, ft_add, ft_mul, ft_sub, ft_nm, ft_m1p, ft_and, ft_or, ft_31, ft_shl, ft_shr, ft_bz, ft_z0, ft_z1, ft_z01, ft_bb, ft_zt, ft_zf, ft_or0, ft_rv, ft_rvr, ft_rf, ft_rfn, ft_bI, ft_bJ, ft_bV, ft_bR, ft_bRn, ft_isr, ft_isn, ft_ifn, ft_ifr, ft_ov, ft_ovn, ft_in, k_sI, n_sI, R_sI, J_sI, c_sI, z_sI, k_sJ, n_sJ, R_sJ, I_sJ, c_sJ, z_sJ, k_sR, n_sR, I_sR, J_sR, c_sR, z_sR, k_wI, n_wI, R_wI, J_wI, I_wIe, k_wJ, n_wJ, R_wJ, I_wJ, J_wJe, I_wIn, J_wJn, I_sIe, J_sJe, R_sRe, I_sIn, I_sIk, J_sJn, J_sJk, R_sRn, R_sRk, eq_self, if_true, if_false, ↓reduceIte, cond_true, cond_false, ↓cond_eq_ite, and_true, true_and, and_false, false_and, or_true, true_or, or_false, false_or, not_true_eq_false, not_false_eq_true, ft_ltT, ft_ltF, ft_eqT, ft_eqF, Bool.false_eq_true, Bool.true_eq_false, Bool.not_true, Bool.not_false, Bool.and_true, Bool.true_and, Bool.and_false, Bool.false_and, decide_true, decide_false, Nat.reduceAdd, Nat.reduceMul, Nat.reduceSub, Nat.reduceEqDiff, Nat.reduceLT, Nat.zero_add, Nat.add_zero, Nat.reduceDiv, Nat.reduceMod, sm_k85 S, sm_R85_1 S, ↓sm_v85_1 S, sm_R85_2 S, ↓sm_v85_2 S, sm_R85_3 S, ↓sm_v85_3 S, sm_R85_4 S, ↓sm_v85_4 S, sm_R85_5 S, ↓sm_v85_5 S, sm_R85_7 S, ↓sm_v85_7 S, sm_R85_11 S, ↓sm_v85_11 S, sm_R85_12 S, ↓sm_v85_12 S, sm_R85_15 S, ↓sm_v85_15 S, sm_R85_16 S, ↓sm_v85_16 S, sm_R85_17 S, ↓sm_v85_17 S, sm_R85_26 S, ↓sm_v85_26 S, sm_R85_29 S, ↓sm_v85_29 S, sm_R85_30 S, ↓sm_v85_30 S, sm_R85_32 S, ↓sm_v85_32 S, sm_R85_33 S, ↓sm_v85_33 S, sm_R85_34 S, ↓sm_v85_34 S, sm_R85_35 S, ↓sm_v85_35 S, sm_R85_36 S, ↓sm_v85_36 S, sm_R85_37 S, ↓sm_v85_37 S, sm_R85_38 S, ↓sm_v85_38 S, sm_R85_40 S, ↓sm_v85_40 S, sm_R85_41 S, ↓sm_v85_41 S, sm_R85_48 S, ↓sm_v85_48 S, sm_R85_49 S, ↓sm_v85_49 S, sm_k86 S, sm_n86 S, sm_k87 S, sm_n87 S, sm_k88 S, sm_n88 S, sm_k89 S, sm_n89 S, sm_k90 S, sm_n90 S, sm_k91 S, sm_n91 S, sm_k92 S, sm_n92 S, sm_k93 S, sm_n93 S, sm_k94 S, sm_n94 S, sm_k95 S, sm_n95 S, sm_k96 S, sm_n96 S, sm_k97 S, sm_n97 S, sm_k98 S, sm_n98 S, sm_k99 S, sm_n99 S, sm_k100 S, sm_n100 S, sm_k101 S, sm_n101 S, sm_k102 S, sm_n102 S, sm_k103 S, sm_n103 S, sm_k104 S, sm_n104 S, sm_k105 S, sm_n105 S, sm_k106 S, sm_n106 S, sm_k107 S, sm_n107 S, sm_k108 S, sm_n108 S, sm_k109 S, sm_n109 S, sm_k110 S, sm_n110 S, hE_k, hE_24, nI_L, cmp_lt, cmp_gt, q1, q2]
  · rw [if_neg q]
    simp (disch := first | exact sR_rfl _ _ rfl | omega) only [q_M_tells_286, t345, ft_lit, ft_m1, ft_m2, ft_m3, ft_m5, ft_m6, ft_cl, ft_lt, ft_le, ft_eq, ft_mlt, ft_ltm, ft_mltm, ft_meq, ft_eqm, ft_meqm, ft_add, ft_mul, ft_sub, ft_nm, ft_m1p, ft_and, ft_or, ft_31, ft_shl, ft_shr, ft_bz, ft_z0, ft_z1, ft_z01, ft_bb, ft_zt, ft_zf, ft_or0, ft_rv, ft_rvr, ft_rf, ft_rfn, ft_bI, ft_bJ, ft_bV, ft_bR, ft_bRn, ft_isr, ft_isn, ft_ifn, ft_ifr, ft_ov, ft_ovn, ft_in, k_sI, n_sI, R_sI, J_sI, c_sI, z_sI, k_sJ, n_sJ, R_sJ, I_sJ, c_sJ, z_sJ, k_sR, n_sR, I_sR, J_sR, c_sR, z_sR, k_wI, n_wI, R_wI, J_wI, I_wIe, k_wJ, n_wJ, R_wJ, I_wJ, J_wJe, I_wIn, J_wJn, I_sIe, J_sJe, R_sRe, I_sIn, I_sIk, J_sJn, J_sJk, R_sRn, R_sRk, eq_self, if_true, if_false, ↓reduceIte, cond_true, cond_false, ↓cond_eq_ite, and_true, true_and, and_false, false_and, or_true, true_or, or_false, false_or, not_true_eq_false, not_false_eq_true, ft_ltT, ft_ltF, ft_eqT, ft_eqF, Bool.false_eq_true, Bool.true_eq_false, Bool.not_true, Bool.not_false, Bool.and_true, Bool.true_and, Bool.and_false, Bool.false_and, decide_true, decide_false, Nat.reduceAdd, Nat.reduceMul, Nat.reduceSub, Nat.reduceEqDiff, Nat.reduceLT, Nat.zero_add, Nat.add_zero, Nat.reduceDiv, Nat.reduceMod]
theorem h_xl_f {T : Tk} {od : Bool} {f m : Nat} {x : Ps × List Cz} (h : (h_xl T od f m x).1.1 = true) : x.1.1 = true := by
  cases f with
  | zero => exact h
  | succ f =>
    unfold h_xl at h
    split at h
    · rename_i e
      exact h_tk_1 e
    · exact h
/-- one clause of a law, as the reference walks it -/
theorem E_clause {F : Nat × Nat} (hF : FF F) {h : jH} {T : Tk} {j0 n : Nat} (H : EM h T j0 n false) {e : Ev} (V : EV F h e j0 false) (h4 : n ≤ 400) {head lo hi told g : Nat} (hlo : lo ≤ 100) (hhi : hi ≤ 100) (hhe : head < 100) {t l : Nat} (b : Bool) (ht : t ≤ n) (hok : (h_one T false (true, t, l)).1.1 = true) : ∃ b2, m_M_tells_201 F (g + 1) 85 (nI head) (nI lo) (nI hi) (iL told) (hE h j0 t b) = m_M_tells_201 F g 85 (nI head) (nI lo) (nI hi) (iL (h_tell e head lo hi told (h_one T false (true, t, l)).2)) (hE h j0 ((h_one T false (true, t, l)).1.2.1 + 1) b2) := by
  have hn : T.1 n = 0 := H.2.2.2.2.1 n (Nat.le_refl _)
  have hn4 := H.2.2.2.1
  obtain ⟨S, H1, H2, H3, H4, H5, H6⟩ := id H
  obtain ⟨-, hA, hB⟩ := h_one_l hok
  have hlt : t < n := by
    have : t ≠ n := fun z => by
      rcases hA with ⟨z1 | z1, -⟩ | ⟨z1, -⟩ <;> (simp only at z1; rw [z, hn] at z1; omega)
    omega
  have ca := E_ca_b (F := F) H (g := t) (by omega) b
  have a0 : h_adv (true, t, l) = (true, t + 1, l) := rfl
  rw [a0] at hA
  simp only at hA
  have hc2 : (h_one T false (true, t, l)).2.2.1 = (h_lsum T (true, t, l)).2.1 := rfl
  have hc5 : (h_one T false (true, t, l)).2.2.2.2.2 = (h_if T false (h_lsum T (true, t, l)).1).2 := rfl
  have hc1 : (h_one T false (true, t, l)).2.1 = T.1 t := rfl
  have hs1 : (h_one T false (true, t, l)).1 = (h_if T false (h_lsum T (true, t, l)).1).1 := rfl
  generalize hcc : (h_one T false (true, t, l)).2 = cc at hc1 hc2 hc5 ⊢
  rw [hs1]
  -- the sum: where it ends, its value, whether it broke
  have hS : ∃ (t1 l1 : Nat) (v : Int) (sb : Bool), (h_lsum T (true, t, l)).1 = (true, t1, l1) ∧ t1 ≤ n ∧ (-1000000000 ≤ v ∧ v ≤ 1000000000) ∧ (match cc.2.1 with | none => some 1 | some d => d.2 e) = (if sb then none else some v) ∧ (T.1 t = 3 ∧ v = 1 ∧ sb = false ∧ t1 = t + 1 ∨ T.1 t ≠ 3 ∧ ∀ ff, jbJ (m_M_sumOf F 85 (nI 1) (hE h j0 (t + 1) false)) ff = ff (iL v) (hE h j0 t1 sb)) := by
    rw [hc2]
    rcases hA with ⟨q, ok1, hl⟩ | ⟨q, hl⟩
    · rw [hl]
      have k1 := h_sum_ok (od := false) hn 8 (s := (true, t + 1, l)) hlt
      have r1 := E_sumF hF H V h4 (d := 8) (by omega) (t + 1) l true false hlt ok1
      have hb := h_sum_b (T := T) (od := false) V.1 8 (true, t + 1, l)
      rw [hvl_t, hbk_t] at r1
      have hle := k1.1
      have h2 := h_sum_lv (T := T) (od := false)
      generalize hz : (h_sum T false 8 (true, t + 1, l)).1 = z at ok1 r1 hle ⊢
      obtain ⟨zb, zt, zl⟩ := z
      simp only at ok1 r1 hle
      subst ok1
      refine ⟨zt, zl, ((h_sum T false 8 (true, t + 1, l)).2.2 e).getD 0, ((h_sum T false 8 (true, t + 1, l)).2.2 e).isNone, rfl, hle, ?_, ?_, Or.inr ⟨by omega, fun ff => bJ_of r1 ff⟩⟩
      · cases hx : (h_sum T false 8 (true, t + 1, l)).2.2 e with
        | none => simp
        | some w => exact hb w hx
      · simp only
        cases hx : (h_sum T false 8 (true, t + 1, l)).2.2 e with
        | none => simp
        | some w => simp
    · rw [hl]
      exact ⟨t + 1, l, 1, false, rfl, hlt, by omega, rfl, Or.inl ⟨q, rfl, rfl, rfl⟩⟩
  obtain ⟨t1, l1, v, sb, e1, ht1, hv, ew, hsum⟩ := hS
  rw [e1] at hB hc5 ⊢
  simp only at hB
  -- the test
  have hT : ∃ (t2 : Nat) (r b2 : Bool), (h_if T false (true, t1, l1)).1.2.1 = t2 ∧ t2 ≤ n ∧ h_holds e cc = (r && !b2) ∧ (T.1 t1 ≠ 4 ∧ r = true ∧ b2 = false ∧ t2 = t1 ∨ T.1 t1 = 4 ∧ ∀ ff, jbI (m_M_testOf F 85 (nI 1) (hE h j0 (t1 + 1) false)) ff = ff (nI (ft_z r)) (hE h j0 t2 b2)) := by
    unfold h_holds
    rw [hc5]
    rcases hB with ⟨q, ok1, hl⟩ | ⟨q, hl⟩
    · rw [hl]
      have a1 : h_adv (true, t1, l1) = (true, t1 + 1, l1) := rfl
      rw [a1] at ok1 ⊢
      have hlt1 : t1 < n := by
        have : t1 ≠ n := fun z => by rw [z, hn] at q; omega
        omega
      have k1 := h_test_ok (od := false) hn 8 (s := (true, t1 + 1, l1)) hlt1
      obtain ⟨r, r1, r2⟩ := E_testF hF H V h4 (d := 8) (by omega) (t1 + 1) l1 true false hlt1 ok1
      rw [hbk_t] at r1
      refine ⟨_, r, ((h_test T false 8 (true, t1 + 1, l1)).2.2 e).isNone, rfl, k1.1, ?_, Or.inr ⟨q, fun ff => bI_of r1 ff⟩⟩
      simp only
      cases hx : (h_test T false 8 (true, t1 + 1, l1)).2.2 e with
      | none => simp
      | some w =>
        rw [r2 rfl rfl w hx]
        cases w <;> rfl
    · rw [hl]
      exact ⟨t1, true, false, rfl, ht1, rfl, Or.inl ⟨q, rfl, rfl, rfl⟩⟩
  obtain ⟨t2, r, b2, e2, ht2, hh, htest⟩ := hT
  rw [e2]
  have hw1 : (h_cw e cc).isNone = (sb || !(r && !b2)) := by
    unfold h_cw
    rw [hh, ew]
    cases r <;> cases b2 <;> cases sb <;> rfl
  have hw2 : ∀ w, h_cw e cc = some w → w = v := by
    intro w hw
    unfold h_cw at hw
    rw [hh, ew] at hw
    split at hw
    · split at hw
      · cases hw
      · exact (Option.some.inj hw).symm
    · cases hw
  refine ⟨b2, ?_⟩
  have b1 := (H5 t).1
  have his : T.1 t < 100 := by rcases hA with ⟨z1 | z1, -⟩ | ⟨z1, -⟩ <;> omega
  have t286 := E_286 (F := F) S (k201 := m_M_tells_201 F g) (head := head) (lo := lo) (hi := hi) (told := told) (is := T.1 t) (j0 := j0) (t := t2) (e := e) (c := cc) (sb := sb) (r := r) (b2 := b2) (v := v) hlo hhi his hhe hc1 hv hw1 hw2
  rw [← t286]
  have p0 : T.1 t1 ≠ 4 → ∀ ff, jbI (m_M_passes0 F 85 (nI 4) (hE h j0 t1 false)) ff = ff (nI 0) (hE h j0 t1 false) := fun q ff => E_p0_b (F := F) H (c := 4) (by omega) (g := t1) (by omega) false q ff
  have p1 : T.1 t1 = 4 → ∀ ff, jbI (m_M_passes0 F 85 (nI 4) (hE h j0 t1 false)) ff = ff (nI 1) (hE h j0 (t1 + 1) false) := fun q ff => E_p1_b (F := F) H (c := 4) (by omega) (g := t1) (by omega) false q ff
  rcases hsum with ⟨q, rfl, rfl, rfl⟩ | ⟨q, rs⟩
  · rcases htest with ⟨q2, rfl, rfl, rfl⟩ | ⟨q2, rt⟩
    · have pp := p0 q2
      simp (disch := first | exact sR_rfl _ _ rfl | omega) only [q_M_tells_201, ft_lit, ft_m1, ft_m2, ft_m3, ft_m5, ft_m6, ft_cl, ft_lt, ft_le, ft_eq, ft_mlt, ft_ltm, ft_mltm, ft_meq, ft_eqm, ft_meqm, ft_add, ft_mul, ft_sub, ft_nm, ft_m1p, ft_and, ft_or, ft_31, ft_shl, ft_shr, ft_bz, ft_z0, ft_z1, ft_z01, ft_bb, ft_zt, ft_zf, ft_or0, ft_rv, ft_rvr, ft_rf, ft_rfn, ft_bI, ft_bJ, ft_bV, ft_bR, ft_bRn, ft_isr, ft_isn, ft_ifn, ft_ifr, ft_ov, ft_ovn, ft_in, k_sI, n_sI, R_sI, J_sI, c_sI, z_sI, k_sJ, n_sJ, R_sJ, I_sJ, c_sJ, z_sJ, k_sR, n_sR, I_sR, J_sR, c_sR, z_sR, k_wI, n_wI, R_wI, J_wI, I_wIe, k_wJ, n_wJ, R_wJ, I_wJ, J_wJe, I_wIn, J_wJn, I_sIe, J_sJe, R_sRe, I_sIn, I_sIk, J_sJn, J_sJk, R_sRn, R_sRk, eq_self, if_true, if_false, ↓reduceIte, cond_true, cond_false, ↓cond_eq_ite, and_true, true_and, and_false, false_and, or_true, true_or, or_false, false_or, not_true_eq_false, not_false_eq_true, ft_ltT, ft_ltF, ft_eqT, ft_eqF, Bool.false_eq_true, Bool.true_eq_false, Bool.not_true, Bool.not_false, Bool.and_true, Bool.true_and, Bool.and_false, Bool.false_and, decide_true, decide_false, Nat.reduceAdd, Nat.reduceMul, Nat.reduceSub, Nat.reduceEqDiff, Nat.reduceLT, Nat.zero_add, Nat.add_zero, Nat.reduceDiv, Nat.reduceMod, sm_k85 S, sm_R85_1 S, ↓sm_v85_1 S, sm_R85_2 S, ↓sm_v85_2 S, sm_R85_3 S, ↓sm_v85_3 S, sm_R85_4 S, ↓sm_v85_4 S, sm_R85_5 S, ↓sm_v85_5 S, sm_R85_7 S, ↓sm_v85_7 S, sm_R85_11 S, ↓sm_v85_11 S, sm_R85_12 S, ↓sm_v85_12 S, sm_R85_15 S, ↓sm_v85_15 S, sm_R85_16 S, ↓sm_v85_16 S, sm_R85_17 S, ↓sm_v85_17 S, sm_R85_26 S, ↓sm_v85_26 S, sm_R85_29 S, ↓sm_v85_29 S, sm_R85_30 S, ↓sm_v85_30 S, sm_R85_32 S, ↓sm_v85_32 S, sm_R85_33 S, ↓sm_v85_33 S, sm_R85_34 S, ↓sm_v85_34 S, sm_R85_35 S, ↓sm_v85_35 S, sm_R85_36 S, ↓sm_v85_36 S, sm_R85_37 S, ↓sm_v85_37 S, sm_R85_38 S, ↓sm_v85_38 S, sm_R85_40 S, ↓sm_v85_40 S, sm_R85_41 S, ↓sm_v85_41 S, sm_R85_48 S, ↓sm_v85_48 S, sm_R85_49 S, ↓sm_v85_49 S, sm_k86 S, sm_n86 S, sm_k87 S, sm_n87 S, sm_k88 S, sm_n88 S, sm_k89 S, sm_n89 S, sm_k90 S, sm_n90 S, sm_k91 S, sm_n91 S, sm_k92 S, sm_n92 S, sm_k93 S, sm_n93 S, sm_k94 S, sm_n94 S, sm_k95 S, sm_n95 S, sm_k96 S, sm_n96 S, sm_k97 S, sm_n97 S, sm_k98 S, sm_n98 S, sm_k99 S, sm_n99 S, sm_k100 S, sm_n100 S, sm_k101 S, sm_n101 S, sm_k102 S, sm_n102 S, sm_k103 S, sm_n103 S, sm_k104 S, sm_n104 S, sm_k105 S, sm_n105 S, sm_k106 S, sm_n106 S, sm_k107 S, sm_n107 S, sm_k108 S, sm_n108 S, sm_k109 S, sm_n109 S, sm_k110 S, sm_n110 S, hE_k, hE_22, hE_24, hE_o, H2, ↓ca, q, hE_s0, hE_sg, ↓pp, iL_1]
    · have pp := p1 q2
      cases r <;> simp (disch := first | exact sR_rfl _ _ rfl | omega) only [q_M_tells_201, ft_lit, ft_m1, ft_m2, ft_m3, ft_m5, ft_m6, ft_cl, ft_lt, ft_le, ft_eq, ft_mlt, ft_ltm, ft_mltm, ft_meq, ft_eqm, ft_meqm, ft_add, ft_mul, ft_sub, ft_nm, ft_m1p, ft_and, ft_or, ft_31, ft_shl, ft_shr, ft_bz, ft_z0, ft_z1, ft_z01, ft_bb, ft_zt, ft_zf, ft_or0, ft_rv, ft_rvr, ft_rf, ft_rfn, ft_bI, ft_bJ, ft_bV, ft_bR, ft_bRn, ft_isr, ft_isn, ft_ifn, ft_ifr, ft_ov, ft_ovn, ft_in, k_sI, n_sI, R_sI, J_sI, c_sI, z_sI, k_sJ, n_sJ, R_sJ, I_sJ, c_sJ, z_sJ, k_sR, n_sR, I_sR, J_sR, c_sR, z_sR, k_wI, n_wI, R_wI, J_wI, I_wIe, k_wJ, n_wJ, R_wJ, I_wJ, J_wJe, I_wIn, J_wJn, I_sIe, J_sJe, R_sRe, I_sIn, I_sIk, J_sJn, J_sJk, R_sRn, R_sRk, eq_self, if_true, if_false, ↓reduceIte, cond_true, cond_false, ↓cond_eq_ite, and_true, true_and, and_false, false_and, or_true, true_or, or_false, false_or, not_true_eq_false, not_false_eq_true, ft_ltT, ft_ltF, ft_eqT, ft_eqF, Bool.false_eq_true, Bool.true_eq_false, Bool.not_true, Bool.not_false, Bool.and_true, Bool.true_and, Bool.and_false, Bool.false_and, decide_true, decide_false, Nat.reduceAdd, Nat.reduceMul, Nat.reduceSub, Nat.reduceEqDiff, Nat.reduceLT, Nat.zero_add, Nat.add_zero, Nat.reduceDiv, Nat.reduceMod, sm_k85 S, sm_R85_1 S, ↓sm_v85_1 S, sm_R85_2 S, ↓sm_v85_2 S, sm_R85_3 S, ↓sm_v85_3 S, sm_R85_4 S, ↓sm_v85_4 S, sm_R85_5 S, ↓sm_v85_5 S, sm_R85_7 S, ↓sm_v85_7 S, sm_R85_11 S, ↓sm_v85_11 S, sm_R85_12 S, ↓sm_v85_12 S, sm_R85_15 S, ↓sm_v85_15 S, sm_R85_16 S, ↓sm_v85_16 S, sm_R85_17 S, ↓sm_v85_17 S, sm_R85_26 S, ↓sm_v85_26 S, sm_R85_29 S, ↓sm_v85_29 S, sm_R85_30 S, ↓sm_v85_30 S, sm_R85_32 S, ↓sm_v85_32 S, sm_R85_33 S, ↓sm_v85_33 S, sm_R85_34 S, ↓sm_v85_34 S, sm_R85_35 S, ↓sm_v85_35 S, sm_R85_36 S, ↓sm_v85_36 S, sm_R85_37 S, ↓sm_v85_37 S, sm_R85_38 S, ↓sm_v85_38 S, sm_R85_40 S, ↓sm_v85_40 S, sm_R85_41 S, ↓sm_v85_41 S, sm_R85_48 S, ↓sm_v85_48 S, sm_R85_49 S, ↓sm_v85_49 S, sm_k86 S, sm_n86 S, sm_k87 S, sm_n87 S, sm_k88 S, sm_n88 S, sm_k89 S, sm_n89 S, sm_k90 S, sm_n90 S, sm_k91 S, sm_n91 S, sm_k92 S, sm_n92 S, sm_k93 S, sm_n93 S, sm_k94 S, sm_n94 S, sm_k95 S, sm_n95 S, sm_k96 S, sm_n96 S, sm_k97 S, sm_n97 S, sm_k98 S, sm_n98 S, sm_k99 S, sm_n99 S, sm_k100 S, sm_n100 S, sm_k101 S, sm_n101 S, sm_k102 S, sm_n102 S, sm_k103 S, sm_n103 S, sm_k104 S, sm_n104 S, sm_k105 S, sm_n105 S, sm_k106 S, sm_n106 S, sm_k107 S, sm_n107 S, sm_k108 S, sm_n108 S, sm_k109 S, sm_n109 S, sm_k110 S, sm_n110 S, hE_k, hE_22, hE_24, hE_o, H2, ↓ca, q, hE_s0, hE_sg, ↓pp, ↓rt, iL_1]
  · rcases htest with ⟨q2, rfl, rfl, rfl⟩ | ⟨q2, rt⟩
    · have pp := p0 q2
      simp (disch := first | exact sR_rfl _ _ rfl | omega) only [q_M_tells_201, ft_lit, ft_m1, ft_m2, ft_m3, ft_m5, ft_m6, ft_cl, ft_lt, ft_le, ft_eq, ft_mlt, ft_ltm, ft_mltm, ft_meq, ft_eqm, ft_meqm, ft_add, ft_mul, ft_sub, ft_nm, ft_m1p, ft_and, ft_or, ft_31, ft_shl, ft_shr, ft_bz, ft_z0, ft_z1, ft_z01, ft_bb, ft_zt, ft_zf, ft_or0, ft_rv, ft_rvr, ft_rf, ft_rfn, ft_bI, ft_bJ, ft_bV, ft_bR, ft_bRn, ft_isr, ft_isn, ft_ifn, ft_ifr, ft_ov, ft_ovn, ft_in, k_sI, n_sI, R_sI, J_sI, c_sI, z_sI, k_sJ, n_sJ, R_sJ, I_sJ, c_sJ, z_sJ, k_sR, n_sR, I_sR, J_sR, c_sR, z_sR, k_wI, n_wI, R_wI, J_wI, I_wIe, k_wJ, n_wJ, R_wJ, I_wJ, J_wJe, I_wIn, J_wJn, I_sIe, J_sJe, R_sRe, I_sIn, I_sIk, J_sJn, J_sJk, R_sRn, R_sRk, eq_self, if_true, if_false, ↓reduceIte, cond_true, cond_false, ↓cond_eq_ite, and_true, true_and, and_false, false_and, or_true, true_or, or_false, false_or, not_true_eq_false, not_false_eq_true, ft_ltT, ft_ltF, ft_eqT, ft_eqF, Bool.false_eq_true, Bool.true_eq_false, Bool.not_true, Bool.not_false, Bool.and_true, Bool.true_and, Bool.and_false, Bool.false_and, decide_true, decide_false, Nat.reduceAdd, Nat.reduceMul, Nat.reduceSub, Nat.reduceEqDiff, Nat.reduceLT, Nat.zero_add, Nat.add_zero, Nat.reduceDiv, Nat.reduceMod, sm_k85 S, sm_R85_1 S, ↓sm_v85_1 S, sm_R85_2 S, ↓sm_v85_2 S, sm_R85_3 S, ↓sm_v85_3 S, sm_R85_4 S, ↓sm_v85_4 S, sm_R85_5 S, ↓sm_v85_5 S, sm_R85_7 S, ↓sm_v85_7 S, sm_R85_11 S, ↓sm_v85_11 S, sm_R85_12 S, ↓sm_v85_12 S, sm_R85_15 S, ↓sm_v85_15 S, sm_R85_16 S, ↓sm_v85_16 S, sm_R85_17 S, ↓sm_v85_17 S, sm_R85_26 S, ↓sm_v85_26 S, sm_R85_29 S, ↓sm_v85_29 S, sm_R85_30 S, ↓sm_v85_30 S, sm_R85_32 S, ↓sm_v85_32 S, sm_R85_33 S, ↓sm_v85_33 S, sm_R85_34 S, ↓sm_v85_34 S, sm_R85_35 S, ↓sm_v85_35 S, sm_R85_36 S, ↓sm_v85_36 S, sm_R85_37 S, ↓sm_v85_37 S, sm_R85_38 S, ↓sm_v85_38 S, sm_R85_40 S, ↓sm_v85_40 S, sm_R85_41 S, ↓sm_v85_41 S, sm_R85_48 S, ↓sm_v85_48 S, sm_R85_49 S, ↓sm_v85_49 S, sm_k86 S, sm_n86 S, sm_k87 S, sm_n87 S, sm_k88 S, sm_n88 S, sm_k89 S, sm_n89 S, sm_k90 S, sm_n90 S, sm_k91 S, sm_n91 S, sm_k92 S, sm_n92 S, sm_k93 S, sm_n93 S, sm_k94 S, sm_n94 S, sm_k95 S, sm_n95 S, sm_k96 S, sm_n96 S, sm_k97 S, sm_n97 S, sm_k98 S, sm_n98 S, sm_k99 S, sm_n99 S, sm_k100 S, sm_n100 S, sm_k101 S, sm_n101 S, sm_k102 S, sm_n102 S, sm_k103 S, sm_n103 S, sm_k104 S, sm_n104 S, sm_k105 S, sm_n105 S, sm_k106 S, sm_n106 S, sm_k107 S, sm_n107 S, sm_k108 S, sm_n108 S, sm_k109 S, sm_n109 S, sm_k110 S, sm_n110 S, hE_k, hE_22, hE_24, hE_o, H2, ↓ca, q, hE_s0, hE_sg, ↓pp, ↓rs]
    · have pp := p1 q2
      cases r <;> simp (disch := first | exact sR_rfl _ _ rfl | omega) only [q_M_tells_201, ft_lit, ft_m1, ft_m2, ft_m3, ft_m5, ft_m6, ft_cl, ft_lt, ft_le, ft_eq, ft_mlt, ft_ltm, ft_mltm, ft_meq, ft_eqm, ft_meqm, ft_add, ft_mul, ft_sub, ft_nm, ft_m1p, ft_and, ft_or, ft_31, ft_shl, ft_shr, ft_bz, ft_z0, ft_z1, ft_z01, ft_bb, ft_zt, ft_zf, ft_or0, ft_rv, ft_rvr, ft_rf, ft_rfn, ft_bI, ft_bJ, ft_bV, ft_bR, ft_bRn, ft_isr, ft_isn, ft_ifn, ft_ifr, ft_ov, ft_ovn, ft_in, k_sI, n_sI, R_sI, J_sI, c_sI, z_sI, k_sJ, n_sJ, R_sJ, I_sJ, c_sJ, z_sJ, k_sR, n_sR, I_sR, J_sR, c_sR, z_sR, k_wI, n_wI, R_wI, J_wI, I_wIe, k_wJ, n_wJ, R_wJ, I_wJ, J_wJe, I_wIn, J_wJn, I_sIe, J_sJe, R_sRe, I_sIn, I_sIk, J_sJn, J_sJk, R_sRn, R_sRk, eq_self, if_true, if_false, ↓reduceIte, cond_true, cond_false, ↓cond_eq_ite, and_true, true_and, and_false, false_and, or_true, true_or, or_false, false_or, not_true_eq_false, not_false_eq_true, ft_ltT, ft_ltF, ft_eqT, ft_eqF, Bool.false_eq_true, Bool.true_eq_false, Bool.not_true, Bool.not_false, Bool.and_true, Bool.true_and, Bool.and_false, Bool.false_and, decide_true, decide_false, Nat.reduceAdd, Nat.reduceMul, Nat.reduceSub, Nat.reduceEqDiff, Nat.reduceLT, Nat.zero_add, Nat.add_zero, Nat.reduceDiv, Nat.reduceMod, sm_k85 S, sm_R85_1 S, ↓sm_v85_1 S, sm_R85_2 S, ↓sm_v85_2 S, sm_R85_3 S, ↓sm_v85_3 S, sm_R85_4 S, ↓sm_v85_4 S, sm_R85_5 S, ↓sm_v85_5 S, sm_R85_7 S, ↓sm_v85_7 S, sm_R85_11 S, ↓sm_v85_11 S, sm_R85_12 S, ↓sm_v85_12 S, sm_R85_15 S, ↓sm_v85_15 S, sm_R85_16 S, ↓sm_v85_16 S, sm_R85_17 S, ↓sm_v85_17 S, sm_R85_26 S, ↓sm_v85_26 S, sm_R85_29 S, ↓sm_v85_29 S, sm_R85_30 S, ↓sm_v85_30 S, sm_R85_32 S, ↓sm_v85_32 S, sm_R85_33 S, ↓sm_v85_33 S, sm_R85_34 S, ↓sm_v85_34 S, sm_R85_35 S, ↓sm_v85_35 S, sm_R85_36 S, ↓sm_v85_36 S, sm_R85_37 S, ↓sm_v85_37 S, sm_R85_38 S, ↓sm_v85_38 S, sm_R85_40 S, ↓sm_v85_40 S, sm_R85_41 S, ↓sm_v85_41 S, sm_R85_48 S, ↓sm_v85_48 S, sm_R85_49 S, ↓sm_v85_49 S, sm_k86 S, sm_n86 S, sm_k87 S, sm_n87 S, sm_k88 S, sm_n88 S, sm_k89 S, sm_n89 S, sm_k90 S, sm_n90 S, sm_k91 S, sm_n91 S, sm_k92 S, sm_n92 S, sm_k93 S, sm_n93 S, sm_k94 S, sm_n94 S, sm_k95 S, sm_n95 S, sm_k96 S, sm_n96 S, sm_k97 S, sm_n97 S, sm_k98 S, sm_n98 S, sm_k99 S, sm_n99 S, sm_k100 S, sm_n100 S, sm_k101 S, sm_n101 S, sm_k102 S, sm_n102 S, sm_k103 S, sm_n103 S, sm_k104 S, sm_n104 S, sm_k105 S, sm_n105 S, sm_k106 S, sm_n106 S, sm_k107 S, sm_n107 S, sm_k108 S, sm_n108 S, sm_k109 S, sm_n109 S, sm_k110 S, sm_n110 S, hE_k, hE_22, hE_24, hE_o, H2, ↓ca, q, hE_s0, hE_sg, ↓pp, ↓rs, ↓rt]
theorem E_law {F : Nat × Nat} (hF : FF F) {h : jH} {T : Tk} {j0 n : Nat} (H : EM h T j0 n false) {e : Ev} (V : EV F h e j0 false) (h4 : n ≤ 400) {head lo hi : Nat} (hlo : lo ≤ 100) (hhi : hi ≤ 100) (hhe : head < 100) : ∀ f g m t l (cl : List Cz) (told : Nat) (b : Bool), t ≤ n → l ≤ 50 → n < t + f → n < t + g → (h_xl T false f m ((h_one T false (true, t, l)).1, cl ++ [(h_one T false (true, t, l)).2])).1.1 = true → (h_xl T false f m ((h_one T false (true, t, l)).1, cl ++ [(h_one T false (true, t, l)).2])).1.2.1 = n → ∃ cs b2, (h_xl T false f m ((h_one T false (true, t, l)).1, cl ++ [(h_one T false (true, t, l)).2])).2 = cl ++ cs ∧ m_M_tells_201 F (g + 1) 85 (nI head) (nI lo) (nI hi) (iL told) (hE h j0 t b) = some (some (.int (iI (cs.foldl (h_tell e head lo hi) told : Nat))), hE h j0 (n + 1) b2)
  | 0, g, m, t, l, cl, told, b, ht, hl, h3, h5, hok, hend => absurd h3 (by omega)
  | f + 1, 0, m, t, l, cl, told, b, ht, hl, h3, h5, hok, hend => absurd h5 (by omega)
  | f + 1, g + 1, m, t, l, cl, told, b, ht, hl, h3, h5, hok, hend => by
    have hn : T.1 n = 0 := H.2.2.2.2.1 n (Nat.le_refl _)
    have hn4 := H.2.2.2.1
    obtain ⟨S, H1, H2, H3, H4, H5, H6⟩ := id H
    have ok0 := h_xl_f hok
    have ok1 : (h_one T false (true, t, l)).1.1 = true := ok0
    obtain ⟨b1, ec⟩ := E_clause (F := F) hF H V h4 (head := head) (lo := lo) (hi := hi) (told := told) (g := g + 1) hlo hhi hhe b ht ok1
    rw [ec]
    clear ec
    generalize (h_one T false (true, t, l)).2 = cc at hok hend ⊢
    have k1 := h_one_ok (od := false) hn (s := (true, t, l)) ht ⟨by show l ≤ 51; omega, fun _ => hl⟩
    generalize hz : (h_one T false (true, t, l)).1 = z at ok1 hok hend k1 ⊢
    obtain ⟨zb, zt, zl⟩ := z
    simp only at ok1
    subst ok1
    have hgt : t < zt := (k1.1.2 rfl).2
    have hle : zt ≤ n := k1.1.1
    have hzl : zl ≤ 50 := k1.2.2 rfl
    unfold h_xl at hok hend ⊢
    by_cases q : h_tk T 159 (true, zt, zl) = true
    · have hh := h_tk_ne hn (s := (true, zt, zl)) hle (by omega) q
      have hlt : zt < n := hh.2.2
      simp only [q, if_true] at hok hend ⊢
      by_cases q2 : m = 12
      · rw [if_pos q2] at hok
        simp [h_flt] at hok
      · simp only [q2, if_false] at hok hend ⊢
        have a0 : h_adv (true, zt, zl) = (true, zt + 1, zl) := rfl
        rw [a0] at hok hend ⊢
        obtain ⟨cs, b2, i1, i2⟩ := E_law hF H V h4 (head := head) (lo := lo) (hi := hi) hlo hhi hhe f g (m + 1) (zt + 1) zl (cl ++ [cc]) (h_tell e head lo hi told cc) b1 hlt hzl (by omega) (by omega) hok hend
        refine ⟨cc :: cs, b2, ?_, i2⟩
        rw [i1]
        simp
    · have q1 : h_tk T 159 (true, zt, zl) = false := by simpa using q
      simp only [q1, Bool.false_eq_true, if_false] at hok hend ⊢
      refine ⟨[cc], b1, rfl, ?_⟩
      subst hend
      simp (disch := first | exact sR_rfl _ _ rfl | omega) only [q_M_tells_201, ft_lit, ft_m1, ft_m2, ft_m3, ft_m5, ft_m6, ft_cl, ft_lt, ft_le, ft_eq, ft_mlt, ft_ltm, ft_mltm, ft_meq, ft_eqm, ft_meqm, ft_add, ft_mul, ft_sub, ft_nm, ft_m1p, ft_and, ft_or, ft_31, ft_shl, ft_shr, ft_bz, ft_z0, ft_z1, ft_z01, ft_bb, ft_zt, ft_zf, ft_or0, ft_rv, ft_rvr, ft_rf, ft_rfn, ft_bI, ft_bJ, ft_bV, ft_bR, ft_bRn, ft_isr, ft_isn, ft_ifn, ft_ifr, ft_ov, ft_ovn, ft_in, k_sI, n_sI, R_sI, J_sI, c_sI, z_sI, k_sJ, n_sJ, R_sJ, I_sJ, c_sJ, z_sJ, k_sR, n_sR, I_sR, J_sR, c_sR, z_sR, k_wI, n_wI, R_wI, J_wI, I_wIe, k_wJ, n_wJ, R_wJ, I_wJ, J_wJe, I_wIn, J_wJn, I_sIe, J_sJe, R_sRe, I_sIn, I_sIk, J_sJn, J_sJk, R_sRn, R_sRk, eq_self, if_true, if_false, ↓reduceIte, cond_true, cond_false, ↓cond_eq_ite, and_true, true_and, and_false, false_and, or_true, true_or, or_false, false_or, not_true_eq_false, not_false_eq_true, ft_ltT, ft_ltF, ft_eqT, ft_eqF, Bool.false_eq_true, Bool.true_eq_false, Bool.not_true, Bool.not_false, Bool.and_true, Bool.true_and, Bool.and_false, Bool.false_and, decide_true, decide_false, Nat.reduceAdd, Nat.reduceMul, Nat.reduceSub, Nat.reduceEqDiff, Nat.reduceLT, Nat.zero_add, Nat.add_zero, Nat.reduceDiv, Nat.reduceMod, sm_k85 S, sm_R85_1 S, ↓sm_v85_1 S, sm_R85_2 S, ↓sm_v85_2 S, sm_R85_3 S, ↓sm_v85_3 S, sm_R85_4 S, ↓sm_v85_4 S, sm_R85_5 S, ↓sm_v85_5 S, sm_R85_7 S, ↓sm_v85_7 S, sm_R85_11 S, ↓sm_v85_11 S, sm_R85_12 S, ↓sm_v85_12 S, sm_R85_15 S, ↓sm_v85_15 S, sm_R85_16 S, ↓sm_v85_16 S, sm_R85_17 S, ↓sm_v85_17 S, sm_R85_26 S, ↓sm_v85_26 S, sm_R85_29 S, ↓sm_v85_29 S, sm_R85_30 S, ↓sm_v85_30 S, sm_R85_32 S, ↓sm_v85_32 S, sm_R85_33 S, ↓sm_v85_33 S, sm_R85_34 S, ↓sm_v85_34 S, sm_R85_35 S, ↓sm_v85_35 S, sm_R85_36 S, ↓sm_v85_36 S, sm_R85_37 S, ↓sm_v85_37 S, sm_R85_38 S, ↓sm_v85_38 S, sm_R85_40 S, ↓sm_v85_40 S, sm_R85_41 S, ↓sm_v85_41 S, sm_R85_48 S, ↓sm_v85_48 S, sm_R85_49 S, ↓sm_v85_49 S, sm_k86 S, sm_n86 S, sm_k87 S, sm_n87 S, sm_k88 S, sm_n88 S, sm_k89 S, sm_n89 S, sm_k90 S, sm_n90 S, sm_k91 S, sm_n91 S, sm_k92 S, sm_n92 S, sm_k93 S, sm_n93 S, sm_k94 S, sm_n94 S, sm_k95 S, sm_n95 S, sm_k96 S, sm_n96 S, sm_k97 S, sm_n97 S, sm_k98 S, sm_n98 S, sm_k99 S, sm_n99 S, sm_k100 S, sm_n100 S, sm_k101 S, sm_n101 S, sm_k102 S, sm_n102 S, sm_k103 S, sm_n103 S, sm_k104 S, sm_n104 S, sm_k105 S, sm_n105 S, sm_k106 S, sm_n106 S, sm_k107 S, sm_n107 S, sm_k108 S, sm_n108 S, sm_k109 S, sm_n109 S, sm_k110 S, sm_n110 S, hE_k, hE_22, hE_o, H2, iL_I, List.foldl_cons, List.foldl_nil]
