/-! ORDERS: A CLAUSE AS IT IS READ -/
theorem h_one_o {T : Tk} {n t l : Nat} (hn : T.1 n = 0) (ht : t ≤ n) (h : (h_one T true (true, t, l)).1.1 = true) : ∃ t2 l2 t3 l3, t2 ≤ n ∧ t3 ≤ n ∧ t < n ∧ ((T.1 t = 26 ∧ t2 = t + 1 ∧ (h_osum T (true, t, l)).2 = (none, none)) ∨ (∃ w t1 l1, ((T.1 t = 20 ∧ w = 21) ∨ (T.1 t = 22 ∧ w = 23) ∨ (T.1 t = 24 ∧ w = 25)) ∧ t1 < n ∧ (h_sum T true 8 (true, t + 1, l)).1 = (true, t1, l1) ∧ T.1 t1 = w ∧ (h_sum T true 8 (true, t1 + 1, l1)).1 = (true, t2, l2) ∧ (h_osum T (true, t, l)).2 = (some (h_sum T true 8 (true, t + 1, l)).2, some (h_sum T true 8 (true, t1 + 1, l1)).2))) ∧ (h_osum T (true, t, l)).1 = (true, t2, l2) ∧ ((T.1 t2 = 27 ∧ t2 + 1 < n ∧ 1 ≤ T.2 (t2 + 1) ∧ T.2 (t2 + 1) ≤ 20 ∧ t3 = t2 + 2 ∧ h_tms T (true, t2, l2) = ((true, t3, l3), T.2 (t2 + 1))) ∨ (T.1 t2 ≠ 27 ∧ t3 = t2 ∧ h_tms T (true, t2, l2) = ((true, t3, l3), 1))) ∧ ((T.1 t3 = 4 ∧ t3 < n ∧ (h_test T true 8 (true, t3 + 1, l3)).1.1 = true ∧ h_if T true (true, t3, l3) = ((h_test T true 8 (true, t3 + 1, l3)).1, some (h_test T true 8 (true, t3 + 1, l3)).2)) ∨ (T.1 t3 ≠ 4 ∧ h_if T true (true, t3, l3) = ((true, t3, l3), none))) := by
  have h0 : (h_if T true (h_tms T (h_osum T (true, t, l)).1).1).1.1 = true := h
  have hif : ∀ s : Ps, (h_if T true s).1.1 = true → s.1 = true ∧ ((T.1 s.2.1 = 4 ∧ (h_test T true 8 (h_adv s)).1.1 = true ∧ h_if T true s = ((h_test T true 8 (h_adv s)).1, some (h_test T true 8 (h_adv s)).2)) ∨ (T.1 s.2.1 ≠ 4 ∧ h_if T true s = (s, none))) := by
    intro s hs
    unfold h_if at hs ⊢
    by_cases q : h_tk T 4 s = true
    · rw [if_pos q] at hs ⊢
      have := q
      unfold h_tk at this
      simp only [Bool.and_eq_true, beq_iff_eq] at this
      exact ⟨this.1, Or.inl ⟨this.2, hs, rfl⟩⟩
    · rw [if_neg q] at hs ⊢
      have hs' : s.1 = true := hs
      refine ⟨hs, Or.inr ⟨fun e => q ?_, rfl⟩⟩
      unfold h_tk
      simp [e, hs']
  obtain ⟨a1, a2⟩ := hif _ h0
  have htm : ∀ s : Ps, (h_tms T s).1.1 = true → s.1 = true ∧ ((T.1 s.2.1 = 27 ∧ T.1 (s.2.1 + 1) = 50 ∧ 1 ≤ T.2 (s.2.1 + 1) ∧ T.2 (s.2.1 + 1) ≤ 20 ∧ h_tms T s = ((true, s.2.1 + 2, s.2.2), T.2 (s.2.1 + 1))) ∨ (T.1 s.2.1 ≠ 27 ∧ h_tms T s = (s, 1))) := by
    intro s hs
    unfold h_tms at hs ⊢
    by_cases q : h_tk T 27 s = true
    · rw [if_pos q] at hs ⊢
      have := q
      unfold h_tk at this
      simp only [Bool.and_eq_true, beq_iff_eq] at this
      obtain ⟨n1, n2, n3, n4, n5⟩ := h_num_t hs
      refine ⟨this.1, Or.inl ⟨this.2, n3, n4, n5, ?_⟩⟩
      show (h_num T 1 20 (h_adv s), T.2 (s.2.1 + 1)) = _
      rw [n1]
      rfl
    · rw [if_neg q] at hs ⊢
      have hs' : s.1 = true := hs
      refine ⟨hs, Or.inr ⟨fun e => q ?_, rfl⟩⟩
      unfold h_tk
      simp [e, hs']
  obtain ⟨b1, b2⟩ := htm _ a1
  have htl : t < n := by
    rcases Nat.lt_or_ge t n with q | q
    · exact q
    · exfalso
      have : t = n := by omega
      unfold h_osum h_tk at b1
      simp only [this, hn] at b1
      unfold h_must h_tk at b1
      simp [hn, h_flt] at b1
  have two : ∀ w, 0 < w → (h_osum T (true, t, l)) = h_two T w (true, t + 1, l) → ∃ t1 l1 t2 l2, t1 < n ∧ t2 ≤ n ∧ (h_sum T true 8 (true, t + 1, l)).1 = (true, t1, l1) ∧ T.1 t1 = w ∧ (h_sum T true 8 (true, t1 + 1, l1)).1 = (true, t2, l2) ∧ (h_osum T (true, t, l)).2 = (some (h_sum T true 8 (true, t + 1, l)).2, some (h_sum T true 8 (true, t1 + 1, l1)).2) ∧ (h_osum T (true, t, l)).1 = (true, t2, l2) := by
    intro w hw e
    rw [e] at b1 ⊢
    have b1' : (h_sum T true 8 (h_must T w (h_sum T true 8 (true, t + 1, l)).1)).1.1 = true := b1
    have k1 := h_sum_ok (od := true) hn 8 (s := (true, t + 1, l)) htl
    have k2 := h_must_le (c := w) hn k1.1 hw
    have k3 := h_sum_ok (od := true) hn 8 k2.1
    obtain ⟨m1, m2, m3⟩ := h_must_t ((k3.2 b1').1)
    unfold h_two
    generalize hz : (h_sum T true 8 (true, t + 1, l)).1 = z at *
    obtain ⟨zb, zt, zl⟩ := z
    simp only at m2
    subst m2
    have hlt := (k2.2 ((k3.2 b1').1)).2
    rw [m1] at b1' k3 ⊢
    have a0 : h_adv (true, zt, zl) = (true, zt + 1, zl) := rfl
    rw [a0] at b1' k3 ⊢
    generalize hy : (h_sum T true 8 (true, zt + 1, zl)).1 = y at *
    obtain ⟨yb, yt, yl⟩ := y
    simp only at b1'
    subst b1'
    refine ⟨zt, zl, yt, yl, ?_, k3.1, rfl, m3, hy, rfl, rfl⟩
    have := k2.1
    rw [m1, a0] at this
    exact this
  have os : ∃ t2 l2, t2 ≤ n ∧ ((T.1 t = 26 ∧ t2 = t + 1 ∧ (h_osum T (true, t, l)).2 = (none, none)) ∨ (∃ w t1 l1, ((T.1 t = 20 ∧ w = 21) ∨ (T.1 t = 22 ∧ w = 23) ∨ (T.1 t = 24 ∧ w = 25)) ∧ t1 < n ∧ (h_sum T true 8 (true, t + 1, l)).1 = (true, t1, l1) ∧ T.1 t1 = w ∧ (h_sum T true 8 (true, t1 + 1, l1)).1 = (true, t2, l2) ∧ (h_osum T (true, t, l)).2 = (some (h_sum T true 8 (true, t + 1, l)).2, some (h_sum T true 8 (true, t1 + 1, l1)).2))) ∧ (h_osum T (true, t, l)).1 = (true, t2, l2) := by
    have tk : ∀ c, h_tk T c (true, t, l) = (T.1 t == c) := fun c => by unfold h_tk; simp
    by_cases q1 : T.1 t = 20
    · obtain ⟨t1, l1, t2, l2, r1, r2, r3, r4, r5, r6, r7⟩ := two 21 (by omega) (by unfold h_osum; rw [tk, q1]; rfl)
      exact ⟨t2, l2, r2, Or.inr ⟨21, t1, l1, Or.inl ⟨q1, rfl⟩, r1, r3, r4, r5, r6⟩, r7⟩
    · by_cases q2 : T.1 t = 22
      · obtain ⟨t1, l1, t2, l2, r1, r2, r3, r4, r5, r6, r7⟩ := two 23 (by omega) (by unfold h_osum; rw [tk, tk, q2]; rfl)
        exact ⟨t2, l2, r2, Or.inr ⟨23, t1, l1, Or.inr (Or.inl ⟨q2, rfl⟩), r1, r3, r4, r5, r6⟩, r7⟩
      · by_cases q3 : T.1 t = 24
        · obtain ⟨t1, l1, t2, l2, r1, r2, r3, r4, r5, r6, r7⟩ := two 25 (by omega) (by unfold h_osum; rw [tk, tk, tk, q3]; rfl)
          exact ⟨t2, l2, r2, Or.inr ⟨25, t1, l1, Or.inr (Or.inr ⟨q3, rfl⟩), r1, r3, r4, r5, r6⟩, r7⟩
        · have e : h_osum T (true, t, l) = (h_must T 26 (true, t, l), none, none) := by
            unfold h_osum
            rw [tk, tk, tk, beq_false_of_ne q1, beq_false_of_ne q2, beq_false_of_ne q3]
            rfl
          rw [e] at b1
          obtain ⟨m1, m2, m3⟩ := h_must_t b1
          refine ⟨t + 1, l, htl, Or.inl ⟨m3, rfl, by rw [e]⟩, ?_⟩
          rw [e]
          show h_must T 26 (true, t, l) = _
          rw [m1]
          rfl
  obtain ⟨t2, l2, r1, r2, r3⟩ := os
  rw [r3] at a1 a2 b2
  simp only at b2
  rcases b2 with ⟨c1, c2, c3, c4, c5⟩ | ⟨c1, c2⟩
  · have hl2 : t2 + 1 < n := by
      rcases Nat.lt_or_ge (t2 + 1) n with q | q
      · exact q
      · exfalso
        have e1 : t2 ≠ n := fun z => by rw [z, hn] at c1; omega
        have e2 : t2 + 1 = n := by omega
        rw [e2, hn] at c2
        omega
    rw [c5] at a2
    refine ⟨t2, l2, t2 + 2, l2, r1, by omega, htl, r2, r3, Or.inl ⟨c1, hl2, c3, c4, rfl, c5⟩, ?_⟩
    rcases a2 with ⟨d1, d2, d3⟩ | ⟨d1, d2⟩
    · have : t2 + 2 ≠ n := fun z => by simp only at d1; rw [z, hn] at d1; omega
      exact Or.inl ⟨d1, by omega, d2, d3⟩
    · exact Or.inr ⟨d1, d2⟩
  · rw [c2] at a2
    refine ⟨t2, l2, t2, l2, r1, r1, htl, r2, r3, Or.inr ⟨c1, rfl, c2⟩, ?_⟩
    rcases a2 with ⟨d1, d2, d3⟩ | ⟨d1, d2⟩
    · have : t2 ≠ n := fun z => by simp only at d1; rw [z, hn] at d1; omega
      exact Or.inl ⟨d1, by omega, d2, d3⟩
    · exact Or.inr ⟨d1, d2⟩
/-! what the words of orders are worth -/
def oE (k : Nat → Nat) (m : Nat) (v : Int) : Ev := fun c x => if c = 14 then (if x ≤ 24 then k (105 + x) else 0) else if c = 15 then k 104 else if c = 16 then m else if c = 17 then v else if c = 18 then (if x < k 177 then k x else -1) else (if x < k 177 then cnt (ft_sh k x) 25 else -1)
theorem oE_b {k : Nat → Nat} (W : WK k) {m : Nat} {v : Int} (hm : m ≤ 1000000) (hv : -1 ≤ v ∧ v ≤ 1000000) (c x : Nat) : -1000000 ≤ oE k m v c x ∧ oE k m v c x ≤ 1000000 := by
  have bm := W.many
  unfold oE
  by_cases c1 : c = 14
  · rw [if_pos c1]
    by_cases q : x ≤ 24
    · rw [if_pos q]; have := W.kind (c := x) (by omega); omega
    · rw [if_neg q]; omega
  · rw [if_neg c1]
    by_cases c2 : c = 15
    · rw [if_pos c2]; have := W.min; omega
    · rw [if_neg c2]
      by_cases c3 : c = 16
      · rw [if_pos c3]; omega
      · rw [if_neg c3]
        by_cases c4 : c = 17
        · rw [if_pos c4]; omega
        · rw [if_neg c4]
          by_cases c5 : c = 18
          · rw [if_pos c5]
            by_cases q : x < k 177
            · rw [if_pos q]; have := W.spot (w := x) (by omega); omega
            · rw [if_neg q]; omega
          · rw [if_neg c5]
            by_cases q : x < k 177
            · rw [if_pos q]; have := cnt_le (ft_sh k x) 25; omega
            · rw [if_neg q]; omega
/-- what the reference's orders stand on -/
def OB (h : jH) (k : Nat → Nat) (m : Nat) (v : Int) : Prop := ShM h ∧ KM h k ∧ j_I h 85 27 = nI m ∧ j_I h 85 28 = iI v ∧ j_I h 85 23 = nI (2400 + k 187) ∧ j_I h 85 25 = nI 1
theorem OB.EM {h : jH} {k : Nat → Nat} {m : Nat} {v : Int} (O : OB h k m v) (W : WK k) : EM h (kT k 6) 2400 (k 187) true := by
  obtain ⟨S, K, o1, o2, o3, o4⟩ := O
  have hs : k 187 ≤ 400 := W.size (j := 6) (by omega)
  refine ⟨S, fun i hi => ?_, o3, by omega, fun i hi => ?_, fun i => ?_, o4⟩
  · have c1 : (kT k 6).1 i = k (188 + (2400 + i)) := by
      show (if i < k (181 + 6) then k (188 + (400 * 6 + i)) else 0) = _
      rw [if_pos hi]
    have c2 : (kT k 6).2 i = k (2988 + (2400 + i)) := by
      show (if i < k (181 + 6) then k (2988 + (400 * 6 + i)) else 0) = _
      rw [if_pos hi]
    rw [c1, c2]
    exact ⟨K.1 _ (by omega) (by omega), K.1 _ (by omega) (by omega)⟩
  · show (if i < k (181 + 6) then k (188 + (400 * 6 + i)) else 0) = 0
    rw [if_neg (show ¬ i < k 187 by omega)]
  · have b1 := W.b31 (188 + (400 * 6 + i))
    have b2 := W.b31 (2988 + (400 * 6 + i))
    constructor
    · show (if i < k (181 + 6) then k (188 + (400 * 6 + i)) else 0) < _
      split <;> omega
    · show (if i < k (181 + 6) then k (2988 + (400 * 6 + i)) else 0) < _
      split <;> omega
theorem hE_KM {h : jH} {k : Nat → Nat} (K : KM h k) (j0 g : Nat) (b : Bool) : KM (hE h j0 g b) k := ⟨fun i h1 h2 => by rw [hE_I (by omega)]; exact K.1 i h1 h2, by rw [hE_I (by omega)]; exact K.2⟩
theorem OB.EV {F : Nat × Nat} (hF : FF F) {h : jH} {k : Nat → Nat} {m : Nat} {v : Int} (O : OB h k m v) (W : WK k) (hm : m ≤ 1000000) (hv : -1 ≤ v ∧ v ≤ 1000000) : EV F h (oE k m v) 2400 true := by
  obtain ⟨S, K, o1, o2, o3, o4⟩ := O
  have bm := W.many
  refine ⟨oE_b W hm hv, (fun z => by cases z), fun _ c x g b c1 c2 x1 x2 => ?_⟩
  have Sx : ShM (hE h 2400 g b) := S
  have K' := hE_KM K 2400 g b
  have p1 : j_I (hE h 2400 g b) 85 27 = nI m := by rw [hE_o (by omega)]; exact o1
  have p2 : j_I (hE h 2400 g b) 85 28 = iI v := by rw [hE_o (by omega)]; exact o2
  rw [q_M_orderValue]
  obtain rfl | rfl | rfl | rfl | rfl | rfl : c = 14 ∨ c = 15 ∨ c = 16 ∨ c = 17 ∨ c = 18 ∨ c = 19 := by omega
  · have i1 := km K' (i := 105 + x) (by omega) (by omega)
    have e : oE k m v 14 x = (k (105 + x) : Nat) := by show (if x ≤ 24 then _ else _) = _; rw [if_pos (by omega)]
    rw [e, iI_n]
    simp (disch := first | exact sR_rfl _ _ rfl | omega) only [ft_lit, ft_m1, ft_m2, ft_m3, ft_m5, ft_m6, ft_cl, ft_lt, ft_le, ft_eq, ft_mlt, ft_ltm, ft_mltm, ft_meq, ft_eqm, ft_meqm, ft_add, ft_mul, ft_sub, ft_nm, ft_m1p, ft_and, ft_or, ft_31, ft_shl, ft_shr, ft_bz, ft_z0, ft_z1, ft_z01, ft_bb, ft_zt, ft_zf, ft_or0, ft_rv, ft_rvr, ft_rf, ft_rfn, ft_bI, ft_bJ, ft_bV, ft_bR, ft_bRn, ft_isr, ft_isn, ft_ifn, ft_ifr, ft_ov, ft_ovn, ft_in, k_sI, n_sI, R_sI, J_sI, c_sI, z_sI, k_sJ, n_sJ, R_sJ, I_sJ, c_sJ, z_sJ, k_sR, n_sR, I_sR, J_sR, c_sR, z_sR, k_wI, n_wI, R_wI, J_wI, I_wIe, k_wJ, n_wJ, R_wJ, I_wJ, J_wJe, I_wIn, J_wJn, I_sIe, J_sJe, R_sRe, I_sIn, I_sIk, J_sJn, J_sJk, R_sRn, R_sRk, eq_self, if_true, if_false, ↓reduceIte, cond_true, cond_false, ↓cond_eq_ite, and_true, true_and, and_false, false_and, or_true, true_or, or_false, false_or, not_true_eq_false, not_false_eq_true, ft_ltT, ft_ltF, ft_eqT, ft_eqF, Bool.false_eq_true, Bool.true_eq_false, Bool.not_true, Bool.not_false, Bool.and_true, Bool.true_and, Bool.and_false, Bool.false_and, decide_true, decide_false, Nat.reduceAdd, Nat.reduceMul, Nat.reduceSub, Nat.reduceEqDiff, Nat.reduceLT, Nat.zero_add, Nat.add_zero, Nat.reduceDiv, Nat.reduceMod, sm_k85 Sx, sm_R85_1 Sx, ↓sm_v85_1 Sx, sm_R85_2 Sx, ↓sm_v85_2 Sx, sm_R85_3 Sx, ↓sm_v85_3 Sx, sm_R85_4 Sx, ↓sm_v85_4 Sx, sm_R85_5 Sx, ↓sm_v85_5 Sx, sm_R85_7 Sx, ↓sm_v85_7 Sx, sm_R85_11 Sx, ↓sm_v85_11 Sx, sm_R85_12 Sx, ↓sm_v85_12 Sx, sm_R85_15 Sx, ↓sm_v85_15 Sx, sm_R85_16 Sx, ↓sm_v85_16 Sx, sm_R85_17 Sx, ↓sm_v85_17 Sx, sm_R85_26 Sx, ↓sm_v85_26 Sx, sm_R85_29 Sx, ↓sm_v85_29 Sx, sm_R85_30 Sx, ↓sm_v85_30 Sx, sm_R85_32 Sx, ↓sm_v85_32 Sx, sm_R85_33 Sx, ↓sm_v85_33 Sx, sm_R85_34 Sx, ↓sm_v85_34 Sx, sm_R85_35 Sx, ↓sm_v85_35 Sx, sm_R85_36 Sx, ↓sm_v85_36 Sx, sm_R85_37 Sx, ↓sm_v85_37 Sx, sm_R85_38 Sx, ↓sm_v85_38 Sx, sm_R85_40 Sx, ↓sm_v85_40 Sx, sm_R85_41 Sx, ↓sm_v85_41 Sx, sm_R85_48 Sx, ↓sm_v85_48 Sx, sm_R85_49 Sx, ↓sm_v85_49 Sx, sm_k86 Sx, sm_n86 Sx, sm_k87 Sx, sm_n87 Sx, sm_k88 Sx, sm_n88 Sx, sm_k89 Sx, sm_n89 Sx, sm_k90 Sx, sm_n90 Sx, sm_k91 Sx, sm_n91 Sx, sm_k92 Sx, sm_n92 Sx, sm_k93 Sx, sm_n93 Sx, sm_k94 Sx, sm_n94 Sx, sm_k95 Sx, sm_n95 Sx, sm_k96 Sx, sm_n96 Sx, sm_k97 Sx, sm_n97 Sx, sm_k98 Sx, sm_n98 Sx, sm_k99 Sx, sm_n99 Sx, sm_k100 Sx, sm_n100 Sx, sm_k101 Sx, sm_n101 Sx, sm_k102 Sx, sm_n102 Sx, sm_k103 Sx, sm_n103 Sx, sm_k104 Sx, sm_n104 Sx, sm_k105 Sx, sm_n105 Sx, sm_k106 Sx, sm_n106 Sx, sm_k107 Sx, sm_n107 Sx, sm_k108 Sx, sm_n108 Sx, sm_k109 Sx, sm_n109 Sx, sm_k110 Sx, sm_n110 Sx, i1]
  · have i1 := km K' (i := 104) (by omega) (by omega)
    have e : oE k m v 15 x = (k 104 : Nat) := rfl
    rw [e, iI_n]
    simp (disch := first | exact sR_rfl _ _ rfl | omega) only [ft_lit, ft_m1, ft_m2, ft_m3, ft_m5, ft_m6, ft_cl, ft_lt, ft_le, ft_eq, ft_mlt, ft_ltm, ft_mltm, ft_meq, ft_eqm, ft_meqm, ft_add, ft_mul, ft_sub, ft_nm, ft_m1p, ft_and, ft_or, ft_31, ft_shl, ft_shr, ft_bz, ft_z0, ft_z1, ft_z01, ft_bb, ft_zt, ft_zf, ft_or0, ft_rv, ft_rvr, ft_rf, ft_rfn, ft_bI, ft_bJ, ft_bV, ft_bR, ft_bRn, ft_isr, ft_isn, ft_ifn, ft_ifr, ft_ov, ft_ovn, ft_in, k_sI, n_sI, R_sI, J_sI, c_sI, z_sI, k_sJ, n_sJ, R_sJ, I_sJ, c_sJ, z_sJ, k_sR, n_sR, I_sR, J_sR, c_sR, z_sR, k_wI, n_wI, R_wI, J_wI, I_wIe, k_wJ, n_wJ, R_wJ, I_wJ, J_wJe, I_wIn, J_wJn, I_sIe, J_sJe, R_sRe, I_sIn, I_sIk, J_sJn, J_sJk, R_sRn, R_sRk, eq_self, if_true, if_false, ↓reduceIte, cond_true, cond_false, ↓cond_eq_ite, and_true, true_and, and_false, false_and, or_true, true_or, or_false, false_or, not_true_eq_false, not_false_eq_true, ft_ltT, ft_ltF, ft_eqT, ft_eqF, Bool.false_eq_true, Bool.true_eq_false, Bool.not_true, Bool.not_false, Bool.and_true, Bool.true_and, Bool.and_false, Bool.false_and, decide_true, decide_false, Nat.reduceAdd, Nat.reduceMul, Nat.reduceSub, Nat.reduceEqDiff, Nat.reduceLT, Nat.zero_add, Nat.add_zero, Nat.reduceDiv, Nat.reduceMod, sm_k85 Sx, sm_R85_1 Sx, ↓sm_v85_1 Sx, sm_R85_2 Sx, ↓sm_v85_2 Sx, sm_R85_3 Sx, ↓sm_v85_3 Sx, sm_R85_4 Sx, ↓sm_v85_4 Sx, sm_R85_5 Sx, ↓sm_v85_5 Sx, sm_R85_7 Sx, ↓sm_v85_7 Sx, sm_R85_11 Sx, ↓sm_v85_11 Sx, sm_R85_12 Sx, ↓sm_v85_12 Sx, sm_R85_15 Sx, ↓sm_v85_15 Sx, sm_R85_16 Sx, ↓sm_v85_16 Sx, sm_R85_17 Sx, ↓sm_v85_17 Sx, sm_R85_26 Sx, ↓sm_v85_26 Sx, sm_R85_29 Sx, ↓sm_v85_29 Sx, sm_R85_30 Sx, ↓sm_v85_30 Sx, sm_R85_32 Sx, ↓sm_v85_32 Sx, sm_R85_33 Sx, ↓sm_v85_33 Sx, sm_R85_34 Sx, ↓sm_v85_34 Sx, sm_R85_35 Sx, ↓sm_v85_35 Sx, sm_R85_36 Sx, ↓sm_v85_36 Sx, sm_R85_37 Sx, ↓sm_v85_37 Sx, sm_R85_38 Sx, ↓sm_v85_38 Sx, sm_R85_40 Sx, ↓sm_v85_40 Sx, sm_R85_41 Sx, ↓sm_v85_41 Sx, sm_R85_48 Sx, ↓sm_v85_48 Sx, sm_R85_49 Sx, ↓sm_v85_49 Sx, sm_k86 Sx, sm_n86 Sx, sm_k87 Sx, sm_n87 Sx, sm_k88 Sx, sm_n88 Sx, sm_k89 Sx, sm_n89 Sx, sm_k90 Sx, sm_n90 Sx, sm_k91 Sx, sm_n91 Sx, sm_k92 Sx, sm_n92 Sx, sm_k93 Sx, sm_n93 Sx, sm_k94 Sx, sm_n94 Sx, sm_k95 Sx, sm_n95 Sx, sm_k96 Sx, sm_n96 Sx, sm_k97 Sx, sm_n97 Sx, sm_k98 Sx, sm_n98 Sx, sm_k99 Sx, sm_n99 Sx, sm_k100 Sx, sm_n100 Sx, sm_k101 Sx, sm_n101 Sx, sm_k102 Sx, sm_n102 Sx, sm_k103 Sx, sm_n103 Sx, sm_k104 Sx, sm_n104 Sx, sm_k105 Sx, sm_n105 Sx, sm_k106 Sx, sm_n106 Sx, sm_k107 Sx, sm_n107 Sx, sm_k108 Sx, sm_n108 Sx, sm_k109 Sx, sm_n109 Sx, sm_k110 Sx, sm_n110 Sx, i1]
  · have e : oE k m v 16 x = (m : Nat) := rfl
    rw [e, iI_n]
    simp (disch := first | exact sR_rfl _ _ rfl | omega) only [ft_lit, ft_m1, ft_m2, ft_m3, ft_m5, ft_m6, ft_cl, ft_lt, ft_le, ft_eq, ft_mlt, ft_ltm, ft_mltm, ft_meq, ft_eqm, ft_meqm, ft_add, ft_mul, ft_sub, ft_nm, ft_m1p, ft_and, ft_or, ft_31, ft_shl, ft_shr, ft_bz, ft_z0, ft_z1, ft_z01, ft_bb, ft_zt, ft_zf, ft_or0, ft_rv, ft_rvr, ft_rf, ft_rfn, ft_bI, ft_bJ, ft_bV, ft_bR, ft_bRn, ft_isr, ft_isn, ft_ifn, ft_ifr, ft_ov, ft_ovn, ft_in, k_sI, n_sI, R_sI, J_sI, c_sI, z_sI, k_sJ, n_sJ, R_sJ, I_sJ, c_sJ, z_sJ, k_sR, n_sR, I_sR, J_sR, c_sR, z_sR, k_wI, n_wI, R_wI, J_wI, I_wIe, k_wJ, n_wJ, R_wJ, I_wJ, J_wJe, I_wIn, J_wJn, I_sIe, J_sJe, R_sRe, I_sIn, I_sIk, J_sJn, J_sJk, R_sRn, R_sRk, eq_self, if_true, if_false, ↓reduceIte, cond_true, cond_false, ↓cond_eq_ite, and_true, true_and, and_false, false_and, or_true, true_or, or_false, false_or, not_true_eq_false, not_false_eq_true, ft_ltT, ft_ltF, ft_eqT, ft_eqF, Bool.false_eq_true, Bool.true_eq_false, Bool.not_true, Bool.not_false, Bool.and_true, Bool.true_and, Bool.and_false, Bool.false_and, decide_true, decide_false, Nat.reduceAdd, Nat.reduceMul, Nat.reduceSub, Nat.reduceEqDiff, Nat.reduceLT, Nat.zero_add, Nat.add_zero, Nat.reduceDiv, Nat.reduceMod, sm_k85 Sx, sm_R85_1 Sx, ↓sm_v85_1 Sx, sm_R85_2 Sx, ↓sm_v85_2 Sx, sm_R85_3 Sx, ↓sm_v85_3 Sx, sm_R85_4 Sx, ↓sm_v85_4 Sx, sm_R85_5 Sx, ↓sm_v85_5 Sx, sm_R85_7 Sx, ↓sm_v85_7 Sx, sm_R85_11 Sx, ↓sm_v85_11 Sx, sm_R85_12 Sx, ↓sm_v85_12 Sx, sm_R85_15 Sx, ↓sm_v85_15 Sx, sm_R85_16 Sx, ↓sm_v85_16 Sx, sm_R85_17 Sx, ↓sm_v85_17 Sx, sm_R85_26 Sx, ↓sm_v85_26 Sx, sm_R85_29 Sx, ↓sm_v85_29 Sx, sm_R85_30 Sx, ↓sm_v85_30 Sx, sm_R85_32 Sx, ↓sm_v85_32 Sx, sm_R85_33 Sx, ↓sm_v85_33 Sx, sm_R85_34 Sx, ↓sm_v85_34 Sx, sm_R85_35 Sx, ↓sm_v85_35 Sx, sm_R85_36 Sx, ↓sm_v85_36 Sx, sm_R85_37 Sx, ↓sm_v85_37 Sx, sm_R85_38 Sx, ↓sm_v85_38 Sx, sm_R85_40 Sx, ↓sm_v85_40 Sx, sm_R85_41 Sx, ↓sm_v85_41 Sx, sm_R85_48 Sx, ↓sm_v85_48 Sx, sm_R85_49 Sx, ↓sm_v85_49 Sx, sm_k86 Sx, sm_n86 Sx, sm_k87 Sx, sm_n87 Sx, sm_k88 Sx, sm_n88 Sx, sm_k89 Sx, sm_n89 Sx, sm_k90 Sx, sm_n90 Sx, sm_k91 Sx, sm_n91 Sx, sm_k92 Sx, sm_n92 Sx, sm_k93 Sx, sm_n93 Sx, sm_k94 Sx, sm_n94 Sx, sm_k95 Sx, sm_n95 Sx, sm_k96 Sx, sm_n96 Sx, sm_k97 Sx, sm_n97 Sx, sm_k98 Sx, sm_n98 Sx, sm_k99 Sx, sm_n99 Sx, sm_k100 Sx, sm_n100 Sx, sm_k101 Sx, sm_n101 Sx, sm_k102 Sx, sm_n102 Sx, sm_k103 Sx, sm_n103 Sx, sm_k104 Sx, sm_n104 Sx, sm_k105 Sx, sm_n105 Sx, sm_k106 Sx, sm_n106 Sx, sm_k107 Sx, sm_n107 Sx, sm_k108 Sx, sm_n108 Sx, sm_k109 Sx, sm_n109 Sx, sm_k110 Sx, sm_n110 Sx, p1]
  · have e : oE k m v 17 x = v := rfl
    rw [e]
    simp (disch := first | exact sR_rfl _ _ rfl | omega) only [ft_lit, ft_m1, ft_m2, ft_m3, ft_m5, ft_m6, ft_cl, ft_lt, ft_le, ft_eq, ft_mlt, ft_ltm, ft_mltm, ft_meq, ft_eqm, ft_meqm, ft_add, ft_mul, ft_sub, ft_nm, ft_m1p, ft_and, ft_or, ft_31, ft_shl, ft_shr, ft_bz, ft_z0, ft_z1, ft_z01, ft_bb, ft_zt, ft_zf, ft_or0, ft_rv, ft_rvr, ft_rf, ft_rfn, ft_bI, ft_bJ, ft_bV, ft_bR, ft_bRn, ft_isr, ft_isn, ft_ifn, ft_ifr, ft_ov, ft_ovn, ft_in, k_sI, n_sI, R_sI, J_sI, c_sI, z_sI, k_sJ, n_sJ, R_sJ, I_sJ, c_sJ, z_sJ, k_sR, n_sR, I_sR, J_sR, c_sR, z_sR, k_wI, n_wI, R_wI, J_wI, I_wIe, k_wJ, n_wJ, R_wJ, I_wJ, J_wJe, I_wIn, J_wJn, I_sIe, J_sJe, R_sRe, I_sIn, I_sIk, J_sJn, J_sJk, R_sRn, R_sRk, eq_self, if_true, if_false, ↓reduceIte, cond_true, cond_false, ↓cond_eq_ite, and_true, true_and, and_false, false_and, or_true, true_or, or_false, false_or, not_true_eq_false, not_false_eq_true, ft_ltT, ft_ltF, ft_eqT, ft_eqF, Bool.false_eq_true, Bool.true_eq_false, Bool.not_true, Bool.not_false, Bool.and_true, Bool.true_and, Bool.and_false, Bool.false_and, decide_true, decide_false, Nat.reduceAdd, Nat.reduceMul, Nat.reduceSub, Nat.reduceEqDiff, Nat.reduceLT, Nat.zero_add, Nat.add_zero, Nat.reduceDiv, Nat.reduceMod, sm_k85 Sx, sm_R85_1 Sx, ↓sm_v85_1 Sx, sm_R85_2 Sx, ↓sm_v85_2 Sx, sm_R85_3 Sx, ↓sm_v85_3 Sx, sm_R85_4 Sx, ↓sm_v85_4 Sx, sm_R85_5 Sx, ↓sm_v85_5 Sx, sm_R85_7 Sx, ↓sm_v85_7 Sx, sm_R85_11 Sx, ↓sm_v85_11 Sx, sm_R85_12 Sx, ↓sm_v85_12 Sx, sm_R85_15 Sx, ↓sm_v85_15 Sx, sm_R85_16 Sx, ↓sm_v85_16 Sx, sm_R85_17 Sx, ↓sm_v85_17 Sx, sm_R85_26 Sx, ↓sm_v85_26 Sx, sm_R85_29 Sx, ↓sm_v85_29 Sx, sm_R85_30 Sx, ↓sm_v85_30 Sx, sm_R85_32 Sx, ↓sm_v85_32 Sx, sm_R85_33 Sx, ↓sm_v85_33 Sx, sm_R85_34 Sx, ↓sm_v85_34 Sx, sm_R85_35 Sx, ↓sm_v85_35 Sx, sm_R85_36 Sx, ↓sm_v85_36 Sx, sm_R85_37 Sx, ↓sm_v85_37 Sx, sm_R85_38 Sx, ↓sm_v85_38 Sx, sm_R85_40 Sx, ↓sm_v85_40 Sx, sm_R85_41 Sx, ↓sm_v85_41 Sx, sm_R85_48 Sx, ↓sm_v85_48 Sx, sm_R85_49 Sx, ↓sm_v85_49 Sx, sm_k86 Sx, sm_n86 Sx, sm_k87 Sx, sm_n87 Sx, sm_k88 Sx, sm_n88 Sx, sm_k89 Sx, sm_n89 Sx, sm_k90 Sx, sm_n90 Sx, sm_k91 Sx, sm_n91 Sx, sm_k92 Sx, sm_n92 Sx, sm_k93 Sx, sm_n93 Sx, sm_k94 Sx, sm_n94 Sx, sm_k95 Sx, sm_n95 Sx, sm_k96 Sx, sm_n96 Sx, sm_k97 Sx, sm_n97 Sx, sm_k98 Sx, sm_n98 Sx, sm_k99 Sx, sm_n99 Sx, sm_k100 Sx, sm_n100 Sx, sm_k101 Sx, sm_n101 Sx, sm_k102 Sx, sm_n102 Sx, sm_k103 Sx, sm_n103 Sx, sm_k104 Sx, sm_n104 Sx, sm_k105 Sx, sm_n105 Sx, sm_k106 Sx, sm_n106 Sx, sm_k107 Sx, sm_n107 Sx, sm_k108 Sx, sm_n108 Sx, sm_k109 Sx, sm_n109 Sx, sm_k110 Sx, sm_n110 Sx, p2]
  · have w1 := M_isWalker (F := F) Sx K' W.b31 (n := x) (by omega)
    by_cases q : x < k 177
    · have e : oE k m v 18 x = (k x : Nat) := by show (if x < k 177 then _ else _) = _; rw [if_pos q]
      rw [decide_eq_true q, ft_zt] at w1
      have b1 := bI_of w1
      have b2 := bI_of (M_spotOf (F := F) Sx K' (w := x) (by omega))
      rw [e, iI_n]
      simp (disch := first | exact sR_rfl _ _ rfl | omega) only [ft_lit, ft_m1, ft_m2, ft_m3, ft_m5, ft_m6, ft_cl, ft_lt, ft_le, ft_eq, ft_mlt, ft_ltm, ft_mltm, ft_meq, ft_eqm, ft_meqm, ft_add, ft_mul, ft_sub, ft_nm, ft_m1p, ft_and, ft_or, ft_31, ft_shl, ft_shr, ft_bz, ft_z0, ft_z1, ft_z01, ft_bb, ft_zt, ft_zf, ft_or0, ft_rv, ft_rvr, ft_rf, ft_rfn, ft_bI, ft_bJ, ft_bV, ft_bR, ft_bRn, ft_isr, ft_isn, ft_ifn, ft_ifr, ft_ov, ft_ovn, ft_in, k_sI, n_sI, R_sI, J_sI, c_sI, z_sI, k_sJ, n_sJ, R_sJ, I_sJ, c_sJ, z_sJ, k_sR, n_sR, I_sR, J_sR, c_sR, z_sR, k_wI, n_wI, R_wI, J_wI, I_wIe, k_wJ, n_wJ, R_wJ, I_wJ, J_wJe, I_wIn, J_wJn, I_sIe, J_sJe, R_sRe, I_sIn, I_sIk, J_sJn, J_sJk, R_sRn, R_sRk, eq_self, if_true, if_false, ↓reduceIte, cond_true, cond_false, ↓cond_eq_ite, and_true, true_and, and_false, false_and, or_true, true_or, or_false, false_or, not_true_eq_false, not_false_eq_true, ft_ltT, ft_ltF, ft_eqT, ft_eqF, Bool.false_eq_true, Bool.true_eq_false, Bool.not_true, Bool.not_false, Bool.and_true, Bool.true_and, Bool.and_false, Bool.false_and, decide_true, decide_false, Nat.reduceAdd, Nat.reduceMul, Nat.reduceSub, Nat.reduceEqDiff, Nat.reduceLT, Nat.zero_add, Nat.add_zero, Nat.reduceDiv, Nat.reduceMod, sm_k85 Sx, sm_R85_1 Sx, ↓sm_v85_1 Sx, sm_R85_2 Sx, ↓sm_v85_2 Sx, sm_R85_3 Sx, ↓sm_v85_3 Sx, sm_R85_4 Sx, ↓sm_v85_4 Sx, sm_R85_5 Sx, ↓sm_v85_5 Sx, sm_R85_7 Sx, ↓sm_v85_7 Sx, sm_R85_11 Sx, ↓sm_v85_11 Sx, sm_R85_12 Sx, ↓sm_v85_12 Sx, sm_R85_15 Sx, ↓sm_v85_15 Sx, sm_R85_16 Sx, ↓sm_v85_16 Sx, sm_R85_17 Sx, ↓sm_v85_17 Sx, sm_R85_26 Sx, ↓sm_v85_26 Sx, sm_R85_29 Sx, ↓sm_v85_29 Sx, sm_R85_30 Sx, ↓sm_v85_30 Sx, sm_R85_32 Sx, ↓sm_v85_32 Sx, sm_R85_33 Sx, ↓sm_v85_33 Sx, sm_R85_34 Sx, ↓sm_v85_34 Sx, sm_R85_35 Sx, ↓sm_v85_35 Sx, sm_R85_36 Sx, ↓sm_v85_36 Sx, sm_R85_37 Sx, ↓sm_v85_37 Sx, sm_R85_38 Sx, ↓sm_v85_38 Sx, sm_R85_40 Sx, ↓sm_v85_40 Sx, sm_R85_41 Sx, ↓sm_v85_41 Sx, sm_R85_48 Sx, ↓sm_v85_48 Sx, sm_R85_49 Sx, ↓sm_v85_49 Sx, sm_k86 Sx, sm_n86 Sx, sm_k87 Sx, sm_n87 Sx, sm_k88 Sx, sm_n88 Sx, sm_k89 Sx, sm_n89 Sx, sm_k90 Sx, sm_n90 Sx, sm_k91 Sx, sm_n91 Sx, sm_k92 Sx, sm_n92 Sx, sm_k93 Sx, sm_n93 Sx, sm_k94 Sx, sm_n94 Sx, sm_k95 Sx, sm_n95 Sx, sm_k96 Sx, sm_n96 Sx, sm_k97 Sx, sm_n97 Sx, sm_k98 Sx, sm_n98 Sx, sm_k99 Sx, sm_n99 Sx, sm_k100 Sx, sm_n100 Sx, sm_k101 Sx, sm_n101 Sx, sm_k102 Sx, sm_n102 Sx, sm_k103 Sx, sm_n103 Sx, sm_k104 Sx, sm_n104 Sx, sm_k105 Sx, sm_n105 Sx, sm_k106 Sx, sm_n106 Sx, sm_k107 Sx, sm_n107 Sx, sm_k108 Sx, sm_n108 Sx, sm_k109 Sx, sm_n109 Sx, sm_k110 Sx, sm_n110 Sx, ↓b1, ↓b2]
    · have e : oE k m v 18 x = -1 := by show (if x < k 177 then _ else _) = _; rw [if_neg q]
      rw [decide_eq_false q, ft_zf] at w1
      have b1 := bI_of w1
      rw [e, iI_m1]
      simp (disch := first | exact sR_rfl _ _ rfl | omega) only [ft_lit, ft_m1, ft_m2, ft_m3, ft_m5, ft_m6, ft_cl, ft_lt, ft_le, ft_eq, ft_mlt, ft_ltm, ft_mltm, ft_meq, ft_eqm, ft_meqm, ft_add, ft_mul, ft_sub, ft_nm, ft_m1p, ft_and, ft_or, ft_31, ft_shl, ft_shr, ft_bz, ft_z0, ft_z1, ft_z01, ft_bb, ft_zt, ft_zf, ft_or0, ft_rv, ft_rvr, ft_rf, ft_rfn, ft_bI, ft_bJ, ft_bV, ft_bR, ft_bRn, ft_isr, ft_isn, ft_ifn, ft_ifr, ft_ov, ft_ovn, ft_in, k_sI, n_sI, R_sI, J_sI, c_sI, z_sI, k_sJ, n_sJ, R_sJ, I_sJ, c_sJ, z_sJ, k_sR, n_sR, I_sR, J_sR, c_sR, z_sR, k_wI, n_wI, R_wI, J_wI, I_wIe, k_wJ, n_wJ, R_wJ, I_wJ, J_wJe, I_wIn, J_wJn, I_sIe, J_sJe, R_sRe, I_sIn, I_sIk, J_sJn, J_sJk, R_sRn, R_sRk, eq_self, if_true, if_false, ↓reduceIte, cond_true, cond_false, ↓cond_eq_ite, and_true, true_and, and_false, false_and, or_true, true_or, or_false, false_or, not_true_eq_false, not_false_eq_true, ft_ltT, ft_ltF, ft_eqT, ft_eqF, Bool.false_eq_true, Bool.true_eq_false, Bool.not_true, Bool.not_false, Bool.and_true, Bool.true_and, Bool.and_false, Bool.false_and, decide_true, decide_false, Nat.reduceAdd, Nat.reduceMul, Nat.reduceSub, Nat.reduceEqDiff, Nat.reduceLT, Nat.zero_add, Nat.add_zero, Nat.reduceDiv, Nat.reduceMod, sm_k85 Sx, sm_R85_1 Sx, ↓sm_v85_1 Sx, sm_R85_2 Sx, ↓sm_v85_2 Sx, sm_R85_3 Sx, ↓sm_v85_3 Sx, sm_R85_4 Sx, ↓sm_v85_4 Sx, sm_R85_5 Sx, ↓sm_v85_5 Sx, sm_R85_7 Sx, ↓sm_v85_7 Sx, sm_R85_11 Sx, ↓sm_v85_11 Sx, sm_R85_12 Sx, ↓sm_v85_12 Sx, sm_R85_15 Sx, ↓sm_v85_15 Sx, sm_R85_16 Sx, ↓sm_v85_16 Sx, sm_R85_17 Sx, ↓sm_v85_17 Sx, sm_R85_26 Sx, ↓sm_v85_26 Sx, sm_R85_29 Sx, ↓sm_v85_29 Sx, sm_R85_30 Sx, ↓sm_v85_30 Sx, sm_R85_32 Sx, ↓sm_v85_32 Sx, sm_R85_33 Sx, ↓sm_v85_33 Sx, sm_R85_34 Sx, ↓sm_v85_34 Sx, sm_R85_35 Sx, ↓sm_v85_35 Sx, sm_R85_36 Sx, ↓sm_v85_36 Sx, sm_R85_37 Sx, ↓sm_v85_37 Sx, sm_R85_38 Sx, ↓sm_v85_38 Sx, sm_R85_40 Sx, ↓sm_v85_40 Sx, sm_R85_41 Sx, ↓sm_v85_41 Sx, sm_R85_48 Sx, ↓sm_v85_48 Sx, sm_R85_49 Sx, ↓sm_v85_49 Sx, sm_k86 Sx, sm_n86 Sx, sm_k87 Sx, sm_n87 Sx, sm_k88 Sx, sm_n88 Sx, sm_k89 Sx, sm_n89 Sx, sm_k90 Sx, sm_n90 Sx, sm_k91 Sx, sm_n91 Sx, sm_k92 Sx, sm_n92 Sx, sm_k93 Sx, sm_n93 Sx, sm_k94 Sx, sm_n94 Sx, sm_k95 Sx, sm_n95 Sx, sm_k96 Sx, sm_n96 Sx, sm_k97 Sx, sm_n97 Sx, sm_k98 Sx, sm_n98 Sx, sm_k99 Sx, sm_n99 Sx, sm_k100 Sx, sm_n100 Sx, sm_k101 Sx, sm_n101 Sx, sm_k102 Sx, sm_n102 Sx, sm_k103 Sx, sm_n103 Sx, sm_k104 Sx, sm_n104 Sx, sm_k105 Sx, sm_n105 Sx, sm_k106 Sx, sm_n106 Sx, sm_k107 Sx, sm_n107 Sx, sm_k108 Sx, sm_n108 Sx, sm_k109 Sx, sm_n109 Sx, sm_k110 Sx, sm_n110 Sx, ↓b1]
  · have w1 := M_isWalker (F := F) Sx K' W.b31 (n := x) (by omega)
    by_cases q : x < k 177
    · have e : oE k m v 19 x = (cnt (ft_sh k x) 25 : Nat) := by show (if x < k 177 then _ else _) = _; rw [if_pos q]
      rw [decide_eq_true q, ft_zt] at w1
      have b1 := bI_of w1
      have b2 := bI_of (M_sheetOf (F := F) hF Sx K' W.b31 (w := x) (by omega))
      have b3 := bI_of (M_ones (F := F) hF (h := hE h 2400 g b) (n := ft_bs (ft_sh k x) 25) (by have := sh_lt k x; omega))
      rw [pc_cnt _ 25 (Nat.le_refl _)] at b3
      rw [e, iI_n]
      simp (disch := first | exact sR_rfl _ _ rfl | omega) only [ft_lit, ft_m1, ft_m2, ft_m3, ft_m5, ft_m6, ft_cl, ft_lt, ft_le, ft_eq, ft_mlt, ft_ltm, ft_mltm, ft_meq, ft_eqm, ft_meqm, ft_add, ft_mul, ft_sub, ft_nm, ft_m1p, ft_and, ft_or, ft_31, ft_shl, ft_shr, ft_bz, ft_z0, ft_z1, ft_z01, ft_bb, ft_zt, ft_zf, ft_or0, ft_rv, ft_rvr, ft_rf, ft_rfn, ft_bI, ft_bJ, ft_bV, ft_bR, ft_bRn, ft_isr, ft_isn, ft_ifn, ft_ifr, ft_ov, ft_ovn, ft_in, k_sI, n_sI, R_sI, J_sI, c_sI, z_sI, k_sJ, n_sJ, R_sJ, I_sJ, c_sJ, z_sJ, k_sR, n_sR, I_sR, J_sR, c_sR, z_sR, k_wI, n_wI, R_wI, J_wI, I_wIe, k_wJ, n_wJ, R_wJ, I_wJ, J_wJe, I_wIn, J_wJn, I_sIe, J_sJe, R_sRe, I_sIn, I_sIk, J_sJn, J_sJk, R_sRn, R_sRk, eq_self, if_true, if_false, ↓reduceIte, cond_true, cond_false, ↓cond_eq_ite, and_true, true_and, and_false, false_and, or_true, true_or, or_false, false_or, not_true_eq_false, not_false_eq_true, ft_ltT, ft_ltF, ft_eqT, ft_eqF, Bool.false_eq_true, Bool.true_eq_false, Bool.not_true, Bool.not_false, Bool.and_true, Bool.true_and, Bool.and_false, Bool.false_and, decide_true, decide_false, Nat.reduceAdd, Nat.reduceMul, Nat.reduceSub, Nat.reduceEqDiff, Nat.reduceLT, Nat.zero_add, Nat.add_zero, Nat.reduceDiv, Nat.reduceMod, sm_k85 Sx, sm_R85_1 Sx, ↓sm_v85_1 Sx, sm_R85_2 Sx, ↓sm_v85_2 Sx, sm_R85_3 Sx, ↓sm_v85_3 Sx, sm_R85_4 Sx, ↓sm_v85_4 Sx, sm_R85_5 Sx, ↓sm_v85_5 Sx, sm_R85_7 Sx, ↓sm_v85_7 Sx, sm_R85_11 Sx, ↓sm_v85_11 Sx, sm_R85_12 Sx, ↓sm_v85_12 Sx, sm_R85_15 Sx, ↓sm_v85_15 Sx, sm_R85_16 Sx, ↓sm_v85_16 Sx, sm_R85_17 Sx, ↓sm_v85_17 Sx, sm_R85_26 Sx, ↓sm_v85_26 Sx, sm_R85_29 Sx, ↓sm_v85_29 Sx, sm_R85_30 Sx, ↓sm_v85_30 Sx, sm_R85_32 Sx, ↓sm_v85_32 Sx, sm_R85_33 Sx, ↓sm_v85_33 Sx, sm_R85_34 Sx, ↓sm_v85_34 Sx, sm_R85_35 Sx, ↓sm_v85_35 Sx, sm_R85_36 Sx, ↓sm_v85_36 Sx, sm_R85_37 Sx, ↓sm_v85_37 Sx, sm_R85_38 Sx, ↓sm_v85_38 Sx, sm_R85_40 Sx, ↓sm_v85_40 Sx, sm_R85_41 Sx, ↓sm_v85_41 Sx, sm_R85_48 Sx, ↓sm_v85_48 Sx, sm_R85_49 Sx, ↓sm_v85_49 Sx, sm_k86 Sx, sm_n86 Sx, sm_k87 Sx, sm_n87 Sx, sm_k88 Sx, sm_n88 Sx, sm_k89 Sx, sm_n89 Sx, sm_k90 Sx, sm_n90 Sx, sm_k91 Sx, sm_n91 Sx, sm_k92 Sx, sm_n92 Sx, sm_k93 Sx, sm_n93 Sx, sm_k94 Sx, sm_n94 Sx, sm_k95 Sx, sm_n95 Sx, sm_k96 Sx, sm_n96 Sx, sm_k97 Sx, sm_n97 Sx, sm_k98 Sx, sm_n98 Sx, sm_k99 Sx, sm_n99 Sx, sm_k100 Sx, sm_n100 Sx, sm_k101 Sx, sm_n101 Sx, sm_k102 Sx, sm_n102 Sx, sm_k103 Sx, sm_n103 Sx, sm_k104 Sx, sm_n104 Sx, sm_k105 Sx, sm_n105 Sx, sm_k106 Sx, sm_n106 Sx, sm_k107 Sx, sm_n107 Sx, sm_k108 Sx, sm_n108 Sx, sm_k109 Sx, sm_n109 Sx, sm_k110 Sx, sm_n110 Sx, ↓b1, ↓b2, ↓b3]
    · have e : oE k m v 19 x = -1 := by show (if x < k 177 then _ else _) = _; rw [if_neg q]
      rw [decide_eq_false q, ft_zf] at w1
      have b1 := bI_of w1
      rw [e, iI_m1]
      simp (disch := first | exact sR_rfl _ _ rfl | omega) only [ft_lit, ft_m1, ft_m2, ft_m3, ft_m5, ft_m6, ft_cl, ft_lt, ft_le, ft_eq, ft_mlt, ft_ltm, ft_mltm, ft_meq, ft_eqm, ft_meqm, ft_add, ft_mul, ft_sub, ft_nm, ft_m1p, ft_and, ft_or, ft_31, ft_shl, ft_shr, ft_bz, ft_z0, ft_z1, ft_z01, ft_bb, ft_zt, ft_zf, ft_or0, ft_rv, ft_rvr, ft_rf, ft_rfn, ft_bI, ft_bJ, ft_bV, ft_bR, ft_bRn, ft_isr, ft_isn, ft_ifn, ft_ifr, ft_ov, ft_ovn, ft_in, k_sI, n_sI, R_sI, J_sI, c_sI, z_sI, k_sJ, n_sJ, R_sJ, I_sJ, c_sJ, z_sJ, k_sR, n_sR, I_sR, J_sR, c_sR, z_sR, k_wI, n_wI, R_wI, J_wI, I_wIe, k_wJ, n_wJ, R_wJ, I_wJ, J_wJe, I_wIn, J_wJn, I_sIe, J_sJe, R_sRe, I_sIn, I_sIk, J_sJn, J_sJk, R_sRn, R_sRk, eq_self, if_true, if_false, ↓reduceIte, cond_true, cond_false, ↓cond_eq_ite, and_true, true_and, and_false, false_and, or_true, true_or, or_false, false_or, not_true_eq_false, not_false_eq_true, ft_ltT, ft_ltF, ft_eqT, ft_eqF, Bool.false_eq_true, Bool.true_eq_false, Bool.not_true, Bool.not_false, Bool.and_true, Bool.true_and, Bool.and_false, Bool.false_and, decide_true, decide_false, Nat.reduceAdd, Nat.reduceMul, Nat.reduceSub, Nat.reduceEqDiff, Nat.reduceLT, Nat.zero_add, Nat.add_zero, Nat.reduceDiv, Nat.reduceMod, sm_k85 Sx, sm_R85_1 Sx, ↓sm_v85_1 Sx, sm_R85_2 Sx, ↓sm_v85_2 Sx, sm_R85_3 Sx, ↓sm_v85_3 Sx, sm_R85_4 Sx, ↓sm_v85_4 Sx, sm_R85_5 Sx, ↓sm_v85_5 Sx, sm_R85_7 Sx, ↓sm_v85_7 Sx, sm_R85_11 Sx, ↓sm_v85_11 Sx, sm_R85_12 Sx, ↓sm_v85_12 Sx, sm_R85_15 Sx, ↓sm_v85_15 Sx, sm_R85_16 Sx, ↓sm_v85_16 Sx, sm_R85_17 Sx, ↓sm_v85_17 Sx, sm_R85_26 Sx, ↓sm_v85_26 Sx, sm_R85_29 Sx, ↓sm_v85_29 Sx, sm_R85_30 Sx, ↓sm_v85_30 Sx, sm_R85_32 Sx, ↓sm_v85_32 Sx, sm_R85_33 Sx, ↓sm_v85_33 Sx, sm_R85_34 Sx, ↓sm_v85_34 Sx, sm_R85_35 Sx, ↓sm_v85_35 Sx, sm_R85_36 Sx, ↓sm_v85_36 Sx, sm_R85_37 Sx, ↓sm_v85_37 Sx, sm_R85_38 Sx, ↓sm_v85_38 Sx, sm_R85_40 Sx, ↓sm_v85_40 Sx, sm_R85_41 Sx, ↓sm_v85_41 Sx, sm_R85_48 Sx, ↓sm_v85_48 Sx, sm_R85_49 Sx, ↓sm_v85_49 Sx, sm_k86 Sx, sm_n86 Sx, sm_k87 Sx, sm_n87 Sx, sm_k88 Sx, sm_n88 Sx, sm_k89 Sx, sm_n89 Sx, sm_k90 Sx, sm_n90 Sx, sm_k91 Sx, sm_n91 Sx, sm_k92 Sx, sm_n92 Sx, sm_k93 Sx, sm_n93 Sx, sm_k94 Sx, sm_n94 Sx, sm_k95 Sx, sm_n95 Sx, sm_k96 Sx, sm_n96 Sx, sm_k97 Sx, sm_n97 Sx, sm_k98 Sx, sm_n98 Sx, sm_k99 Sx, sm_n99 Sx, sm_k100 Sx, sm_n100 Sx, sm_k101 Sx, sm_n101 Sx, sm_k102 Sx, sm_n102 Sx, sm_k103 Sx, sm_n103 Sx, sm_k104 Sx, sm_n104 Sx, sm_k105 Sx, sm_n105 Sx, sm_k106 Sx, sm_n106 Sx, sm_k107 Sx, sm_n107 Sx, sm_k108 Sx, sm_n108 Sx, sm_k109 Sx, sm_n109 Sx, sm_k110 Sx, sm_n110 Sx, ↓b1]
