/-! THE REFERENCE EVALUATES: tests -/
def Et (h : jH) (n j0 : Nat) (e : Ev) (m : Int32 → jH → Option jO) (g : Ps → Rt) : Prop := ∀ (t l : Nat) (live b : Bool), t ≤ n → (g (true, t, l)).1.1 = true → ∃ r : Bool, m (nI (ft_z live)) (hE h j0 t b) = some (some (.int (nI (ft_z r))), hE h j0 (g (true, t, l)).1.2.1 (hbk live b ((g (true, t, l)).2.2 e).isNone)) ∧ (live = true → b = false → ∀ v, (g (true, t, l)).2.2 e = some v → r = v)
theorem h_cs_t {T : Tk} {s : Ps} (h : (h_cs T s).1 = true) : h_cs T s = h_adv s ∧ s.1 = true ∧ (T.1 s.2.1 = 160 ∨ T.1 s.2.1 = 162 ∨ T.1 s.2.1 = 161) := by
  unfold h_cs at h ⊢
  by_cases q : h_tk T 160 s = true
  · rw [if_pos q]
    unfold h_tk at q
    simp only [Bool.and_eq_true, beq_iff_eq] at q
    exact ⟨rfl, q.1, Or.inl q.2⟩
  · rw [if_neg q] at h ⊢
    by_cases q2 : h_tk T 162 s = true
    · rw [if_pos q2]
      unfold h_tk at q2
      simp only [Bool.and_eq_true, beq_iff_eq] at q2
      exact ⟨rfl, q2.1, Or.inr (Or.inl q2.2)⟩
    · rw [if_neg q2] at h ⊢
      obtain ⟨m1, m2, m3⟩ := h_must_t h
      exact ⟨m1, m2, Or.inr (Or.inr m3)⟩
theorem h_cmp_n (op : Nat) (x y : Option Int) : (h_cmp op x y).isNone = (x.isNone || y.isNone) := by
  unfold h_cmp
  cases x <;> cases y <;> rfl
theorem hbk2 (live b i j : Bool) : hbk live (hbk live b i) j = hbk live b (i || j) := by
  cases live <;> cases b <;> cases i <;> cases j <;> rfl
theorem E_posi {F : Nat × Nat} (hF : FF F) {h : jH} {T : Tk} {j0 n : Nat} {od : Bool} (H : EM h T j0 n od) {e : Ev} (V : EV F h e j0 od) (h4 : n ≤ 400) {rc : Nat → List Value → jH → Option jO} {d : Nat} (hd : d ≤ 8) (hrc : ∀ e1, d = e1 + 1 → Et h n j0 e (fun x => rc 186 [.ref 85, .int x]) (h_test T od e1)) : Et h n j0 e (m_M_positiveOf_r F rc 85) (h_posi T od (h_testr T od d) d) := by
  intro t l live b ht hok
  have hn : T.1 n = 0 := H.2.2.2.2.1 n (Nat.le_refl _)
  have hn4 := H.2.2.2.1
  have ca := fun {g} (hg : g < 100000) b => E_ca_b (F := F) H hg b
  obtain ⟨S, H1, H2, H3, H4, H5, H6⟩ := id H
  by_cases q : T.1 t = 140
  · have hlt : t < n := by
      have : t ≠ n := fun z => by rw [z, hn] at q; omega
      omega
    unfold h_posi at hok ⊢
    rw [if_neg (by simp)] at hok ⊢
    simp only [q, if_true] at hok ⊢
    cases d with
    | zero => simp [h_testr, h_flt] at hok
    | succ e1 =>
      simp only [h_testr] at hok ⊢
      have a0 : h_adv (true, t, l) = (true, t + 1, l) := rfl
      rw [a0] at hok ⊢
      obtain ⟨m1, m2, m3⟩ := h_must_t hok
      rw [m1]
      obtain ⟨r, r1, r2⟩ := hrc e1 rfl (t + 1) l live b hlt m2
      refine ⟨r, ?_, r2⟩
      have r0 := bI_of r1
      have p0 := E_p1_b (F := F) H (c := 100 + 40) (by omega) (g := t) (by omega) b q
      simp (disch := first | exact sR_rfl _ _ rfl | omega) only [q_M_positiveOf_r, ft_lit, ft_m1, ft_m2, ft_m3, ft_m5, ft_m6, ft_cl, ft_lt, ft_le, ft_eq, ft_mlt, ft_ltm, ft_mltm, ft_meq, ft_eqm, ft_meqm, ft_add, ft_mul, ft_sub, ft_nm, ft_m1p, ft_and, ft_or, ft_31, ft_shl, ft_shr, ft_bz, ft_z0, ft_z1, ft_z01, ft_bb, ft_zt, ft_zf, ft_or0, ft_rv, ft_rvr, ft_rf, ft_rfn, ft_bI, ft_bJ, ft_bV, ft_bR, ft_bRn, ft_isr, ft_isn, ft_ifn, ft_ifr, ft_ov, ft_ovn, ft_in, k_sI, n_sI, R_sI, J_sI, c_sI, z_sI, k_sJ, n_sJ, R_sJ, I_sJ, c_sJ, z_sJ, k_sR, n_sR, I_sR, J_sR, c_sR, z_sR, k_wI, n_wI, R_wI, J_wI, I_wIe, k_wJ, n_wJ, R_wJ, I_wJ, J_wJe, I_wIn, J_wJn, I_sIe, J_sJe, R_sRe, I_sIn, I_sIk, J_sJn, J_sJk, R_sRn, R_sRk, eq_self, if_true, if_false, ↓reduceIte, cond_true, cond_false, ↓cond_eq_ite, and_true, true_and, and_false, false_and, or_true, true_or, or_false, false_or, not_true_eq_false, not_false_eq_true, ft_ltT, ft_ltF, ft_eqT, ft_eqF, Bool.false_eq_true, Bool.true_eq_false, Bool.not_true, Bool.not_false, Bool.and_true, Bool.true_and, Bool.and_false, Bool.false_and, decide_true, decide_false, Nat.reduceAdd, Nat.reduceMul, Nat.reduceSub, Nat.reduceEqDiff, Nat.reduceLT, Nat.zero_add, Nat.add_zero, Nat.reduceDiv, Nat.reduceMod, sm_k85 S, sm_R85_1 S, ↓sm_v85_1 S, sm_R85_2 S, ↓sm_v85_2 S, sm_R85_3 S, ↓sm_v85_3 S, sm_R85_4 S, ↓sm_v85_4 S, sm_R85_5 S, ↓sm_v85_5 S, sm_R85_7 S, ↓sm_v85_7 S, sm_R85_11 S, ↓sm_v85_11 S, sm_R85_12 S, ↓sm_v85_12 S, sm_R85_15 S, ↓sm_v85_15 S, sm_R85_16 S, ↓sm_v85_16 S, sm_R85_17 S, ↓sm_v85_17 S, sm_R85_26 S, ↓sm_v85_26 S, sm_R85_29 S, ↓sm_v85_29 S, sm_R85_30 S, ↓sm_v85_30 S, sm_R85_32 S, ↓sm_v85_32 S, sm_R85_33 S, ↓sm_v85_33 S, sm_R85_34 S, ↓sm_v85_34 S, sm_R85_35 S, ↓sm_v85_35 S, sm_R85_36 S, ↓sm_v85_36 S, sm_R85_37 S, ↓sm_v85_37 S, sm_R85_38 S, ↓sm_v85_38 S, sm_R85_40 S, ↓sm_v85_40 S, sm_R85_41 S, ↓sm_v85_41 S, sm_R85_48 S, ↓sm_v85_48 S, sm_R85_49 S, ↓sm_v85_49 S, sm_k86 S, sm_n86 S, sm_k87 S, sm_n87 S, sm_k88 S, sm_n88 S, sm_k89 S, sm_n89 S, sm_k90 S, sm_n90 S, sm_k91 S, sm_n91 S, sm_k92 S, sm_n92 S, sm_k93 S, sm_n93 S, sm_k94 S, sm_n94 S, sm_k95 S, sm_n95 S, sm_k96 S, sm_n96 S, sm_k97 S, sm_n97 S, sm_k98 S, sm_n98 S, sm_k99 S, sm_n99 S, sm_k100 S, sm_n100 S, sm_k101 S, sm_n101 S, sm_k102 S, sm_n102 S, sm_k103 S, sm_n103 S, sm_k104 S, sm_n104 S, sm_k105 S, sm_n105 S, sm_k106 S, sm_n106 S, sm_k107 S, sm_n107 S, sm_k108 S, sm_n108 S, sm_k109 S, sm_n109 S, sm_k110 S, sm_n110 S, hE_k, hE_22, ↓M_sign_b, ↓p0, ↓r0, hE_sg, h_adv]
  · have hp : h_posi T od (h_testr T od d) d (true, t, l) = ((h_sum T od d (h_cs T (h_sum T od d (true, t, l)).1)).1, fun _ => (h_sum T od d (true, t, l)).2.1 ++ (h_sum T od d (h_cs T (h_sum T od d (true, t, l)).1)).2.1 ++ [h_op (T.1 (h_sum T od d (true, t, l)).1.2.1)], fun e => h_cmp (h_op (T.1 (h_sum T od d (true, t, l)).1.2.1)) ((h_sum T od d (true, t, l)).2.2 e) ((h_sum T od d (h_cs T (h_sum T od d (true, t, l)).1)).2.2 e)) := by
      unfold h_posi
      rw [if_neg (by simp), if_neg q]
    rw [hp] at hok ⊢
    clear hp
    simp only at hok ⊢
    have k1 := h_sum_ok (od := od) hn d (s := (true, t, l)) ht
    have k2 := h_cs_ok hn k1.1
    have k3 := h_sum_ok (od := od) hn d k2.1
    have ok2 := (k3.2 hok).1
    obtain ⟨c1, c2, c3⟩ := h_cs_t ok2
    have hr1 := fun b => bJ_of (E_sumF hF H V h4 hd t l live b ht c2)
    have hx := h_sum_b (T := T) (od := od) V.1 d (true, t, l)
    rw [c1] at hok k2 k3 ⊢
    have k2' : (h_sum T od d (true, t, l)).1.2.1 + 1 ≤ n := k2.1
    generalize hz1 : (h_sum T od d (true, t, l)).1 = z1 at hr1 c2 c3 hok k2 k2' k3 k1 ⊢
    obtain ⟨zb, zt, zl⟩ := z1
    have a0 : h_adv (zb, zt, zl) = (true, zt + 1, zl) := rfl
    rw [a0] at hok k2 k3 ⊢
    simp only at c3 k2' hr1 ⊢
    have hr2 := fun b => bJ_of (E_sumF hF H V h4 hd (zt + 1) zl live b k2' hok)
    have hy := h_sum_b (T := T) (od := od) V.1 d (true, zt + 1, zl)
    generalize (h_sum T od d (true, t, l)).2.2 e = x at hr1 hx ⊢
    generalize (h_sum T od d (true, zt + 1, zl)).2.2 e = y at hr2 hy ⊢
    generalize (h_sum T od d (true, zt + 1, zl)).1.2.1 = t2 at hr2 ⊢
    rw [h_cmp_n, ← hbk2]
    have p0 := E_p0_b (F := F) H (c := 100 + 40) (by omega) (g := t) (by omega) b q
    have r1 := hr1 b
    have r2 := hr2 (hbk live b x.isNone)
    have ca1 := ca (g := zt) (by omega) (hbk live b x.isNone)
    have bv := hvl_b (live := live) (b := b) hx
    have bw := hvl_b (live := live) (b := hbk live b x.isNone) hy
    have wx : ∀ a, live = true → b = false → x = some a → hvl live b x = a := fun a q1 q2 q3 => by rw [q1, q2, q3]; rfl
    have wy : ∀ a c, live = true → b = false → x = some a → y = some c → hvl live (hbk live b x.isNone) y = c := fun a c q1 q2 q3 q4 => by rw [q1, q2, q3, q4]; rfl
    generalize hv : hvl live b x = v at bv wx r1
    generalize hw : hvl live (hbk live b x.isNone) y = w at bw wy r2
    have hres : ∀ op r, h_op (T.1 zt) = op → (live = true → hbk live (hbk live b x.isNone) y.isNone = false → r = (if op = 11 then decide (v < w) else if op = 12 then decide (v > w) else decide (v = w))) → (live = true → b = false → ∀ u, h_cmp (h_op (T.1 zt)) x y = some u → r = u) := by
      intro op r ho hr l1 l2 u hu
      rw [ho] at hu
      cases x with
      | none => simp [h_cmp] at hu
      | some a =>
        cases y with
        | none => simp [h_cmp] at hu
        | some c =>
          have := hr l1 (by rw [l1, l2]; rfl)
          rw [this, wx a l1 l2 rfl, wy a c l1 l2 rfl rfl]
          simp only [h_cmp, Option.some.injEq] at hu
          exact hu
    generalize hbk live (hbk live b x.isNone) y.isNone = b2 at r2 hres ⊢
    cases live
    · refine ⟨false, ?_, fun q => nomatch q⟩
      simp only [ft_zf] at r1 r2
      simp (disch := first | exact sR_rfl _ _ rfl | omega) only [q_M_positiveOf_r, ft_lit, ft_m1, ft_m2, ft_m3, ft_m5, ft_m6, ft_cl, ft_lt, ft_le, ft_eq, ft_mlt, ft_ltm, ft_mltm, ft_meq, ft_eqm, ft_meqm, ft_add, ft_mul, ft_sub, ft_nm, ft_m1p, ft_and, ft_or, ft_31, ft_shl, ft_shr, ft_bz, ft_z0, ft_z1, ft_z01, ft_bb, ft_zt, ft_zf, ft_or0, ft_rv, ft_rvr, ft_rf, ft_rfn, ft_bI, ft_bJ, ft_bV, ft_bR, ft_bRn, ft_isr, ft_isn, ft_ifn, ft_ifr, ft_ov, ft_ovn, ft_in, k_sI, n_sI, R_sI, J_sI, c_sI, z_sI, k_sJ, n_sJ, R_sJ, I_sJ, c_sJ, z_sJ, k_sR, n_sR, I_sR, J_sR, c_sR, z_sR, k_wI, n_wI, R_wI, J_wI, I_wIe, k_wJ, n_wJ, R_wJ, I_wJ, J_wJe, I_wIn, J_wJn, I_sIe, J_sJe, R_sRe, I_sIn, I_sIk, J_sJn, J_sJk, R_sRn, R_sRk, eq_self, if_true, if_false, ↓reduceIte, cond_true, cond_false, ↓cond_eq_ite, and_true, true_and, and_false, false_and, or_true, true_or, or_false, false_or, not_true_eq_false, not_false_eq_true, ft_ltT, ft_ltF, ft_eqT, ft_eqF, Bool.false_eq_true, Bool.true_eq_false, Bool.not_true, Bool.not_false, Bool.and_true, Bool.true_and, Bool.and_false, Bool.false_and, decide_true, decide_false, Nat.reduceAdd, Nat.reduceMul, Nat.reduceSub, Nat.reduceEqDiff, Nat.reduceLT, Nat.zero_add, Nat.add_zero, Nat.reduceDiv, Nat.reduceMod, sm_k85 S, sm_R85_1 S, ↓sm_v85_1 S, sm_R85_2 S, ↓sm_v85_2 S, sm_R85_3 S, ↓sm_v85_3 S, sm_R85_4 S, ↓sm_v85_4 S, sm_R85_5 S, ↓sm_v85_5 S, sm_R85_7 S, ↓sm_v85_7 S, sm_R85_11 S, ↓sm_v85_11 S, sm_R85_12 S, ↓sm_v85_12 S, sm_R85_15 S, ↓sm_v85_15 S, sm_R85_16 S, ↓sm_v85_16 S, sm_R85_17 S, ↓sm_v85_17 S, sm_R85_26 S, ↓sm_v85_26 S, sm_R85_29 S, ↓sm_v85_29 S, sm_R85_30 S, ↓sm_v85_30 S, sm_R85_32 S, ↓sm_v85_32 S, sm_R85_33 S, ↓sm_v85_33 S, sm_R85_34 S, ↓sm_v85_34 S, sm_R85_35 S, ↓sm_v85_35 S, sm_R85_36 S, ↓sm_v85_36 S, sm_R85_37 S, ↓sm_v85_37 S, sm_R85_38 S, ↓sm_v85_38 S, sm_R85_40 S, ↓sm_v85_40 S, sm_R85_41 S, ↓sm_v85_41 S, sm_R85_48 S, ↓sm_v85_48 S, sm_R85_49 S, ↓sm_v85_49 S, sm_k86 S, sm_n86 S, sm_k87 S, sm_n87 S, sm_k88 S, sm_n88 S, sm_k89 S, sm_n89 S, sm_k90 S, sm_n90 S, sm_k91 S, sm_n91 S, sm_k92 S, sm_n92 S, sm_k93 S, sm_n93 S, sm_k94 S, sm_n94 S, sm_k95 S, sm_n95 S, sm_k96 S, sm_n96 S, sm_k97 S, sm_n97 S, sm_k98 S, sm_n98 S, sm_k99 S, sm_n99 S, sm_k100 S, sm_n100 S, sm_k101 S, sm_n101 S, sm_k102 S, sm_n102 S, sm_k103 S, sm_n103 S, sm_k104 S, sm_n104 S, sm_k105 S, sm_n105 S, sm_k106 S, sm_n106 S, sm_k107 S, sm_n107 S, sm_k108 S, sm_n108 S, sm_k109 S, sm_n109 S, sm_k110 S, sm_n110 S, hE_k, hE_22, ↓M_sign_b, ↓p0, ↓r1, ↓r2, ↓ca1, hE_sg]
    · simp only [ft_zt] at r1 r2
      cases b2
      · rcases c3 with c3 | c3 | c3
        · refine ⟨decide (v < w), ?_, hres 11 _ (by rw [c3]; rfl) (fun _ _ => rfl)⟩
          by_cases q1 : v < w <;> simp (disch := first | exact sR_rfl _ _ rfl | omega) only [q_M_positiveOf_r, ft_lit, ft_m1, ft_m2, ft_m3, ft_m5, ft_m6, ft_cl, ft_lt, ft_le, ft_eq, ft_mlt, ft_ltm, ft_mltm, ft_meq, ft_eqm, ft_meqm, ft_add, ft_mul, ft_sub, ft_nm, ft_m1p, ft_and, ft_or, ft_31, ft_shl, ft_shr, ft_bz, ft_z0, ft_z1, ft_z01, ft_bb, ft_zt, ft_zf, ft_or0, ft_rv, ft_rvr, ft_rf, ft_rfn, ft_bI, ft_bJ, ft_bV, ft_bR, ft_bRn, ft_isr, ft_isn, ft_ifn, ft_ifr, ft_ov, ft_ovn, ft_in, k_sI, n_sI, R_sI, J_sI, c_sI, z_sI, k_sJ, n_sJ, R_sJ, I_sJ, c_sJ, z_sJ, k_sR, n_sR, I_sR, J_sR, c_sR, z_sR, k_wI, n_wI, R_wI, J_wI, I_wIe, k_wJ, n_wJ, R_wJ, I_wJ, J_wJe, I_wIn, J_wJn, I_sIe, J_sJe, R_sRe, I_sIn, I_sIk, J_sJn, J_sJk, R_sRn, R_sRk, eq_self, if_true, if_false, ↓reduceIte, cond_true, cond_false, ↓cond_eq_ite, and_true, true_and, and_false, false_and, or_true, true_or, or_false, false_or, not_true_eq_false, not_false_eq_true, ft_ltT, ft_ltF, ft_eqT, ft_eqF, Bool.false_eq_true, Bool.true_eq_false, Bool.not_true, Bool.not_false, Bool.and_true, Bool.true_and, Bool.and_false, Bool.false_and, decide_true, decide_false, Nat.reduceAdd, Nat.reduceMul, Nat.reduceSub, Nat.reduceEqDiff, Nat.reduceLT, Nat.zero_add, Nat.add_zero, Nat.reduceDiv, Nat.reduceMod, sm_k85 S, sm_R85_1 S, ↓sm_v85_1 S, sm_R85_2 S, ↓sm_v85_2 S, sm_R85_3 S, ↓sm_v85_3 S, sm_R85_4 S, ↓sm_v85_4 S, sm_R85_5 S, ↓sm_v85_5 S, sm_R85_7 S, ↓sm_v85_7 S, sm_R85_11 S, ↓sm_v85_11 S, sm_R85_12 S, ↓sm_v85_12 S, sm_R85_15 S, ↓sm_v85_15 S, sm_R85_16 S, ↓sm_v85_16 S, sm_R85_17 S, ↓sm_v85_17 S, sm_R85_26 S, ↓sm_v85_26 S, sm_R85_29 S, ↓sm_v85_29 S, sm_R85_30 S, ↓sm_v85_30 S, sm_R85_32 S, ↓sm_v85_32 S, sm_R85_33 S, ↓sm_v85_33 S, sm_R85_34 S, ↓sm_v85_34 S, sm_R85_35 S, ↓sm_v85_35 S, sm_R85_36 S, ↓sm_v85_36 S, sm_R85_37 S, ↓sm_v85_37 S, sm_R85_38 S, ↓sm_v85_38 S, sm_R85_40 S, ↓sm_v85_40 S, sm_R85_41 S, ↓sm_v85_41 S, sm_R85_48 S, ↓sm_v85_48 S, sm_R85_49 S, ↓sm_v85_49 S, sm_k86 S, sm_n86 S, sm_k87 S, sm_n87 S, sm_k88 S, sm_n88 S, sm_k89 S, sm_n89 S, sm_k90 S, sm_n90 S, sm_k91 S, sm_n91 S, sm_k92 S, sm_n92 S, sm_k93 S, sm_n93 S, sm_k94 S, sm_n94 S, sm_k95 S, sm_n95 S, sm_k96 S, sm_n96 S, sm_k97 S, sm_n97 S, sm_k98 S, sm_n98 S, sm_k99 S, sm_n99 S, sm_k100 S, sm_n100 S, sm_k101 S, sm_n101 S, sm_k102 S, sm_n102 S, sm_k103 S, sm_n103 S, sm_k104 S, sm_n104 S, sm_k105 S, sm_n105 S, sm_k106 S, sm_n106 S, sm_k107 S, sm_n107 S, sm_k108 S, sm_n108 S, sm_k109 S, sm_n109 S, sm_k110 S, sm_n110 S, hE_k, hE_22, hE_24, ↓M_sign_b, ↓p0, ↓r1, ↓r2, ↓ca1, hE_sg, c3, cmp_lt, q1]
        · refine ⟨decide (v > w), ?_, hres 12 _ (by rw [c3]; rfl) (fun _ _ => rfl)⟩
          by_cases q1 : w < v
          · have q2 : v > w := q1
            simp (disch := first | exact sR_rfl _ _ rfl | omega) only [q_M_positiveOf_r, ft_lit, ft_m1, ft_m2, ft_m3, ft_m5, ft_m6, ft_cl, ft_lt, ft_le, ft_eq, ft_mlt, ft_ltm, ft_mltm, ft_meq, ft_eqm, ft_meqm, ft_add, ft_mul, ft_sub, ft_nm, ft_m1p, ft_and, ft_or, ft_31, ft_shl, ft_shr, ft_bz, ft_z0, ft_z1, ft_z01, ft_bb, ft_zt, ft_zf, ft_or0, ft_rv, ft_rvr, ft_rf, ft_rfn, ft_bI, ft_bJ, ft_bV, ft_bR, ft_bRn, ft_isr, ft_isn, ft_ifn, ft_ifr, ft_ov, ft_ovn, ft_in, k_sI, n_sI, R_sI, J_sI, c_sI, z_sI, k_sJ, n_sJ, R_sJ, I_sJ, c_sJ, z_sJ, k_sR, n_sR, I_sR, J_sR, c_sR, z_sR, k_wI, n_wI, R_wI, J_wI, I_wIe, k_wJ, n_wJ, R_wJ, I_wJ, J_wJe, I_wIn, J_wJn, I_sIe, J_sJe, R_sRe, I_sIn, I_sIk, J_sJn, J_sJk, R_sRn, R_sRk, eq_self, if_true, if_false, ↓reduceIte, cond_true, cond_false, ↓cond_eq_ite, and_true, true_and, and_false, false_and, or_true, true_or, or_false, false_or, not_true_eq_false, not_false_eq_true, ft_ltT, ft_ltF, ft_eqT, ft_eqF, Bool.false_eq_true, Bool.true_eq_false, Bool.not_true, Bool.not_false, Bool.and_true, Bool.true_and, Bool.and_false, Bool.false_and, decide_true, decide_false, Nat.reduceAdd, Nat.reduceMul, Nat.reduceSub, Nat.reduceEqDiff, Nat.reduceLT, Nat.zero_add, Nat.add_zero, Nat.reduceDiv, Nat.reduceMod, sm_k85 S, sm_R85_1 S, ↓sm_v85_1 S, sm_R85_2 S, ↓sm_v85_2 S, sm_R85_3 S, ↓sm_v85_3 S, sm_R85_4 S, ↓sm_v85_4 S, sm_R85_5 S, ↓sm_v85_5 S, sm_R85_7 S, ↓sm_v85_7 S, sm_R85_11 S, ↓sm_v85_11 S, sm_R85_12 S, ↓sm_v85_12 S, sm_R85_15 S, ↓sm_v85_15 S, sm_R85_16 S, ↓sm_v85_16 S, sm_R85_17 S, ↓sm_v85_17 S, sm_R85_26 S, ↓sm_v85_26 S, sm_R85_29 S, ↓sm_v85_29 S, sm_R85_30 S, ↓sm_v85_30 S, sm_R85_32 S, ↓sm_v85_32 S, sm_R85_33 S, ↓sm_v85_33 S, sm_R85_34 S, ↓sm_v85_34 S, sm_R85_35 S, ↓sm_v85_35 S, sm_R85_36 S, ↓sm_v85_36 S, sm_R85_37 S, ↓sm_v85_37 S, sm_R85_38 S, ↓sm_v85_38 S, sm_R85_40 S, ↓sm_v85_40 S, sm_R85_41 S, ↓sm_v85_41 S, sm_R85_48 S, ↓sm_v85_48 S, sm_R85_49 S, ↓sm_v85_49 S, sm_k86 S, sm_n86 S, sm_k87 S, sm_n87 S, sm_k88 S, sm_n88 S, sm_k89 S, sm_n89 S, sm_k90 S, sm_n90 S, sm_k91 S, sm_n91 S, sm_k92 S, sm_n92 S, sm_k93 S, sm_n93 S, sm_k94 S, sm_n94 S, sm_k95 S, sm_n95 S, sm_k96 S, sm_n96 S, sm_k97 S, sm_n97 S, sm_k98 S, sm_n98 S, sm_k99 S, sm_n99 S, sm_k100 S, sm_n100 S, sm_k101 S, sm_n101 S, sm_k102 S, sm_n102 S, sm_k103 S, sm_n103 S, sm_k104 S, sm_n104 S, sm_k105 S, sm_n105 S, sm_k106 S, sm_n106 S, sm_k107 S, sm_n107 S, sm_k108 S, sm_n108 S, sm_k109 S, sm_n109 S, sm_k110 S, sm_n110 S, hE_k, hE_22, hE_24, ↓M_sign_b, ↓p0, ↓r1, ↓r2, ↓ca1, hE_sg, c3, cmp_gt, q1, q2, gt_iff_lt]
          · have q2 : ¬ v > w := q1
            simp (disch := first | exact sR_rfl _ _ rfl | omega) only [q_M_positiveOf_r, ft_lit, ft_m1, ft_m2, ft_m3, ft_m5, ft_m6, ft_cl, ft_lt, ft_le, ft_eq, ft_mlt, ft_ltm, ft_mltm, ft_meq, ft_eqm, ft_meqm, ft_add, ft_mul, ft_sub, ft_nm, ft_m1p, ft_and, ft_or, ft_31, ft_shl, ft_shr, ft_bz, ft_z0, ft_z1, ft_z01, ft_bb, ft_zt, ft_zf, ft_or0, ft_rv, ft_rvr, ft_rf, ft_rfn, ft_bI, ft_bJ, ft_bV, ft_bR, ft_bRn, ft_isr, ft_isn, ft_ifn, ft_ifr, ft_ov, ft_ovn, ft_in, k_sI, n_sI, R_sI, J_sI, c_sI, z_sI, k_sJ, n_sJ, R_sJ, I_sJ, c_sJ, z_sJ, k_sR, n_sR, I_sR, J_sR, c_sR, z_sR, k_wI, n_wI, R_wI, J_wI, I_wIe, k_wJ, n_wJ, R_wJ, I_wJ, J_wJe, I_wIn, J_wJn, I_sIe, J_sJe, R_sRe, I_sIn, I_sIk, J_sJn, J_sJk, R_sRn, R_sRk, eq_self, if_true, if_false, ↓reduceIte, cond_true, cond_false, ↓cond_eq_ite, and_true, true_and, and_false, false_and, or_true, true_or, or_false, false_or, not_true_eq_false, not_false_eq_true, ft_ltT, ft_ltF, ft_eqT, ft_eqF, Bool.false_eq_true, Bool.true_eq_false, Bool.not_true, Bool.not_false, Bool.and_true, Bool.true_and, Bool.and_false, Bool.false_and, decide_true, decide_false, Nat.reduceAdd, Nat.reduceMul, Nat.reduceSub, Nat.reduceEqDiff, Nat.reduceLT, Nat.zero_add, Nat.add_zero, Nat.reduceDiv, Nat.reduceMod, sm_k85 S, sm_R85_1 S, ↓sm_v85_1 S, sm_R85_2 S, ↓sm_v85_2 S, sm_R85_3 S, ↓sm_v85_3 S, sm_R85_4 S, ↓sm_v85_4 S, sm_R85_5 S, ↓sm_v85_5 S, sm_R85_7 S, ↓sm_v85_7 S, sm_R85_11 S, ↓sm_v85_11 S, sm_R85_12 S, ↓sm_v85_12 S, sm_R85_15 S, ↓sm_v85_15 S, sm_R85_16 S, ↓sm_v85_16 S, sm_R85_17 S, ↓sm_v85_17 S, sm_R85_26 S, ↓sm_v85_26 S, sm_R85_29 S, ↓sm_v85_29 S, sm_R85_30 S, ↓sm_v85_30 S, sm_R85_32 S, ↓sm_v85_32 S, sm_R85_33 S, ↓sm_v85_33 S, sm_R85_34 S, ↓sm_v85_34 S, sm_R85_35 S, ↓sm_v85_35 S, sm_R85_36 S, ↓sm_v85_36 S, sm_R85_37 S, ↓sm_v85_37 S, sm_R85_38 S, ↓sm_v85_38 S, sm_R85_40 S, ↓sm_v85_40 S, sm_R85_41 S, ↓sm_v85_41 S, sm_R85_48 S, ↓sm_v85_48 S, sm_R85_49 S, ↓sm_v85_49 S, sm_k86 S, sm_n86 S, sm_k87 S, sm_n87 S, sm_k88 S, sm_n88 S, sm_k89 S, sm_n89 S, sm_k90 S, sm_n90 S, sm_k91 S, sm_n91 S, sm_k92 S, sm_n92 S, sm_k93 S, sm_n93 S, sm_k94 S, sm_n94 S, sm_k95 S, sm_n95 S, sm_k96 S, sm_n96 S, sm_k97 S, sm_n97 S, sm_k98 S, sm_n98 S, sm_k99 S, sm_n99 S, sm_k100 S, sm_n100 S, sm_k101 S, sm_n101 S, sm_k102 S, sm_n102 S, sm_k103 S, sm_n103 S, sm_k104 S, sm_n104 S, sm_k105 S, sm_n105 S, sm_k106 S, sm_n106 S, sm_k107 S, sm_n107 S, sm_k108 S, sm_n108 S, sm_k109 S, sm_n109 S, sm_k110 S, sm_n110 S, hE_k, hE_22, hE_24, ↓M_sign_b, ↓p0, ↓r1, ↓r2, ↓ca1, hE_sg, c3, cmp_gt, q1, q2, gt_iff_lt]
        · refine ⟨decide (v = w), ?_, hres 13 _ (by rw [c3]; rfl) (fun _ _ => rfl)⟩
          by_cases q1 : v = w
          · have q2 : (lg_cmp (iL v) (iL w) = nI 0) = True := by rw [cmp_eq (by omega) (by omega) (by omega) (by omega)]; simp [q1]
            rw [decide_eq_true q1]
            simp (disch := first | exact sR_rfl _ _ rfl | omega) only [q_M_positiveOf_r, ft_lit, ft_m1, ft_m2, ft_m3, ft_m5, ft_m6, ft_cl, ft_lt, ft_le, ft_eq, ft_mlt, ft_ltm, ft_mltm, ft_meq, ft_eqm, ft_meqm, ft_add, ft_mul, ft_sub, ft_nm, ft_m1p, ft_and, ft_or, ft_31, ft_shl, ft_shr, ft_bz, ft_z0, ft_z1, ft_z01, ft_bb, ft_zt, ft_zf, ft_or0, ft_rv, ft_rvr, ft_rf, ft_rfn, ft_bI, ft_bJ, ft_bV, ft_bR, ft_bRn, ft_isr, ft_isn, ft_ifn, ft_ifr, ft_ov, ft_ovn, ft_in, k_sI, n_sI, R_sI, J_sI, c_sI, z_sI, k_sJ, n_sJ, R_sJ, I_sJ, c_sJ, z_sJ, k_sR, n_sR, I_sR, J_sR, c_sR, z_sR, k_wI, n_wI, R_wI, J_wI, I_wIe, k_wJ, n_wJ, R_wJ, I_wJ, J_wJe, I_wIn, J_wJn, I_sIe, J_sJe, R_sRe, I_sIn, I_sIk, J_sJn, J_sJk, R_sRn, R_sRk, eq_self, if_true, if_false, ↓reduceIte, cond_true, cond_false, ↓cond_eq_ite, and_true, true_and, and_false, false_and, or_true, true_or, or_false, false_or, not_true_eq_false, not_false_eq_true, ft_ltT, ft_ltF, ft_eqT, ft_eqF, Bool.false_eq_true, Bool.true_eq_false, Bool.not_true, Bool.not_false, Bool.and_true, Bool.true_and, Bool.and_false, Bool.false_and, decide_true, decide_false, Nat.reduceAdd, Nat.reduceMul, Nat.reduceSub, Nat.reduceEqDiff, Nat.reduceLT, Nat.zero_add, Nat.add_zero, Nat.reduceDiv, Nat.reduceMod, sm_k85 S, sm_R85_1 S, ↓sm_v85_1 S, sm_R85_2 S, ↓sm_v85_2 S, sm_R85_3 S, ↓sm_v85_3 S, sm_R85_4 S, ↓sm_v85_4 S, sm_R85_5 S, ↓sm_v85_5 S, sm_R85_7 S, ↓sm_v85_7 S, sm_R85_11 S, ↓sm_v85_11 S, sm_R85_12 S, ↓sm_v85_12 S, sm_R85_15 S, ↓sm_v85_15 S, sm_R85_16 S, ↓sm_v85_16 S, sm_R85_17 S, ↓sm_v85_17 S, sm_R85_26 S, ↓sm_v85_26 S, sm_R85_29 S, ↓sm_v85_29 S, sm_R85_30 S, ↓sm_v85_30 S, sm_R85_32 S, ↓sm_v85_32 S, sm_R85_33 S, ↓sm_v85_33 S, sm_R85_34 S, ↓sm_v85_34 S, sm_R85_35 S, ↓sm_v85_35 S, sm_R85_36 S, ↓sm_v85_36 S, sm_R85_37 S, ↓sm_v85_37 S, sm_R85_38 S, ↓sm_v85_38 S, sm_R85_40 S, ↓sm_v85_40 S, sm_R85_41 S, ↓sm_v85_41 S, sm_R85_48 S, ↓sm_v85_48 S, sm_R85_49 S, ↓sm_v85_49 S, sm_k86 S, sm_n86 S, sm_k87 S, sm_n87 S, sm_k88 S, sm_n88 S, sm_k89 S, sm_n89 S, sm_k90 S, sm_n90 S, sm_k91 S, sm_n91 S, sm_k92 S, sm_n92 S, sm_k93 S, sm_n93 S, sm_k94 S, sm_n94 S, sm_k95 S, sm_n95 S, sm_k96 S, sm_n96 S, sm_k97 S, sm_n97 S, sm_k98 S, sm_n98 S, sm_k99 S, sm_n99 S, sm_k100 S, sm_n100 S, sm_k101 S, sm_n101 S, sm_k102 S, sm_n102 S, sm_k103 S, sm_n103 S, sm_k104 S, sm_n104 S, sm_k105 S, sm_n105 S, sm_k106 S, sm_n106 S, sm_k107 S, sm_n107 S, sm_k108 S, sm_n108 S, sm_k109 S, sm_n109 S, sm_k110 S, sm_n110 S, hE_k, hE_22, hE_24, ↓M_sign_b, ↓p0, ↓r1, ↓r2, ↓ca1, hE_sg, c3, q2]
          · have q2 : (lg_cmp (iL v) (iL w) = nI 0) = False := by rw [cmp_eq (by omega) (by omega) (by omega) (by omega)]; simp [q1]
            rw [decide_eq_false q1]
            simp (disch := first | exact sR_rfl _ _ rfl | omega) only [q_M_positiveOf_r, ft_lit, ft_m1, ft_m2, ft_m3, ft_m5, ft_m6, ft_cl, ft_lt, ft_le, ft_eq, ft_mlt, ft_ltm, ft_mltm, ft_meq, ft_eqm, ft_meqm, ft_add, ft_mul, ft_sub, ft_nm, ft_m1p, ft_and, ft_or, ft_31, ft_shl, ft_shr, ft_bz, ft_z0, ft_z1, ft_z01, ft_bb, ft_zt, ft_zf, ft_or0, ft_rv, ft_rvr, ft_rf, ft_rfn, ft_bI, ft_bJ, ft_bV, ft_bR, ft_bRn, ft_isr, ft_isn, ft_ifn, ft_ifr, ft_ov, ft_ovn, ft_in, k_sI, n_sI, R_sI, J_sI, c_sI, z_sI, k_sJ, n_sJ, R_sJ, I_sJ, c_sJ, z_sJ, k_sR, n_sR, I_sR, J_sR, c_sR, z_sR, k_wI, n_wI, R_wI, J_wI, I_wIe, k_wJ, n_wJ, R_wJ, I_wJ, J_wJe, I_wIn, J_wJn, I_sIe, J_sJe, R_sRe, I_sIn, I_sIk, J_sJn, J_sJk, R_sRn, R_sRk, eq_self, if_true, if_false, ↓reduceIte, cond_true, cond_false, ↓cond_eq_ite, and_true, true_and, and_false, false_and, or_true, true_or, or_false, false_or, not_true_eq_false, not_false_eq_true, ft_ltT, ft_ltF, ft_eqT, ft_eqF, Bool.false_eq_true, Bool.true_eq_false, Bool.not_true, Bool.not_false, Bool.and_true, Bool.true_and, Bool.and_false, Bool.false_and, decide_true, decide_false, Nat.reduceAdd, Nat.reduceMul, Nat.reduceSub, Nat.reduceEqDiff, Nat.reduceLT, Nat.zero_add, Nat.add_zero, Nat.reduceDiv, Nat.reduceMod, sm_k85 S, sm_R85_1 S, ↓sm_v85_1 S, sm_R85_2 S, ↓sm_v85_2 S, sm_R85_3 S, ↓sm_v85_3 S, sm_R85_4 S, ↓sm_v85_4 S, sm_R85_5 S, ↓sm_v85_5 S, sm_R85_7 S, ↓sm_v85_7 S, sm_R85_11 S, ↓sm_v85_11 S, sm_R85_12 S, ↓sm_v85_12 S, sm_R85_15 S, ↓sm_v85_15 S, sm_R85_16 S, ↓sm_v85_16 S, sm_R85_17 S, ↓sm_v85_17 S, sm_R85_26 S, ↓sm_v85_26 S, sm_R85_29 S, ↓sm_v85_29 S, sm_R85_30 S, ↓sm_v85_30 S, sm_R85_32 S, ↓sm_v85_32 S, sm_R85_33 S, ↓sm_v85_33 S, sm_R85_34 S, ↓sm_v85_34 S, sm_R85_35 S, ↓sm_v85_35 S, sm_R85_36 S, ↓sm_v85_36 S, sm_R85_37 S, ↓sm_v85_37 S, sm_R85_38 S, ↓sm_v85_38 S, sm_R85_40 S, ↓sm_v85_40 S, sm_R85_41 S, ↓sm_v85_41 S, sm_R85_48 S, ↓sm_v85_48 S, sm_R85_49 S, ↓sm_v85_49 S, sm_k86 S, sm_n86 S, sm_k87 S, sm_n87 S, sm_k88 S, sm_n88 S, sm_k89 S, sm_n89 S, sm_k90 S, sm_n90 S, sm_k91 S, sm_n91 S, sm_k92 S, sm_n92 S, sm_k93 S, sm_n93 S, sm_k94 S, sm_n94 S, sm_k95 S, sm_n95 S, sm_k96 S, sm_n96 S, sm_k97 S, sm_n97 S, sm_k98 S, sm_n98 S, sm_k99 S, sm_n99 S, sm_k100 S, sm_n100 S, sm_k101 S, sm_n101 S, sm_k102 S, sm_n102 S, sm_k103 S, sm_n103 S, sm_k104 S, sm_n104 S, sm_k105 S, sm_n105 S, sm_k106 S, sm_n106 S, sm_k107 S, sm_n107 S, sm_k108 S, sm_n108 S, sm_k109 S, sm_n109 S, sm_k110 S, sm_n110 S, hE_k, hE_22, hE_24, ↓M_sign_b, ↓p0, ↓r1, ↓r2, ↓ca1, hE_sg, c3, q2]
      · refine ⟨false, ?_, hres _ _ rfl (fun _ q => nomatch q)⟩
        simp (disch := first | exact sR_rfl _ _ rfl | omega) only [q_M_positiveOf_r, ft_lit, ft_m1, ft_m2, ft_m3, ft_m5, ft_m6, ft_cl, ft_lt, ft_le, ft_eq, ft_mlt, ft_ltm, ft_mltm, ft_meq, ft_eqm, ft_meqm, ft_add, ft_mul, ft_sub, ft_nm, ft_m1p, ft_and, ft_or, ft_31, ft_shl, ft_shr, ft_bz, ft_z0, ft_z1, ft_z01, ft_bb, ft_zt, ft_zf, ft_or0, ft_rv, ft_rvr, ft_rf, ft_rfn, ft_bI, ft_bJ, ft_bV, ft_bR, ft_bRn, ft_isr, ft_isn, ft_ifn, ft_ifr, ft_ov, ft_ovn, ft_in, k_sI, n_sI, R_sI, J_sI, c_sI, z_sI, k_sJ, n_sJ, R_sJ, I_sJ, c_sJ, z_sJ, k_sR, n_sR, I_sR, J_sR, c_sR, z_sR, k_wI, n_wI, R_wI, J_wI, I_wIe, k_wJ, n_wJ, R_wJ, I_wJ, J_wJe, I_wIn, J_wJn, I_sIe, J_sJe, R_sRe, I_sIn, I_sIk, J_sJn, J_sJk, R_sRn, R_sRk, eq_self, if_true, if_false, ↓reduceIte, cond_true, cond_false, ↓cond_eq_ite, and_true, true_and, and_false, false_and, or_true, true_or, or_false, false_or, not_true_eq_false, not_false_eq_true, ft_ltT, ft_ltF, ft_eqT, ft_eqF, Bool.false_eq_true, Bool.true_eq_false, Bool.not_true, Bool.not_false, Bool.and_true, Bool.true_and, Bool.and_false, Bool.false_and, decide_true, decide_false, Nat.reduceAdd, Nat.reduceMul, Nat.reduceSub, Nat.reduceEqDiff, Nat.reduceLT, Nat.zero_add, Nat.add_zero, Nat.reduceDiv, Nat.reduceMod, sm_k85 S, sm_R85_1 S, ↓sm_v85_1 S, sm_R85_2 S, ↓sm_v85_2 S, sm_R85_3 S, ↓sm_v85_3 S, sm_R85_4 S, ↓sm_v85_4 S, sm_R85_5 S, ↓sm_v85_5 S, sm_R85_7 S, ↓sm_v85_7 S, sm_R85_11 S, ↓sm_v85_11 S, sm_R85_12 S, ↓sm_v85_12 S, sm_R85_15 S, ↓sm_v85_15 S, sm_R85_16 S, ↓sm_v85_16 S, sm_R85_17 S, ↓sm_v85_17 S, sm_R85_26 S, ↓sm_v85_26 S, sm_R85_29 S, ↓sm_v85_29 S, sm_R85_30 S, ↓sm_v85_30 S, sm_R85_32 S, ↓sm_v85_32 S, sm_R85_33 S, ↓sm_v85_33 S, sm_R85_34 S, ↓sm_v85_34 S, sm_R85_35 S, ↓sm_v85_35 S, sm_R85_36 S, ↓sm_v85_36 S, sm_R85_37 S, ↓sm_v85_37 S, sm_R85_38 S, ↓sm_v85_38 S, sm_R85_40 S, ↓sm_v85_40 S, sm_R85_41 S, ↓sm_v85_41 S, sm_R85_48 S, ↓sm_v85_48 S, sm_R85_49 S, ↓sm_v85_49 S, sm_k86 S, sm_n86 S, sm_k87 S, sm_n87 S, sm_k88 S, sm_n88 S, sm_k89 S, sm_n89 S, sm_k90 S, sm_n90 S, sm_k91 S, sm_n91 S, sm_k92 S, sm_n92 S, sm_k93 S, sm_n93 S, sm_k94 S, sm_n94 S, sm_k95 S, sm_n95 S, sm_k96 S, sm_n96 S, sm_k97 S, sm_n97 S, sm_k98 S, sm_n98 S, sm_k99 S, sm_n99 S, sm_k100 S, sm_n100 S, sm_k101 S, sm_n101 S, sm_k102 S, sm_n102 S, sm_k103 S, sm_n103 S, sm_k104 S, sm_n104 S, sm_k105 S, sm_n105 S, sm_k106 S, sm_n106 S, sm_k107 S, sm_n107 S, sm_k108 S, sm_n108 S, sm_k109 S, sm_n109 S, sm_k110 S, sm_n110 S, hE_k, hE_22, hE_24, ↓M_sign_b, ↓p0, ↓r1, ↓r2, ↓ca1, hE_sg]
theorem E_nl {F : Nat × Nat} {h : jH} {T : Tk} {j0 n : Nat} {od : Bool} (H : EM h T j0 n od) {e : Ev} {rc : Nat → List Value → jH → Option jO} {G : Ps → Rt} (hrc : Et h n j0 e (fun x => rc 189 [.ref 85, .int x]) G) (live b : Bool) : ∀ f g (nb : Bool) (t l : Nat), t ≤ n → n < t + f → n < t + g → (G (h_nl T f nb (true, t, l)).2).1.1 = true → ∃ r : Bool, m_M_plainOf_2 F rc g 85 (nI (ft_z live)) (nI (ft_z nb)) (hE h j0 t b) = some (some (.int (nI (ft_z r))), hE h j0 (G (h_nl T f nb (true, t, l)).2).1.2.1 (hbk live b ((G (h_nl T f nb (true, t, l)).2).2.2 e).isNone)) ∧ (live = true → b = false → ∀ v, (G (h_nl T f nb (true, t, l)).2).2.2 e = some v → r = (v != (h_nl T f nb (true, t, l)).1))
  | 0, g, nb, t, l, h1, h3, h4, hok => absurd h3 (by omega)
  | f + 1, 0, nb, t, l, h1, h3, h4, hok => absurd h4 (by omega)
  | f + 1, g + 1, nb, t, l, h1, h3, h4, hok => by
    have hn : T.1 n = 0 := H.2.2.2.2.1 n (Nat.le_refl _)
    have hn4 := H.2.2.2.1
    have S := H.1
    unfold h_nl at hok ⊢
    by_cases q : T.1 t = 7
    · have hlt : t < n := by
        have : t ≠ n := fun z => by rw [z, hn] at q; omega
        omega
      have q1 : h_tk T 7 (true, t, l) = true := by unfold h_tk; simp [q]
      simp only [q1, if_true] at hok ⊢
      have a0 : h_adv (true, t, l) = (true, t + 1, l) := rfl
      rw [a0] at hok ⊢
      obtain ⟨r, ih, ih2⟩ := E_nl (F := F) H hrc live b f g (!nb) (t + 1) l hlt (by omega) (by omega) hok
      refine ⟨r, ?_, ih2⟩
      rw [← ih]
      have p0 := E_p1_b (F := F) H (c := 7) (by omega) (g := t) (by omega) b q
      cases nb <;> simp (disch := first | exact sR_rfl _ _ rfl | omega) only [q_M_plainOf_2, ft_lit, ft_m1, ft_m2, ft_m3, ft_m5, ft_m6, ft_cl, ft_lt, ft_le, ft_eq, ft_mlt, ft_ltm, ft_mltm, ft_meq, ft_eqm, ft_meqm, ft_add, ft_mul, ft_sub, ft_nm, ft_m1p, ft_and, ft_or, ft_31, ft_shl, ft_shr, ft_bz, ft_z0, ft_z1, ft_z01, ft_bb, ft_zt, ft_zf, ft_or0, ft_rv, ft_rvr, ft_rf, ft_rfn, ft_bI, ft_bJ, ft_bV, ft_bR, ft_bRn, ft_isr, ft_isn, ft_ifn, ft_ifr, ft_ov, ft_ovn, ft_in, k_sI, n_sI, R_sI, J_sI, c_sI, z_sI, k_sJ, n_sJ, R_sJ, I_sJ, c_sJ, z_sJ, k_sR, n_sR, I_sR, J_sR, c_sR, z_sR, k_wI, n_wI, R_wI, J_wI, I_wIe, k_wJ, n_wJ, R_wJ, I_wJ, J_wJe, I_wIn, J_wJn, I_sIe, J_sJe, R_sRe, I_sIn, I_sIk, J_sJn, J_sJk, R_sRn, R_sRk, eq_self, if_true, if_false, ↓reduceIte, cond_true, cond_false, ↓cond_eq_ite, and_true, true_and, and_false, false_and, or_true, true_or, or_false, false_or, not_true_eq_false, not_false_eq_true, ft_ltT, ft_ltF, ft_eqT, ft_eqF, Bool.false_eq_true, Bool.true_eq_false, Bool.not_true, Bool.not_false, Bool.and_true, Bool.true_and, Bool.and_false, Bool.false_and, decide_true, decide_false, Nat.reduceAdd, Nat.reduceMul, Nat.reduceSub, Nat.reduceEqDiff, Nat.reduceLT, Nat.zero_add, Nat.add_zero, Nat.reduceDiv, Nat.reduceMod, sm_k85 S, sm_R85_1 S, ↓sm_v85_1 S, sm_R85_2 S, ↓sm_v85_2 S, sm_R85_3 S, ↓sm_v85_3 S, sm_R85_4 S, ↓sm_v85_4 S, sm_R85_5 S, ↓sm_v85_5 S, sm_R85_7 S, ↓sm_v85_7 S, sm_R85_11 S, ↓sm_v85_11 S, sm_R85_12 S, ↓sm_v85_12 S, sm_R85_15 S, ↓sm_v85_15 S, sm_R85_16 S, ↓sm_v85_16 S, sm_R85_17 S, ↓sm_v85_17 S, sm_R85_26 S, ↓sm_v85_26 S, sm_R85_29 S, ↓sm_v85_29 S, sm_R85_30 S, ↓sm_v85_30 S, sm_R85_32 S, ↓sm_v85_32 S, sm_R85_33 S, ↓sm_v85_33 S, sm_R85_34 S, ↓sm_v85_34 S, sm_R85_35 S, ↓sm_v85_35 S, sm_R85_36 S, ↓sm_v85_36 S, sm_R85_37 S, ↓sm_v85_37 S, sm_R85_38 S, ↓sm_v85_38 S, sm_R85_40 S, ↓sm_v85_40 S, sm_R85_41 S, ↓sm_v85_41 S, sm_R85_48 S, ↓sm_v85_48 S, sm_R85_49 S, ↓sm_v85_49 S, sm_k86 S, sm_n86 S, sm_k87 S, sm_n87 S, sm_k88 S, sm_n88 S, sm_k89 S, sm_n89 S, sm_k90 S, sm_n90 S, sm_k91 S, sm_n91 S, sm_k92 S, sm_n92 S, sm_k93 S, sm_n93 S, sm_k94 S, sm_n94 S, sm_k95 S, sm_n95 S, sm_k96 S, sm_n96 S, sm_k97 S, sm_n97 S, sm_k98 S, sm_n98 S, sm_k99 S, sm_n99 S, sm_k100 S, sm_n100 S, sm_k101 S, sm_n101 S, sm_k102 S, sm_n102 S, sm_k103 S, sm_n103 S, sm_k104 S, sm_n104 S, sm_k105 S, sm_n105 S, sm_k106 S, sm_n106 S, sm_k107 S, sm_n107 S, sm_k108 S, sm_n108 S, sm_k109 S, sm_n109 S, sm_k110 S, sm_n110 S, hE_k, ↓p0]
    · have q1 : h_tk T 7 (true, t, l) = false := by unfold h_tk; simp [q]
      simp only [q1, Bool.false_eq_true, if_false] at hok ⊢
      obtain ⟨r, r1, r2⟩ := hrc t l live b h1 hok
      refine ⟨r != nb, ?_, fun l1 l2 v hv => by rw [r2 l1 l2 v hv]⟩
      have r0 := bI_of r1
      have p0 := E_p0_b (F := F) H (c := 7) (by omega) (g := t) (by omega) b q
      cases nb <;> cases r <;> simp (disch := first | exact sR_rfl _ _ rfl | omega) only [q_M_plainOf_2, ft_lit, ft_m1, ft_m2, ft_m3, ft_m5, ft_m6, ft_cl, ft_lt, ft_le, ft_eq, ft_mlt, ft_ltm, ft_mltm, ft_meq, ft_eqm, ft_meqm, ft_add, ft_mul, ft_sub, ft_nm, ft_m1p, ft_and, ft_or, ft_31, ft_shl, ft_shr, ft_bz, ft_z0, ft_z1, ft_z01, ft_bb, ft_zt, ft_zf, ft_or0, ft_rv, ft_rvr, ft_rf, ft_rfn, ft_bI, ft_bJ, ft_bV, ft_bR, ft_bRn, ft_isr, ft_isn, ft_ifn, ft_ifr, ft_ov, ft_ovn, ft_in, k_sI, n_sI, R_sI, J_sI, c_sI, z_sI, k_sJ, n_sJ, R_sJ, I_sJ, c_sJ, z_sJ, k_sR, n_sR, I_sR, J_sR, c_sR, z_sR, k_wI, n_wI, R_wI, J_wI, I_wIe, k_wJ, n_wJ, R_wJ, I_wJ, J_wJe, I_wIn, J_wJn, I_sIe, J_sJe, R_sRe, I_sIn, I_sIk, J_sJn, J_sJk, R_sRn, R_sRk, eq_self, if_true, if_false, ↓reduceIte, cond_true, cond_false, ↓cond_eq_ite, and_true, true_and, and_false, false_and, or_true, true_or, or_false, false_or, not_true_eq_false, not_false_eq_true, ft_ltT, ft_ltF, ft_eqT, ft_eqF, Bool.false_eq_true, Bool.true_eq_false, Bool.not_true, Bool.not_false, Bool.and_true, Bool.true_and, Bool.and_false, Bool.false_and, decide_true, decide_false, Nat.reduceAdd, Nat.reduceMul, Nat.reduceSub, Nat.reduceEqDiff, Nat.reduceLT, Nat.zero_add, Nat.add_zero, Nat.reduceDiv, Nat.reduceMod, sm_k85 S, sm_R85_1 S, ↓sm_v85_1 S, sm_R85_2 S, ↓sm_v85_2 S, sm_R85_3 S, ↓sm_v85_3 S, sm_R85_4 S, ↓sm_v85_4 S, sm_R85_5 S, ↓sm_v85_5 S, sm_R85_7 S, ↓sm_v85_7 S, sm_R85_11 S, ↓sm_v85_11 S, sm_R85_12 S, ↓sm_v85_12 S, sm_R85_15 S, ↓sm_v85_15 S, sm_R85_16 S, ↓sm_v85_16 S, sm_R85_17 S, ↓sm_v85_17 S, sm_R85_26 S, ↓sm_v85_26 S, sm_R85_29 S, ↓sm_v85_29 S, sm_R85_30 S, ↓sm_v85_30 S, sm_R85_32 S, ↓sm_v85_32 S, sm_R85_33 S, ↓sm_v85_33 S, sm_R85_34 S, ↓sm_v85_34 S, sm_R85_35 S, ↓sm_v85_35 S, sm_R85_36 S, ↓sm_v85_36 S, sm_R85_37 S, ↓sm_v85_37 S, sm_R85_38 S, ↓sm_v85_38 S, sm_R85_40 S, ↓sm_v85_40 S, sm_R85_41 S, ↓sm_v85_41 S, sm_R85_48 S, ↓sm_v85_48 S, sm_R85_49 S, ↓sm_v85_49 S, sm_k86 S, sm_n86 S, sm_k87 S, sm_n87 S, sm_k88 S, sm_n88 S, sm_k89 S, sm_n89 S, sm_k90 S, sm_n90 S, sm_k91 S, sm_n91 S, sm_k92 S, sm_n92 S, sm_k93 S, sm_n93 S, sm_k94 S, sm_n94 S, sm_k95 S, sm_n95 S, sm_k96 S, sm_n96 S, sm_k97 S, sm_n97 S, sm_k98 S, sm_n98 S, sm_k99 S, sm_n99 S, sm_k100 S, sm_n100 S, sm_k101 S, sm_n101 S, sm_k102 S, sm_n102 S, sm_k103 S, sm_n103 S, sm_k104 S, sm_n104 S, sm_k105 S, sm_n105 S, sm_k106 S, sm_n106 S, sm_k107 S, sm_n107 S, sm_k108 S, sm_n108 S, sm_k109 S, sm_n109 S, sm_k110 S, sm_n110 S, hE_k, ↓p0, ↓r0, bne_self_eq_false, Bool.bne_true, Bool.bne_false, Bool.true_bne, Bool.false_bne]
theorem E_plain {F : Nat × Nat} (hF : FF F) {h : jH} {T : Tk} {j0 n : Nat} {od : Bool} (H : EM h T j0 n od) {e : Ev} (h4 : n ≤ 400) {rc : Nat → List Value → jH → Option jO} {d : Nat} (hrc : Et h n j0 e (fun x => rc 189 [.ref 85, .int x]) (h_posi T od (h_testr T od d) d)) : Et h n j0 e (m_M_plainOf_r F rc 85) (h_plain T od (h_testr T od d) d) := by
  intro t l live b ht hok
  have hf := hF.1
  obtain ⟨r, r1, r2⟩ := E_nl (F := F) H hrc live b hN F.1 false t l ht (by unfold hN; omega) (by omega) hok
  refine ⟨r, ?_, ?_⟩
  · rw [q_M_plainOf_r]
    rw [show nI 0 = nI (ft_z false) from rfl, r1]
    unfold h_plain
    simp only [Option.isNone_map]
  · intro l1 l2 v hv
    unfold h_plain at hv
    simp only [Option.map_eq_some_iff] at hv
    obtain ⟨w, hw, rfl⟩ := hv
    exact r2 l1 l2 w hw
theorem h_bl_f {T : Tk} {od : Bool} {rec : Option (Ps → Rt)} {d f : Nat} {x : Rt} (h : (h_bl T od rec d f x).1.1 = true) : x.1.1 = true := by
  cases f with
  | zero => exact h
  | succ f =>
    unfold h_bl at h
    split at h
    · rename_i e
      exact h_tk_1 e
    · exact h
theorem h_ol_f {T : Tk} {od : Bool} {rec : Option (Ps → Rt)} {d f : Nat} {x : Rt} (h : (h_ol T od rec d f x).1.1 = true) : x.1.1 = true := by
  cases f with
  | zero => exact h
  | succ f =>
    unfold h_ol at h
    split at h
    · rename_i e
      exact h_tk_1 e
    · exact h
theorem hb_and {live b v : Bool} {x y : Option Bool} (h : live = true → b = false → ∀ w, x = some w → v = w) : hbk (live && v) (hbk live b x.isNone) y.isNone = hbk live b (h_both2 true x y).isNone := by
  cases live
  · cases b <;> simp [hbk]
  · cases b
    · cases x with
      | none => simp [hbk, h_both2]
      | some w =>
        rw [h rfl rfl w rfl]
        cases w <;> simp [hbk, h_both2]
    · simp [hbk]
theorem hb_or {live b v : Bool} {x y : Option Bool} (h : live = true → b = false → ∀ w, x = some w → v = w) : hbk (live && !v) (hbk live b x.isNone) y.isNone = hbk live b (h_both2 false x y).isNone := by
  cases live
  · cases b <;> simp [hbk]
  · cases b
    · cases x with
      | none => simp [hbk, h_both2]
      | some w =>
        rw [h rfl rfl w rfl]
        cases w <;> simp [hbk, h_both2]
    · simp [hbk]
theorem E_bl {F : Nat × Nat} {h : jH} {T : Tk} {j0 n : Nat} {od : Bool} (H : EM h T j0 n od) {e : Ev} {rc : Nat → List Value → jH → Option jO} {d : Nat} (hrc : Et h n j0 e (fun x => rc 188 [.ref 85, .int x]) (h_plain T od (h_testr T od d) d)) (live b : Bool) : ∀ f g (x : Rt) (v : Bool), x.1.2.1 ≤ n → n < x.1.2.1 + f → n < x.1.2.1 + g → (h_bl T od (h_testr T od d) d f x).1.1 = true → (live = true → b = false → ∀ w, x.2.2 e = some w → v = w) → ∃ r : Bool, m_M_bothOf_6 F rc g 85 (nI (ft_z live)) (nI (ft_z v)) (hE h j0 x.1.2.1 (hbk live b (x.2.2 e).isNone)) = some (some (.int (nI (ft_z r))), hE h j0 (h_bl T od (h_testr T od d) d f x).1.2.1 (hbk live b ((h_bl T od (h_testr T od d) d f x).2.2 e).isNone)) ∧ (live = true → b = false → ∀ w, (h_bl T od (h_testr T od d) d f x).2.2 e = some w → r = w)
  | 0, g, x, v, h1, h3, h4, hok, hv => absurd h3 (by omega)
  | f + 1, 0, x, v, h1, h3, h4, hok, hv => absurd h4 (by omega)
  | f + 1, g + 1, x, v, h1, h3, h4, hok, hv => by
    have h0 := h_bl_f hok
    obtain ⟨⟨bx, t, l⟩, cd, dn⟩ := x
    simp only at h0 h1 h3 h4 hv ⊢
    subst h0
    have hn : T.1 n = 0 := H.2.2.2.2.1 n (Nat.le_refl _)
    have hn4 := H.2.2.2.1
    have S := H.1
    unfold h_bl at hok ⊢
    by_cases q : T.1 t = 6
    · have hlt : t < n := by
        have : t ≠ n := fun z => by rw [z, hn] at q; omega
        omega
      have q1 : h_tk T 6 (true, t, l) = true := by unfold h_tk; simp [q]
      simp only [q1, if_true] at hok ⊢
      have a0 : h_adv (true, t, l) = (true, t + 1, l) := rfl
      simp only [a0] at hok ⊢
      have k1 := h_plain_ok (od := od) (d := d) hn (h_testr_ok (od := od) hn d) (s := (true, t + 1, l)) hlt
      have ok0 := h_bl_f hok
      have ok1 : (h_plain T od (h_testr T od d) d (true, t + 1, l)).1.1 = true := ok0
      have h5 := (k1.2 ok1).2
      simp only at h5
      obtain ⟨r, r1, r2⟩ := hrc (t + 1) l (live && v) (hbk live b (dn e).isNone) hlt ok1
      rw [hb_and hv] at r1
      obtain ⟨r', ih, ih2⟩ := E_bl (F := F) H hrc live b f g ((h_plain T od (h_testr T od d) d (true, t + 1, l)).1, h_skip 4 cd (h_plain T od (h_testr T od d) d (true, t + 1, l)).2.1, fun e => h_both2 true (dn e) ((h_plain T od (h_testr T od d) d (true, t + 1, l)).2.2 e)) (v && r) k1.1 (by show n < (h_plain T od (h_testr T od d) d (true, t + 1, l)).1.2.1 + f; omega) (by show n < (h_plain T od (h_testr T od d) d (true, t + 1, l)).1.2.1 + g; omega) hok (by
        intro l1 l2 w hw
        simp only at hw
        cases hd : dn e with
        | none => rw [hd] at hw; simp [h_both2] at hw
        | some u =>
          have hu := hv l1 l2 u hd
          rw [hd] at hw
          cases u
          · simp [h_both2] at hw
            rw [hu, hw]
            rfl
          · simp only [h_both2, if_true] at hw
            rw [hu, r2 (by rw [l1, hu]; rfl) (by rw [l1, l2, hd]; rfl) w hw]
            rfl)
      refine ⟨r', ?_, ih2⟩
      rw [← ih]
      simp only
      have r0 := bI_of r1
      have p0 := E_p1_b (F := F) H (c := 6) (by omega) (g := t) (by omega) (hbk live b (dn e).isNone) q
      cases live <;> cases v <;> cases r <;> (simp only [Bool.and_false, Bool.and_true, Bool.false_and, Bool.true_and, ft_zf, ft_zt] at r0 ⊢; simp (disch := first | exact sR_rfl _ _ rfl | omega) only [q_M_bothOf_6, ft_lit, ft_m1, ft_m2, ft_m3, ft_m5, ft_m6, ft_cl, ft_lt, ft_le, ft_eq, ft_mlt, ft_ltm, ft_mltm, ft_meq, ft_eqm, ft_meqm, ft_add, ft_mul, ft_sub, ft_nm, ft_m1p, ft_and, ft_or, ft_31, ft_shl, ft_shr, ft_bz, ft_z0, ft_z1, ft_z01, ft_bb, ft_zt, ft_zf, ft_or0, ft_rv, ft_rvr, ft_rf, ft_rfn, ft_bI, ft_bJ, ft_bV, ft_bR, ft_bRn, ft_isr, ft_isn, ft_ifn, ft_ifr, ft_ov, ft_ovn, ft_in, k_sI, n_sI, R_sI, J_sI, c_sI, z_sI, k_sJ, n_sJ, R_sJ, I_sJ, c_sJ, z_sJ, k_sR, n_sR, I_sR, J_sR, c_sR, z_sR, k_wI, n_wI, R_wI, J_wI, I_wIe, k_wJ, n_wJ, R_wJ, I_wJ, J_wJe, I_wIn, J_wJn, I_sIe, J_sJe, R_sRe, I_sIn, I_sIk, J_sJn, J_sJk, R_sRn, R_sRk, eq_self, if_true, if_false, ↓reduceIte, cond_true, cond_false, ↓cond_eq_ite, and_true, true_and, and_false, false_and, or_true, true_or, or_false, false_or, not_true_eq_false, not_false_eq_true, ft_ltT, ft_ltF, ft_eqT, ft_eqF, Bool.false_eq_true, Bool.true_eq_false, Bool.not_true, Bool.not_false, Bool.and_true, Bool.true_and, Bool.and_false, Bool.false_and, decide_true, decide_false, Nat.reduceAdd, Nat.reduceMul, Nat.reduceSub, Nat.reduceEqDiff, Nat.reduceLT, Nat.zero_add, Nat.add_zero, Nat.reduceDiv, Nat.reduceMod, sm_k85 S, sm_R85_1 S, ↓sm_v85_1 S, sm_R85_2 S, ↓sm_v85_2 S, sm_R85_3 S, ↓sm_v85_3 S, sm_R85_4 S, ↓sm_v85_4 S, sm_R85_5 S, ↓sm_v85_5 S, sm_R85_7 S, ↓sm_v85_7 S, sm_R85_11 S, ↓sm_v85_11 S, sm_R85_12 S, ↓sm_v85_12 S, sm_R85_15 S, ↓sm_v85_15 S, sm_R85_16 S, ↓sm_v85_16 S, sm_R85_17 S, ↓sm_v85_17 S, sm_R85_26 S, ↓sm_v85_26 S, sm_R85_29 S, ↓sm_v85_29 S, sm_R85_30 S, ↓sm_v85_30 S, sm_R85_32 S, ↓sm_v85_32 S, sm_R85_33 S, ↓sm_v85_33 S, sm_R85_34 S, ↓sm_v85_34 S, sm_R85_35 S, ↓sm_v85_35 S, sm_R85_36 S, ↓sm_v85_36 S, sm_R85_37 S, ↓sm_v85_37 S, sm_R85_38 S, ↓sm_v85_38 S, sm_R85_40 S, ↓sm_v85_40 S, sm_R85_41 S, ↓sm_v85_41 S, sm_R85_48 S, ↓sm_v85_48 S, sm_R85_49 S, ↓sm_v85_49 S, sm_k86 S, sm_n86 S, sm_k87 S, sm_n87 S, sm_k88 S, sm_n88 S, sm_k89 S, sm_n89 S, sm_k90 S, sm_n90 S, sm_k91 S, sm_n91 S, sm_k92 S, sm_n92 S, sm_k93 S, sm_n93 S, sm_k94 S, sm_n94 S, sm_k95 S, sm_n95 S, sm_k96 S, sm_n96 S, sm_k97 S, sm_n97 S, sm_k98 S, sm_n98 S, sm_k99 S, sm_n99 S, sm_k100 S, sm_n100 S, sm_k101 S, sm_n101 S, sm_k102 S, sm_n102 S, sm_k103 S, sm_n103 S, sm_k104 S, sm_n104 S, sm_k105 S, sm_n105 S, sm_k106 S, sm_n106 S, sm_k107 S, sm_n107 S, sm_k108 S, sm_n108 S, sm_k109 S, sm_n109 S, sm_k110 S, sm_n110 S, hE_k, ↓p0, ↓r0])
    · have q1 : h_tk T 6 (true, t, l) = false := by unfold h_tk; simp [q]
      simp only [q1, Bool.false_eq_true, if_false] at hok ⊢
      refine ⟨v, ?_, hv⟩
      have p0 := E_p0_b (F := F) H (c := 6) (by omega) (g := t) (by omega) (hbk live b (dn e).isNone) q
      simp (disch := first | exact sR_rfl _ _ rfl | omega) only [q_M_bothOf_6, ft_lit, ft_m1, ft_m2, ft_m3, ft_m5, ft_m6, ft_cl, ft_lt, ft_le, ft_eq, ft_mlt, ft_ltm, ft_mltm, ft_meq, ft_eqm, ft_meqm, ft_add, ft_mul, ft_sub, ft_nm, ft_m1p, ft_and, ft_or, ft_31, ft_shl, ft_shr, ft_bz, ft_z0, ft_z1, ft_z01, ft_bb, ft_zt, ft_zf, ft_or0, ft_rv, ft_rvr, ft_rf, ft_rfn, ft_bI, ft_bJ, ft_bV, ft_bR, ft_bRn, ft_isr, ft_isn, ft_ifn, ft_ifr, ft_ov, ft_ovn, ft_in, k_sI, n_sI, R_sI, J_sI, c_sI, z_sI, k_sJ, n_sJ, R_sJ, I_sJ, c_sJ, z_sJ, k_sR, n_sR, I_sR, J_sR, c_sR, z_sR, k_wI, n_wI, R_wI, J_wI, I_wIe, k_wJ, n_wJ, R_wJ, I_wJ, J_wJe, I_wIn, J_wJn, I_sIe, J_sJe, R_sRe, I_sIn, I_sIk, J_sJn, J_sJk, R_sRn, R_sRk, eq_self, if_true, if_false, ↓reduceIte, cond_true, cond_false, ↓cond_eq_ite, and_true, true_and, and_false, false_and, or_true, true_or, or_false, false_or, not_true_eq_false, not_false_eq_true, ft_ltT, ft_ltF, ft_eqT, ft_eqF, Bool.false_eq_true, Bool.true_eq_false, Bool.not_true, Bool.not_false, Bool.and_true, Bool.true_and, Bool.and_false, Bool.false_and, decide_true, decide_false, Nat.reduceAdd, Nat.reduceMul, Nat.reduceSub, Nat.reduceEqDiff, Nat.reduceLT, Nat.zero_add, Nat.add_zero, Nat.reduceDiv, Nat.reduceMod, sm_k85 S, sm_R85_1 S, ↓sm_v85_1 S, sm_R85_2 S, ↓sm_v85_2 S, sm_R85_3 S, ↓sm_v85_3 S, sm_R85_4 S, ↓sm_v85_4 S, sm_R85_5 S, ↓sm_v85_5 S, sm_R85_7 S, ↓sm_v85_7 S, sm_R85_11 S, ↓sm_v85_11 S, sm_R85_12 S, ↓sm_v85_12 S, sm_R85_15 S, ↓sm_v85_15 S, sm_R85_16 S, ↓sm_v85_16 S, sm_R85_17 S, ↓sm_v85_17 S, sm_R85_26 S, ↓sm_v85_26 S, sm_R85_29 S, ↓sm_v85_29 S, sm_R85_30 S, ↓sm_v85_30 S, sm_R85_32 S, ↓sm_v85_32 S, sm_R85_33 S, ↓sm_v85_33 S, sm_R85_34 S, ↓sm_v85_34 S, sm_R85_35 S, ↓sm_v85_35 S, sm_R85_36 S, ↓sm_v85_36 S, sm_R85_37 S, ↓sm_v85_37 S, sm_R85_38 S, ↓sm_v85_38 S, sm_R85_40 S, ↓sm_v85_40 S, sm_R85_41 S, ↓sm_v85_41 S, sm_R85_48 S, ↓sm_v85_48 S, sm_R85_49 S, ↓sm_v85_49 S, sm_k86 S, sm_n86 S, sm_k87 S, sm_n87 S, sm_k88 S, sm_n88 S, sm_k89 S, sm_n89 S, sm_k90 S, sm_n90 S, sm_k91 S, sm_n91 S, sm_k92 S, sm_n92 S, sm_k93 S, sm_n93 S, sm_k94 S, sm_n94 S, sm_k95 S, sm_n95 S, sm_k96 S, sm_n96 S, sm_k97 S, sm_n97 S, sm_k98 S, sm_n98 S, sm_k99 S, sm_n99 S, sm_k100 S, sm_n100 S, sm_k101 S, sm_n101 S, sm_k102 S, sm_n102 S, sm_k103 S, sm_n103 S, sm_k104 S, sm_n104 S, sm_k105 S, sm_n105 S, sm_k106 S, sm_n106 S, sm_k107 S, sm_n107 S, sm_k108 S, sm_n108 S, sm_k109 S, sm_n109 S, sm_k110 S, sm_n110 S, hE_k, ↓p0]
theorem E_both {F : Nat × Nat} (hF : FF F) {h : jH} {T : Tk} {j0 n : Nat} {od : Bool} (H : EM h T j0 n od) {e : Ev} (h4 : n ≤ 400) {rc : Nat → List Value → jH → Option jO} {d : Nat} (hrc : Et h n j0 e (fun x => rc 188 [.ref 85, .int x]) (h_plain T od (h_testr T od d) d)) : Et h n j0 e (m_M_bothOf_r F rc 85) (h_both T od (h_testr T od d) d) := by
  intro t l live b ht hok
  have hn : T.1 n = 0 := H.2.2.2.2.1 n (Nat.le_refl _)
  have hf := hF.1
  have S := H.1
  have ok1 : (h_plain T od (h_testr T od d) d (true, t, l)).1.1 = true := h_bl_f hok
  have k1 := h_plain_ok (od := od) (d := d) hn (h_testr_ok (od := od) hn d) (s := (true, t, l)) ht
  obtain ⟨r, r1, r2⟩ := hrc t l live b ht ok1
  obtain ⟨r', ih, ih2⟩ := E_bl (F := F) H hrc live b hN F.1 (h_plain T od (h_testr T od d) d (true, t, l)) r k1.1 (by unfold hN; omega) (by omega) hok r2
  refine ⟨r', ?_, ih2⟩
  have r0 := bI_of r1
  unfold h_both
  rw [← ih]
  simp (disch := first | exact sR_rfl _ _ rfl | omega) only [q_M_bothOf_r, ft_lit, ft_m1, ft_m2, ft_m3, ft_m5, ft_m6, ft_cl, ft_lt, ft_le, ft_eq, ft_mlt, ft_ltm, ft_mltm, ft_meq, ft_eqm, ft_meqm, ft_add, ft_mul, ft_sub, ft_nm, ft_m1p, ft_and, ft_or, ft_31, ft_shl, ft_shr, ft_bz, ft_z0, ft_z1, ft_z01, ft_bb, ft_zt, ft_zf, ft_or0, ft_rv, ft_rvr, ft_rf, ft_rfn, ft_bI, ft_bJ, ft_bV, ft_bR, ft_bRn, ft_isr, ft_isn, ft_ifn, ft_ifr, ft_ov, ft_ovn, ft_in, k_sI, n_sI, R_sI, J_sI, c_sI, z_sI, k_sJ, n_sJ, R_sJ, I_sJ, c_sJ, z_sJ, k_sR, n_sR, I_sR, J_sR, c_sR, z_sR, k_wI, n_wI, R_wI, J_wI, I_wIe, k_wJ, n_wJ, R_wJ, I_wJ, J_wJe, I_wIn, J_wJn, I_sIe, J_sJe, R_sRe, I_sIn, I_sIk, J_sJn, J_sJk, R_sRn, R_sRk, eq_self, if_true, if_false, ↓reduceIte, cond_true, cond_false, ↓cond_eq_ite, and_true, true_and, and_false, false_and, or_true, true_or, or_false, false_or, not_true_eq_false, not_false_eq_true, ft_ltT, ft_ltF, ft_eqT, ft_eqF, Bool.false_eq_true, Bool.true_eq_false, Bool.not_true, Bool.not_false, Bool.and_true, Bool.true_and, Bool.and_false, Bool.false_and, decide_true, decide_false, Nat.reduceAdd, Nat.reduceMul, Nat.reduceSub, Nat.reduceEqDiff, Nat.reduceLT, Nat.zero_add, Nat.add_zero, Nat.reduceDiv, Nat.reduceMod, sm_k85 S, sm_R85_1 S, ↓sm_v85_1 S, sm_R85_2 S, ↓sm_v85_2 S, sm_R85_3 S, ↓sm_v85_3 S, sm_R85_4 S, ↓sm_v85_4 S, sm_R85_5 S, ↓sm_v85_5 S, sm_R85_7 S, ↓sm_v85_7 S, sm_R85_11 S, ↓sm_v85_11 S, sm_R85_12 S, ↓sm_v85_12 S, sm_R85_15 S, ↓sm_v85_15 S, sm_R85_16 S, ↓sm_v85_16 S, sm_R85_17 S, ↓sm_v85_17 S, sm_R85_26 S, ↓sm_v85_26 S, sm_R85_29 S, ↓sm_v85_29 S, sm_R85_30 S, ↓sm_v85_30 S, sm_R85_32 S, ↓sm_v85_32 S, sm_R85_33 S, ↓sm_v85_33 S, sm_R85_34 S, ↓sm_v85_34 S, sm_R85_35 S, ↓sm_v85_35 S, sm_R85_36 S, ↓sm_v85_36 S, sm_R85_37 S, ↓sm_v85_37 S, sm_R85_38 S, ↓sm_v85_38 S, sm_R85_40 S, ↓sm_v85_40 S, sm_R85_41 S, ↓sm_v85_41 S, sm_R85_48 S, ↓sm_v85_48 S, sm_R85_49 S, ↓sm_v85_49 S, sm_k86 S, sm_n86 S, sm_k87 S, sm_n87 S, sm_k88 S, sm_n88 S, sm_k89 S, sm_n89 S, sm_k90 S, sm_n90 S, sm_k91 S, sm_n91 S, sm_k92 S, sm_n92 S, sm_k93 S, sm_n93 S, sm_k94 S, sm_n94 S, sm_k95 S, sm_n95 S, sm_k96 S, sm_n96 S, sm_k97 S, sm_n97 S, sm_k98 S, sm_n98 S, sm_k99 S, sm_n99 S, sm_k100 S, sm_n100 S, sm_k101 S, sm_n101 S, sm_k102 S, sm_n102 S, sm_k103 S, sm_n103 S, sm_k104 S, sm_n104 S, sm_k105 S, sm_n105 S, sm_k106 S, sm_n106 S, sm_k107 S, sm_n107 S, sm_k108 S, sm_n108 S, sm_k109 S, sm_n109 S, sm_k110 S, sm_n110 S, hE_k, ↓r0]
theorem E_ol {F : Nat × Nat} {h : jH} {T : Tk} {j0 n : Nat} {od : Bool} (H : EM h T j0 n od) {e : Ev} {rc : Nat → List Value → jH → Option jO} {d : Nat} (hrc : Et h n j0 e (fun x => rc 187 [.ref 85, .int x]) (h_both T od (h_testr T od d) d)) (live b : Bool) : ∀ f g (x : Rt) (v : Bool), x.1.2.1 ≤ n → n < x.1.2.1 + f → n < x.1.2.1 + g → (h_ol T od (h_testr T od d) d f x).1.1 = true → (live = true → b = false → ∀ w, x.2.2 e = some w → v = w) → ∃ r : Bool, m_M_testOf_6 F rc g 85 (nI (ft_z live)) (nI (ft_z v)) (hE h j0 x.1.2.1 (hbk live b (x.2.2 e).isNone)) = some (some (.int (nI (ft_z r))), hE h j0 (h_ol T od (h_testr T od d) d f x).1.2.1 (hbk live b ((h_ol T od (h_testr T od d) d f x).2.2 e).isNone)) ∧ (live = true → b = false → ∀ w, (h_ol T od (h_testr T od d) d f x).2.2 e = some w → r = w)
  | 0, g, x, v, h1, h3, h4, hok, hv => absurd h3 (by omega)
  | f + 1, 0, x, v, h1, h3, h4, hok, hv => absurd h4 (by omega)
  | f + 1, g + 1, x, v, h1, h3, h4, hok, hv => by
    have h0 := h_ol_f hok
    obtain ⟨⟨bx, t, l⟩, cd, dn⟩ := x
    simp only at h0 h1 h3 h4 hv ⊢
    subst h0
    have hn : T.1 n = 0 := H.2.2.2.2.1 n (Nat.le_refl _)
    have hn4 := H.2.2.2.1
    have S := H.1
    unfold h_ol at hok ⊢
    by_cases q : T.1 t = 5
    · have hlt : t < n := by
        have : t ≠ n := fun z => by rw [z, hn] at q; omega
        omega
      have q1 : h_tk T 5 (true, t, l) = true := by unfold h_tk; simp [q]
      simp only [q1, if_true] at hok ⊢
      have a0 : h_adv (true, t, l) = (true, t + 1, l) := rfl
      simp only [a0] at hok ⊢
      have k1 := h_both_ok (od := od) (d := d) hn (h_testr_ok (od := od) hn d) (s := (true, t + 1, l)) hlt
      have ok0 := h_ol_f hok
      have ok1 : (h_both T od (h_testr T od d) d (true, t + 1, l)).1.1 = true := ok0
      have h5 := (k1.2 ok1).2
      simp only at h5
      obtain ⟨r, r1, r2⟩ := hrc (t + 1) l (live && !v) (hbk live b (dn e).isNone) hlt ok1
      rw [hb_or hv] at r1
      obtain ⟨r', ih, ih2⟩ := E_ol (F := F) H hrc live b f g ((h_both T od (h_testr T od d) d (true, t + 1, l)).1, h_skip 5 cd (h_both T od (h_testr T od d) d (true, t + 1, l)).2.1, fun e => h_both2 false (dn e) ((h_both T od (h_testr T od d) d (true, t + 1, l)).2.2 e)) (v || r) k1.1 (by show n < (h_both T od (h_testr T od d) d (true, t + 1, l)).1.2.1 + f; omega) (by show n < (h_both T od (h_testr T od d) d (true, t + 1, l)).1.2.1 + g; omega) hok (by
        intro l1 l2 w hw
        simp only at hw
        cases hd : dn e with
        | none => rw [hd] at hw; simp [h_both2] at hw
        | some u =>
          have hu := hv l1 l2 u hd
          rw [hd] at hw
          cases u
          · simp only [h_both2, if_true] at hw
            rw [hu, r2 (by rw [l1, hu]; rfl) (by rw [l1, l2, hd]; rfl) w hw]
            rfl
          · simp [h_both2] at hw
            rw [hu, hw]
            rfl)
      refine ⟨r', ?_, ih2⟩
      rw [← ih]
      simp only
      have r0 := bI_of r1
      have p0 := E_p1_b (F := F) H (c := 5) (by omega) (g := t) (by omega) (hbk live b (dn e).isNone) q
      cases live <;> cases v <;> cases r <;> (simp only [Bool.and_false, Bool.and_true, Bool.false_and, Bool.true_and, Bool.not_true, Bool.not_false, Bool.or_false, Bool.or_true, Bool.false_or, Bool.true_or, ft_zf, ft_zt] at r0 ⊢; simp (disch := first | exact sR_rfl _ _ rfl | omega) only [q_M_testOf_6, ft_lit, ft_m1, ft_m2, ft_m3, ft_m5, ft_m6, ft_cl, ft_lt, ft_le, ft_eq, ft_mlt, ft_ltm, ft_mltm, ft_meq, ft_eqm, ft_meqm, ft_add, ft_mul, ft_sub, ft_nm, ft_m1p, ft_and, ft_or, ft_31, ft_shl, ft_shr, ft_bz, ft_z0, ft_z1, ft_z01, ft_bb, ft_zt, ft_zf, ft_or0, ft_rv, ft_rvr, ft_rf, ft_rfn, ft_bI, ft_bJ, ft_bV, ft_bR, ft_bRn, ft_isr, ft_isn, ft_ifn, ft_ifr, ft_ov, ft_ovn, ft_in, k_sI, n_sI, R_sI, J_sI, c_sI, z_sI, k_sJ, n_sJ, R_sJ, I_sJ, c_sJ, z_sJ, k_sR, n_sR, I_sR, J_sR, c_sR, z_sR, k_wI, n_wI, R_wI, J_wI, I_wIe, k_wJ, n_wJ, R_wJ, I_wJ, J_wJe, I_wIn, J_wJn, I_sIe, J_sJe, R_sRe, I_sIn, I_sIk, J_sJn, J_sJk, R_sRn, R_sRk, eq_self, if_true, if_false, ↓reduceIte, cond_true, cond_false, ↓cond_eq_ite, and_true, true_and, and_false, false_and, or_true, true_or, or_false, false_or, not_true_eq_false, not_false_eq_true, ft_ltT, ft_ltF, ft_eqT, ft_eqF, Bool.false_eq_true, Bool.true_eq_false, Bool.not_true, Bool.not_false, Bool.and_true, Bool.true_and, Bool.and_false, Bool.false_and, decide_true, decide_false, Nat.reduceAdd, Nat.reduceMul, Nat.reduceSub, Nat.reduceEqDiff, Nat.reduceLT, Nat.zero_add, Nat.add_zero, Nat.reduceDiv, Nat.reduceMod, sm_k85 S, sm_R85_1 S, ↓sm_v85_1 S, sm_R85_2 S, ↓sm_v85_2 S, sm_R85_3 S, ↓sm_v85_3 S, sm_R85_4 S, ↓sm_v85_4 S, sm_R85_5 S, ↓sm_v85_5 S, sm_R85_7 S, ↓sm_v85_7 S, sm_R85_11 S, ↓sm_v85_11 S, sm_R85_12 S, ↓sm_v85_12 S, sm_R85_15 S, ↓sm_v85_15 S, sm_R85_16 S, ↓sm_v85_16 S, sm_R85_17 S, ↓sm_v85_17 S, sm_R85_26 S, ↓sm_v85_26 S, sm_R85_29 S, ↓sm_v85_29 S, sm_R85_30 S, ↓sm_v85_30 S, sm_R85_32 S, ↓sm_v85_32 S, sm_R85_33 S, ↓sm_v85_33 S, sm_R85_34 S, ↓sm_v85_34 S, sm_R85_35 S, ↓sm_v85_35 S, sm_R85_36 S, ↓sm_v85_36 S, sm_R85_37 S, ↓sm_v85_37 S, sm_R85_38 S, ↓sm_v85_38 S, sm_R85_40 S, ↓sm_v85_40 S, sm_R85_41 S, ↓sm_v85_41 S, sm_R85_48 S, ↓sm_v85_48 S, sm_R85_49 S, ↓sm_v85_49 S, sm_k86 S, sm_n86 S, sm_k87 S, sm_n87 S, sm_k88 S, sm_n88 S, sm_k89 S, sm_n89 S, sm_k90 S, sm_n90 S, sm_k91 S, sm_n91 S, sm_k92 S, sm_n92 S, sm_k93 S, sm_n93 S, sm_k94 S, sm_n94 S, sm_k95 S, sm_n95 S, sm_k96 S, sm_n96 S, sm_k97 S, sm_n97 S, sm_k98 S, sm_n98 S, sm_k99 S, sm_n99 S, sm_k100 S, sm_n100 S, sm_k101 S, sm_n101 S, sm_k102 S, sm_n102 S, sm_k103 S, sm_n103 S, sm_k104 S, sm_n104 S, sm_k105 S, sm_n105 S, sm_k106 S, sm_n106 S, sm_k107 S, sm_n107 S, sm_k108 S, sm_n108 S, sm_k109 S, sm_n109 S, sm_k110 S, sm_n110 S, hE_k, ↓p0, ↓r0])
    · have q1 : h_tk T 5 (true, t, l) = false := by unfold h_tk; simp [q]
      simp only [q1, Bool.false_eq_true, if_false] at hok ⊢
      refine ⟨v, ?_, hv⟩
      have p0 := E_p0_b (F := F) H (c := 5) (by omega) (g := t) (by omega) (hbk live b (dn e).isNone) q
      simp (disch := first | exact sR_rfl _ _ rfl | omega) only [q_M_testOf_6, ft_lit, ft_m1, ft_m2, ft_m3, ft_m5, ft_m6, ft_cl, ft_lt, ft_le, ft_eq, ft_mlt, ft_ltm, ft_mltm, ft_meq, ft_eqm, ft_meqm, ft_add, ft_mul, ft_sub, ft_nm, ft_m1p, ft_and, ft_or, ft_31, ft_shl, ft_shr, ft_bz, ft_z0, ft_z1, ft_z01, ft_bb, ft_zt, ft_zf, ft_or0, ft_rv, ft_rvr, ft_rf, ft_rfn, ft_bI, ft_bJ, ft_bV, ft_bR, ft_bRn, ft_isr, ft_isn, ft_ifn, ft_ifr, ft_ov, ft_ovn, ft_in, k_sI, n_sI, R_sI, J_sI, c_sI, z_sI, k_sJ, n_sJ, R_sJ, I_sJ, c_sJ, z_sJ, k_sR, n_sR, I_sR, J_sR, c_sR, z_sR, k_wI, n_wI, R_wI, J_wI, I_wIe, k_wJ, n_wJ, R_wJ, I_wJ, J_wJe, I_wIn, J_wJn, I_sIe, J_sJe, R_sRe, I_sIn, I_sIk, J_sJn, J_sJk, R_sRn, R_sRk, eq_self, if_true, if_false, ↓reduceIte, cond_true, cond_false, ↓cond_eq_ite, and_true, true_and, and_false, false_and, or_true, true_or, or_false, false_or, not_true_eq_false, not_false_eq_true, ft_ltT, ft_ltF, ft_eqT, ft_eqF, Bool.false_eq_true, Bool.true_eq_false, Bool.not_true, Bool.not_false, Bool.and_true, Bool.true_and, Bool.and_false, Bool.false_and, decide_true, decide_false, Nat.reduceAdd, Nat.reduceMul, Nat.reduceSub, Nat.reduceEqDiff, Nat.reduceLT, Nat.zero_add, Nat.add_zero, Nat.reduceDiv, Nat.reduceMod, sm_k85 S, sm_R85_1 S, ↓sm_v85_1 S, sm_R85_2 S, ↓sm_v85_2 S, sm_R85_3 S, ↓sm_v85_3 S, sm_R85_4 S, ↓sm_v85_4 S, sm_R85_5 S, ↓sm_v85_5 S, sm_R85_7 S, ↓sm_v85_7 S, sm_R85_11 S, ↓sm_v85_11 S, sm_R85_12 S, ↓sm_v85_12 S, sm_R85_15 S, ↓sm_v85_15 S, sm_R85_16 S, ↓sm_v85_16 S, sm_R85_17 S, ↓sm_v85_17 S, sm_R85_26 S, ↓sm_v85_26 S, sm_R85_29 S, ↓sm_v85_29 S, sm_R85_30 S, ↓sm_v85_30 S, sm_R85_32 S, ↓sm_v85_32 S, sm_R85_33 S, ↓sm_v85_33 S, sm_R85_34 S, ↓sm_v85_34 S, sm_R85_35 S, ↓sm_v85_35 S, sm_R85_36 S, ↓sm_v85_36 S, sm_R85_37 S, ↓sm_v85_37 S, sm_R85_38 S, ↓sm_v85_38 S, sm_R85_40 S, ↓sm_v85_40 S, sm_R85_41 S, ↓sm_v85_41 S, sm_R85_48 S, ↓sm_v85_48 S, sm_R85_49 S, ↓sm_v85_49 S, sm_k86 S, sm_n86 S, sm_k87 S, sm_n87 S, sm_k88 S, sm_n88 S, sm_k89 S, sm_n89 S, sm_k90 S, sm_n90 S, sm_k91 S, sm_n91 S, sm_k92 S, sm_n92 S, sm_k93 S, sm_n93 S, sm_k94 S, sm_n94 S, sm_k95 S, sm_n95 S, sm_k96 S, sm_n96 S, sm_k97 S, sm_n97 S, sm_k98 S, sm_n98 S, sm_k99 S, sm_n99 S, sm_k100 S, sm_n100 S, sm_k101 S, sm_n101 S, sm_k102 S, sm_n102 S, sm_k103 S, sm_n103 S, sm_k104 S, sm_n104 S, sm_k105 S, sm_n105 S, sm_k106 S, sm_n106 S, sm_k107 S, sm_n107 S, sm_k108 S, sm_n108 S, sm_k109 S, sm_n109 S, sm_k110 S, sm_n110 S, hE_k, ↓p0]
theorem E_te {F : Nat × Nat} (hF : FF F) {h : jH} {T : Tk} {j0 n : Nat} {od : Bool} (H : EM h T j0 n od) {e : Ev} (h4 : n ≤ 400) {rc : Nat → List Value → jH → Option jO} {d : Nat} (hrc : Et h n j0 e (fun x => rc 187 [.ref 85, .int x]) (h_both T od (h_testr T od d) d)) : Et h n j0 e (m_M_testOf_r F rc 85) (h_te T od (h_testr T od d) d) := by
  intro t l live b ht hok
  have hn : T.1 n = 0 := H.2.2.2.2.1 n (Nat.le_refl _)
  have hf := hF.1
  have S := H.1
  have ok1 : (h_both T od (h_testr T od d) d (true, t, l)).1.1 = true := h_ol_f hok
  have k1 := h_both_ok (od := od) (d := d) hn (h_testr_ok (od := od) hn d) (s := (true, t, l)) ht
  obtain ⟨r, r1, r2⟩ := hrc t l live b ht ok1
  obtain ⟨r', ih, ih2⟩ := E_ol (F := F) H hrc live b hN F.1 (h_both T od (h_testr T od d) d (true, t, l)) r k1.1 (by unfold hN; omega) (by omega) hok r2
  refine ⟨r', ?_, ih2⟩
  have r0 := bI_of r1
  unfold h_te
  rw [← ih]
  simp (disch := first | exact sR_rfl _ _ rfl | omega) only [q_M_testOf_r, ft_lit, ft_m1, ft_m2, ft_m3, ft_m5, ft_m6, ft_cl, ft_lt, ft_le, ft_eq, ft_mlt, ft_ltm, ft_mltm, ft_meq, ft_eqm, ft_meqm, ft_add, ft_mul, ft_sub, ft_nm, ft_m1p, ft_and, ft_or, ft_31, ft_shl, ft_shr, ft_bz, ft_z0, ft_z1, ft_z01, ft_bb, ft_zt, ft_zf, ft_or0, ft_rv, ft_rvr, ft_rf, ft_rfn, ft_bI, ft_bJ, ft_bV, ft_bR, ft_bRn, ft_isr, ft_isn, ft_ifn, ft_ifr, ft_ov, ft_ovn, ft_in, k_sI, n_sI, R_sI, J_sI, c_sI, z_sI, k_sJ, n_sJ, R_sJ, I_sJ, c_sJ, z_sJ, k_sR, n_sR, I_sR, J_sR, c_sR, z_sR, k_wI, n_wI, R_wI, J_wI, I_wIe, k_wJ, n_wJ, R_wJ, I_wJ, J_wJe, I_wIn, J_wJn, I_sIe, J_sJe, R_sRe, I_sIn, I_sIk, J_sJn, J_sJk, R_sRn, R_sRk, eq_self, if_true, if_false, ↓reduceIte, cond_true, cond_false, ↓cond_eq_ite, and_true, true_and, and_false, false_and, or_true, true_or, or_false, false_or, not_true_eq_false, not_false_eq_true, ft_ltT, ft_ltF, ft_eqT, ft_eqF, Bool.false_eq_true, Bool.true_eq_false, Bool.not_true, Bool.not_false, Bool.and_true, Bool.true_and, Bool.and_false, Bool.false_and, decide_true, decide_false, Nat.reduceAdd, Nat.reduceMul, Nat.reduceSub, Nat.reduceEqDiff, Nat.reduceLT, Nat.zero_add, Nat.add_zero, Nat.reduceDiv, Nat.reduceMod, sm_k85 S, sm_R85_1 S, ↓sm_v85_1 S, sm_R85_2 S, ↓sm_v85_2 S, sm_R85_3 S, ↓sm_v85_3 S, sm_R85_4 S, ↓sm_v85_4 S, sm_R85_5 S, ↓sm_v85_5 S, sm_R85_7 S, ↓sm_v85_7 S, sm_R85_11 S, ↓sm_v85_11 S, sm_R85_12 S, ↓sm_v85_12 S, sm_R85_15 S, ↓sm_v85_15 S, sm_R85_16 S, ↓sm_v85_16 S, sm_R85_17 S, ↓sm_v85_17 S, sm_R85_26 S, ↓sm_v85_26 S, sm_R85_29 S, ↓sm_v85_29 S, sm_R85_30 S, ↓sm_v85_30 S, sm_R85_32 S, ↓sm_v85_32 S, sm_R85_33 S, ↓sm_v85_33 S, sm_R85_34 S, ↓sm_v85_34 S, sm_R85_35 S, ↓sm_v85_35 S, sm_R85_36 S, ↓sm_v85_36 S, sm_R85_37 S, ↓sm_v85_37 S, sm_R85_38 S, ↓sm_v85_38 S, sm_R85_40 S, ↓sm_v85_40 S, sm_R85_41 S, ↓sm_v85_41 S, sm_R85_48 S, ↓sm_v85_48 S, sm_R85_49 S, ↓sm_v85_49 S, sm_k86 S, sm_n86 S, sm_k87 S, sm_n87 S, sm_k88 S, sm_n88 S, sm_k89 S, sm_n89 S, sm_k90 S, sm_n90 S, sm_k91 S, sm_n91 S, sm_k92 S, sm_n92 S, sm_k93 S, sm_n93 S, sm_k94 S, sm_n94 S, sm_k95 S, sm_n95 S, sm_k96 S, sm_n96 S, sm_k97 S, sm_n97 S, sm_k98 S, sm_n98 S, sm_k99 S, sm_n99 S, sm_k100 S, sm_n100 S, sm_k101 S, sm_n101 S, sm_k102 S, sm_n102 S, sm_k103 S, sm_n103 S, sm_k104 S, sm_n104 S, sm_k105 S, sm_n105 S, sm_k106 S, sm_n106 S, sm_k107 S, sm_n107 S, sm_k108 S, sm_n108 S, sm_k109 S, sm_n109 S, sm_k110 S, sm_n110 S, hE_k, ↓r0]
theorem E_test {F : Nat × Nat} (hF : FF F) {h : jH} {T : Tk} {j0 n : Nat} {od : Bool} (H : EM h T j0 n od) {e : Ev} (V : EV F h e j0 od) (h4 : n ≤ 400) : ∀ d f, d ≤ 8 → 4 * d + 4 ≤ f → Et h n j0 e (fun x => rc3 F f 186 [.ref 85, .int x]) (h_test T od d)
  | d, 0, _, hf => absurd hf (by omega)
  | d, 1, _, hf => absurd hf (by omega)
  | d, 2, _, hf => absurd hf (by omega)
  | d, 3, _, hf => absurd hf (by omega)
  | d, f + 4, hd, hf => by
    have p0 : Et h n j0 e (fun x => rc3 F (f + 1) 189 [.ref 85, .int x]) (h_posi T od (h_testr T od d) d) :=
      E_posi hF H V h4 hd (fun e1 he => by
        subst he
        exact E_test hF H V h4 e1 f (by omega) (by omega))
    have p1 : Et h n j0 e (fun x => rc3 F (f + 2) 188 [.ref 85, .int x]) (h_plain T od (h_testr T od d) d) := E_plain hF H h4 p0
    have p2 : Et h n j0 e (fun x => rc3 F (f + 3) 187 [.ref 85, .int x]) (h_both T od (h_testr T od d) d) := E_both hF H h4 p1
    have p3 : Et h n j0 e (fun x => rc3 F (f + 4) 186 [.ref 85, .int x]) (h_te T od (h_testr T od d) d) := E_te hF H h4 p2
    rw [h_test_eq]
    exact p3
  termination_by d => d
theorem E_testF {F : Nat × Nat} (hF : FF F) {h : jH} {T : Tk} {j0 n : Nat} {od : Bool} (H : EM h T j0 n od) {e : Ev} (V : EV F h e j0 od) (h4 : n ≤ 400) {d : Nat} (hd : d ≤ 8) : Et h n j0 e (m_M_testOf F 85) (h_test T od d) := E_test hF H V h4 d F.2 hd (by have := hF.2; omega)
