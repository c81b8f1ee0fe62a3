/-! THE REFERENCE EVALUATES: terms and sums -/
def h_bdd (x : Option Int) : Prop := ∀ v, x = some v → -1000000000 ≤ v ∧ v ≤ 1000000000
theorem h_bnd_b (v : Int) : h_bdd (h_bnd v) := by
  intro w e
  unfold h_bnd at e
  split at e
  · cases e
  · cases Option.some.inj e
    omega
theorem h_cmb_b (op : Nat) (a b : Option Int) : h_bdd (h_cmb op a b) := by
  unfold h_cmb
  split
  · repeat' split
    all_goals first | exact h_bnd_b _ | (intro v e; cases e)
  · intro v e; cases e
def h_bdr (e : Ev) (rec : Option (Ps → Rs)) : Prop := ∀ r, rec = some r → ∀ s : Ps, h_bdd ((r s).2.2 e)
theorem h_part_b {T : Tk} {od : Bool} {e : Ev} (he : ∀ c k, -1000000 ≤ e c k ∧ e c k ≤ 1000000) {rec : Option (Ps → Rs)} (hr : h_bdr e rec) (s : Ps) : h_bdd ((h_part T od rec s).2.2 e) := by
  unfold h_part
  split
  · intro v q; cases q
  · split
    · split
      · intro v q; cases q
      · exact hr _ rfl _
    · split
      · rename_i q
        intro v e1
        cases Option.some.inj e1
        omega
      · split
        · split
          · intro v e1
            cases Option.some.inj e1
            have := he (T.1 s.2.1) (T.2 (s.2.1 + 1))
            omega
          · split
            · intro v e1
              cases Option.some.inj e1
              have := he (T.1 s.2.1) (T.2 (s.2.1 + 1))
              omega
            · intro v e1
              cases Option.some.inj e1
              have := he (T.1 s.2.1) 0
              omega
        · intro v q; cases q
theorem h_tl_b {T : Tk} {od : Bool} {e : Ev} {rec : Option (Ps → Rs)} : ∀ f (x : Rs), h_bdd (x.2.2 e) → h_bdd ((h_tl T od rec f x).2.2 e)
  | 0, x, h => h
  | f + 1, x, h => by
    unfold h_tl
    split
    · exact h_tl_b f _ (h_cmb_b _ _ _)
    · exact h
theorem h_term_b {T : Tk} {od : Bool} {e : Ev} (he : ∀ c k, -1000000 ≤ e c k ∧ e c k ≤ 1000000) {rec : Option (Ps → Rs)} (hr : h_bdr e rec) (s : Ps) : h_bdd ((h_term T od rec s).2.2 e) := h_tl_b hN _ (h_part_b he hr s)
theorem h_sl_b {T : Tk} {od : Bool} {e : Ev} {rec : Option (Ps → Rs)} : ∀ f (x : Rs), h_bdd (x.2.2 e) → h_bdd ((h_sl T od rec f x).2.2 e)
  | 0, x, h => h
  | f + 1, x, h => by
    unfold h_sl
    split
    · exact h_sl_b f _ (h_cmb_b _ _ _)
    · exact h
theorem h_su_b {T : Tk} {od : Bool} {e : Ev} (he : ∀ c k, -1000000 ≤ e c k ∧ e c k ≤ 1000000) {rec : Option (Ps → Rs)} (hr : h_bdr e rec) (s : Ps) : h_bdd ((h_su T od rec s).2.2 e) := h_sl_b hN _ (h_term_b he hr s)
theorem h_sum_b {T : Tk} {od : Bool} {e : Ev} (he : ∀ c k, -1000000 ≤ e c k ∧ e c k ≤ 1000000) : ∀ d (s : Ps), h_bdd ((h_sum T od d s).2.2 e)
  | 0, s => h_su_b he (fun r q => by cases q) s
  | d + 1, s => h_su_b he (fun r q s => by cases Option.some.inj q; exact h_sum_b he d s) s
theorem h_sumr_b {T : Tk} {od : Bool} {e : Ev} (he : ∀ c k, -1000000 ≤ e c k ∧ e c k ≤ 1000000) (d : Nat) : h_bdr e (h_sumr T od d) := by
  cases d with
  | zero => exact fun r q => by cases q
  | succ d => exact fun r q s => by cases Option.some.inj q; exact h_sum_b he d s
theorem hvl_b {live b : Bool} {x : Option Int} (h : h_bdd x) : -1000000000 ≤ hvl live b x ∧ hvl live b x ≤ 1000000000 := by
  unfold hvl
  split
  · cases x with
    | none => simp
    | some v => exact h v rfl
  · omega
theorem h_bnd_n (v : Int) : (h_bnd v).isNone = h_out v := by
  unfold h_bnd h_out
  by_cases h1 : v > 1000000000 <;> by_cases h2 : v < -1000000000 <;> simp [h1, h2]
theorem h_bnd_v (v : Int) : (h_bnd v).getD 0 = if h_out v then 0 else v := by
  unfold h_bnd h_out
  by_cases h1 : v > 1000000000 <;> by_cases h2 : v < -1000000000 <;> simp [h1, h2]
theorem h_out0 : h_out 0 = false := by decide
/-- v op w, bounded, when neither was broken for another reason -/
theorem hc_op {live b : Bool} {x y z : Option Int} {raw : Int} (h1 : ∀ a c, live = true → b = false → x = some a → y = some c → z = h_bnd raw) (h2 : x = none ∨ y = none → z = none) (h3 : live = false → raw = 0) : hbk live (hbk live (hbk live b x.isNone) y.isNone) (h_out raw) = hbk live b z.isNone ∧ (if hbk live (hbk live (hbk live b x.isNone) y.isNone) (h_out raw) then 0 else raw) = hvl live b z := by
  cases live
  · rw [h3 rfl]
    cases b <;> simp [hbk, hvl]
  · cases b
    · cases x with
      | none => rw [h2 (Or.inl rfl)]; simp [hbk, hvl]
      | some a =>
        cases y with
        | none => rw [h2 (Or.inr rfl)]; simp [hbk, hvl]
        | some c =>
          rw [h1 a c rfl rfl rfl rfl, h_bnd_n]
          simp [hbk, hvl, h_bnd_v]
    · simp [hbk, hvl]
theorem abs_mul_le {a b : Int} (h1 : -1000000000 ≤ a) (h2 : a ≤ 1000000000) (h3 : -1000000000 ≤ b) (h4 : b ≤ 1000000000) : -1000000000000000000 ≤ a * b ∧ a * b ≤ 1000000000000000000 := by
  have ha : a.natAbs ≤ 1000000000 := by omega
  have hb : b.natAbs ≤ 1000000000 := by omega
  have := Nat.mul_le_mul ha hb
  rw [← Int.natAbs_mul] at this
  omega
theorem E_54 {F : Nat × Nat} {h : jH} {T : Tk} {j0 n : Nat} {od : Bool} (H : EM h T j0 n od) {rc : Nat → List Value → jH → Option jO} {k6 : Nat → Int32 → Int64 → jH → Option jO} {t t' : Nat} (ht : t < 2800) {live b : Bool} {x y : Option Int} (hx : h_bdd x) (hy : h_bdd y) (q : h_isT (T.1 t) = true) (hrc : ∀ b, rc 181 [.ref 85, .int (nI (ft_z live))] (hE h j0 (t + 1) b) = some (some (.long (iL (hvl live b y))), hE h j0 t' (hbk live b y.isNone))) : m_M_termOf_54 F rc k6 85 (nI (ft_z live)) (iL (hvl live b x)) (hE h j0 t (hbk live b x.isNone)) = k6 85 (nI (ft_z live)) (iL (hvl live b (h_cmb (h_op (T.1 t)) x y))) (hE h j0 t' (hbk live b (h_cmb (h_op (T.1 t)) x y).isNone)) := by
  have ca := E_ca_b (F := F) H (g := t) (by omega) (hbk live b x.isNone)
  have r0 := bJ_of (hrc (hbk live b x.isNone))
  have bv := hvl_b (live := live) (b := b) hx
  have bw := hvl_b (live := live) (b := hbk live b x.isNone) hy
  have vx : live = false → hvl live b x = 0 := fun q => by rw [q]; rfl
  have vy : live = false → hvl live (hbk live b x.isNone) y = 0 := fun q => by rw [q]; rfl
  have wx : ∀ a, live = true → b = false → x = some a → hvl live b x = a := fun a q1 q2 q3 => by rw [q1, q2, q3]; rfl
  have wy : ∀ a c, live = true → b = false → x = some a → y = some c → hvl live (hbk live b x.isNone) y = c := fun a c q1 q2 q3 q4 => by rw [q1, q2, q3, q4]; rfl
  have wn : live = true → (b = true ∨ x = none ∨ y = none) → hvl live (hbk live b x.isNone) y = 0 := fun q1 q2 => by
    rw [q1]
    cases b
    · cases x with
      | none => simp [hvl, hbk]
      | some a =>
        cases y with
        | none => simp [hvl]
        | some c => simp at q2
    · simp [hvl, hbk]
  obtain ⟨S, H1, H2, H3, H4, H5, H6⟩ := id H
  have b1 := (H5 t).1
  generalize hv : hvl live b x = v at bv vx wx ⊢
  generalize hw : hvl live (hbk live b x.isNone) y = w at bw vy wy wn r0
  have mu := abs_mul_le bv.1 bv.2 bw.1 bw.2
  by_cases q1 : T.1 t = 142
  · have ho : h_op (T.1 t) = 8 := by rw [q1]; rfl
    rw [ho]
    obtain ⟨z1, z2⟩ := hc_op (live := live) (b := b) (x := x) (y := y) (z := h_cmb 8 x y) (raw := v * w) (fun a c l1 l2 l3 l4 => by rw [wx a l1 l2 l3, wy a c l1 l2 l3 l4, l3, l4]; rfl) (fun l => by rcases l with l | l <;> rw [l]; rfl; cases x <;> rfl) (fun l => by rw [vx l, Int.zero_mul])
    have bn := E_bounded_b (F := F) H (v := v * w) (by omega) (by omega) live t' (hbk live (hbk live b x.isNone) y.isNone)
    rw [z2, z1, ← iL_mul] at bn
    simp (disch := first | exact sR_rfl _ _ rfl | omega) only [q_M_termOf_54, q_M_termOf_121, ft_lit, ft_m1, ft_m2, ft_m3, ft_m5, ft_m6, ft_cl, ft_lt, ft_le, ft_eq, ft_mlt, ft_ltm, ft_mltm, ft_meq, ft_eqm, ft_meqm, ft_add, ft_mul, ft_sub, ft_nm, ft_m1p, ft_and, ft_or, ft_31, ft_shl, ft_shr, ft_bz, ft_z0, ft_z1, ft_z01, ft_bb, ft_zt, ft_zf, ft_or0, ft_rv, ft_rvr, ft_rf, ft_rfn, ft_bI, ft_bJ, ft_bV, ft_bR, ft_bRn, ft_isr, ft_isn, ft_ifn, ft_ifr, ft_ov, ft_ovn, ft_in, k_sI, n_sI, R_sI, J_sI, c_sI, z_sI, k_sJ, n_sJ, R_sJ, I_sJ, c_sJ, z_sJ, k_sR, n_sR, I_sR, J_sR, c_sR, z_sR, k_wI, n_wI, R_wI, J_wI, I_wIe, k_wJ, n_wJ, R_wJ, I_wJ, J_wJe, I_wIn, J_wJn, I_sIe, J_sJe, R_sRe, I_sIn, I_sIk, J_sJn, J_sJk, R_sRn, R_sRk, eq_self, if_true, if_false, ↓reduceIte, cond_true, cond_false, ↓cond_eq_ite, and_true, true_and, and_false, false_and, or_true, true_or, or_false, false_or, not_true_eq_false, not_false_eq_true, ft_ltT, ft_ltF, ft_eqT, ft_eqF, Bool.false_eq_true, Bool.true_eq_false, Bool.not_true, Bool.not_false, Bool.and_true, Bool.true_and, Bool.and_false, Bool.false_and, decide_true, decide_false, Nat.reduceAdd, Nat.reduceMul, Nat.reduceSub, Nat.reduceEqDiff, Nat.reduceLT, Nat.zero_add, Nat.add_zero, Nat.reduceDiv, Nat.reduceMod, sm_k85 S, sm_R85_1 S, ↓sm_v85_1 S, sm_R85_2 S, ↓sm_v85_2 S, sm_R85_3 S, ↓sm_v85_3 S, sm_R85_4 S, ↓sm_v85_4 S, sm_R85_5 S, ↓sm_v85_5 S, sm_R85_7 S, ↓sm_v85_7 S, sm_R85_11 S, ↓sm_v85_11 S, sm_R85_12 S, ↓sm_v85_12 S, sm_R85_15 S, ↓sm_v85_15 S, sm_R85_16 S, ↓sm_v85_16 S, sm_R85_17 S, ↓sm_v85_17 S, sm_R85_26 S, ↓sm_v85_26 S, sm_R85_29 S, ↓sm_v85_29 S, sm_R85_30 S, ↓sm_v85_30 S, sm_R85_32 S, ↓sm_v85_32 S, sm_R85_33 S, ↓sm_v85_33 S, sm_R85_34 S, ↓sm_v85_34 S, sm_R85_35 S, ↓sm_v85_35 S, sm_R85_36 S, ↓sm_v85_36 S, sm_R85_37 S, ↓sm_v85_37 S, sm_R85_38 S, ↓sm_v85_38 S, sm_R85_40 S, ↓sm_v85_40 S, sm_R85_41 S, ↓sm_v85_41 S, sm_R85_48 S, ↓sm_v85_48 S, sm_R85_49 S, ↓sm_v85_49 S, sm_k86 S, sm_n86 S, sm_k87 S, sm_n87 S, sm_k88 S, sm_n88 S, sm_k89 S, sm_n89 S, sm_k90 S, sm_n90 S, sm_k91 S, sm_n91 S, sm_k92 S, sm_n92 S, sm_k93 S, sm_n93 S, sm_k94 S, sm_n94 S, sm_k95 S, sm_n95 S, sm_k96 S, sm_n96 S, sm_k97 S, sm_n97 S, sm_k98 S, sm_n98 S, sm_k99 S, sm_n99 S, sm_k100 S, sm_n100 S, sm_k101 S, sm_n101 S, sm_k102 S, sm_n102 S, sm_k103 S, sm_n103 S, sm_k104 S, sm_n104 S, sm_k105 S, sm_n105 S, sm_k106 S, sm_n106 S, sm_k107 S, sm_n107 S, sm_k108 S, sm_n108 S, sm_k109 S, sm_n109 S, sm_k110 S, sm_n110 S, hE_k, hE_22, hE_sg, ↓ca, q1, ↓r0, ↓M_sign_b, ↓bn]
  · have hbrk : ∀ b', j_sI (hE h j0 t' b') 85 24 (nI 1) = hE h j0 t' true := fun _ => hE_s1
    -- the divisor
    have dv : ∃ w' b3, (w = 0 → w' = 1 ∧ b3 = (hbk live (hbk live b x.isNone) y.isNone || live)) ∧ (w ≠ 0 → w' = w ∧ b3 = hbk live (hbk live b x.isNone) y.isNone) := by
      by_cases q : w = 0
      · exact ⟨1, _, fun _ => ⟨rfl, rfl⟩, fun z => absurd q z⟩
      · exact ⟨w, _, fun z => absurd z q, fun _ => ⟨rfl, rfl⟩⟩
    obtain ⟨w', b3, d1, d2⟩ := dv
    have hw' : w' ≠ 0 ∧ -1000000000 ≤ w' ∧ w' ≤ 1000000000 := by
      by_cases q : w = 0
      · rw [(d1 q).1]; omega
      · rw [(d2 q).1]; omega
    have key : ∀ raw : Int, ∀ op, (op = 9 ∧ raw = v.tdiv w' ∨ op = 10 ∧ raw = v.tmod w') → hbk live b3 (h_out raw) = hbk live b (h_cmb op x y).isNone ∧ (if hbk live b3 (h_out raw) then 0 else raw) = hvl live b (h_cmb op x y) := by
      intro raw op hraw
      have r0 : live = false → raw = 0 := fun l => by
        rcases hraw with ⟨-, hr⟩ | ⟨-, hr⟩
        · rw [hr, vx l, Int.zero_tdiv]
        · rw [hr, vx l, Int.zero_tmod]
      cases live
      · rw [r0 rfl]
        have hw0 := vy rfl
        rw [(d1 hw0).2]
        cases b <;> simp [hbk, hvl]
      · by_cases hz : b = true ∨ x = none ∨ y = none
        · have hw0 := wn rfl hz
          rw [(d1 hw0).2]
          rcases hz with hz | hz | hz
          · rw [hz]; simp [hbk, hvl]
          · rw [hz]; simp [hbk, hvl, h_cmb]
          · rw [hz]
            have : h_cmb op x none = none := by cases x <;> rfl
            rw [this]
            simp [hbk, hvl]
        · have hb : b = false := by
            cases b
            · rfl
            · exact absurd (Or.inl rfl) hz
          cases x with
          | none => exact absurd (Or.inr (Or.inl rfl)) hz
          | some a =>
            cases y with
            | none => exact absurd (Or.inr (Or.inr rfl)) hz
            | some c =>
              have e1 := wx a rfl hb rfl
              have e2 := wy a c rfl hb rfl rfl
              subst hb
              by_cases q0 : c = 0
              · have hw0 : w = 0 := by rw [e2, q0]
                rw [(d1 hw0).2]
                have : h_cmb op (some a) (some c) = none := by
                  rcases hraw with ⟨ho, -⟩ | ⟨ho, -⟩ <;> (rw [ho]; simp [h_cmb, q0])
                rw [this]
                simp [hbk, hvl]
              · have hw0 : w ≠ 0 := by rw [e2]; exact q0
                rw [(d2 hw0).2]
                have : h_cmb op (some a) (some c) = h_bnd raw := by
                  rcases hraw with ⟨ho, hr⟩ | ⟨ho, hr⟩ <;> (rw [ho, hr, (d2 hw0).1, e1, e2]; simp [h_cmb, q0])
                rw [this, h_bnd_n]
                simp [hbk, hvl, h_bnd_v]
    have td := tdiv_le (a := v) (b := w') bv.1 bv.2
    have tm := tmod_le (a := v) (b := w') bv.1 bv.2
    have e0 : (iL w' = iL 0) = False := by
      rw [iL_eq (by omega) (by omega) (by omega) (by omega)]
      simp [hw'.1]
    -- the branches that set the flag
    have fl : ∀ (g : jH → Option jO), (if j_k (hE h j0 t' (hbk live (hbk live b x.isNone) y.isNone)) 85 = 17 then (if j_I (hE h j0 t' (hbk live (hbk live b x.isNone) y.isNone)) 85 24 = nI 0 then (if nI (ft_z live) = nI 0 then g (j_sI (hE h j0 t' (hbk live (hbk live b x.isNone) y.isNone)) 85 24 (nI 0)) else g (j_sI (hE h j0 t' (hbk live (hbk live b x.isNone) y.isNone)) 85 24 (nI 1))) else g (j_sI (hE h j0 t' (hbk live (hbk live b x.isNone) y.isNone)) 85 24 (nI 1))) else none) = g (hE h j0 t' (hbk live (hbk live b x.isNone) y.isNone || live)) := by
      intro g
      generalize hbk live (hbk live b x.isNone) y.isNone = bb
      cases bb <;> cases live <;> simp (disch := first | exact sR_rfl _ _ rfl | omega) only [ft_lit, ft_m1, ft_m2, ft_m3, ft_m5, ft_m6, ft_cl, ft_lt, ft_le, ft_eq, ft_mlt, ft_ltm, ft_mltm, ft_meq, ft_eqm, ft_meqm, ft_add, ft_mul, ft_sub, ft_nm, ft_m1p, ft_and, ft_or, ft_31, ft_shl, ft_shr, ft_bz, ft_z0, ft_z1, ft_z01, ft_bb, ft_zt, ft_zf, ft_or0, ft_rv, ft_rvr, ft_rf, ft_rfn, ft_bI, ft_bJ, ft_bV, ft_bR, ft_bRn, ft_isr, ft_isn, ft_ifn, ft_ifr, ft_ov, ft_ovn, ft_in, k_sI, n_sI, R_sI, J_sI, c_sI, z_sI, k_sJ, n_sJ, R_sJ, I_sJ, c_sJ, z_sJ, k_sR, n_sR, I_sR, J_sR, c_sR, z_sR, k_wI, n_wI, R_wI, J_wI, I_wIe, k_wJ, n_wJ, R_wJ, I_wJ, J_wJe, I_wIn, J_wJn, I_sIe, J_sJe, R_sRe, I_sIn, I_sIk, J_sJn, J_sJk, R_sRn, R_sRk, eq_self, if_true, if_false, ↓reduceIte, cond_true, cond_false, ↓cond_eq_ite, and_true, true_and, and_false, false_and, or_true, true_or, or_false, false_or, not_true_eq_false, not_false_eq_true, ft_ltT, ft_ltF, ft_eqT, ft_eqF, Bool.false_eq_true, Bool.true_eq_false, Bool.not_true, Bool.not_false, Bool.and_true, Bool.true_and, Bool.and_false, Bool.false_and, decide_true, decide_false, Nat.reduceAdd, Nat.reduceMul, Nat.reduceSub, Nat.reduceEqDiff, Nat.reduceLT, Nat.zero_add, Nat.add_zero, Nat.reduceDiv, Nat.reduceMod, sm_k85 S, sm_R85_1 S, ↓sm_v85_1 S, sm_R85_2 S, ↓sm_v85_2 S, sm_R85_3 S, ↓sm_v85_3 S, sm_R85_4 S, ↓sm_v85_4 S, sm_R85_5 S, ↓sm_v85_5 S, sm_R85_7 S, ↓sm_v85_7 S, sm_R85_11 S, ↓sm_v85_11 S, sm_R85_12 S, ↓sm_v85_12 S, sm_R85_15 S, ↓sm_v85_15 S, sm_R85_16 S, ↓sm_v85_16 S, sm_R85_17 S, ↓sm_v85_17 S, sm_R85_26 S, ↓sm_v85_26 S, sm_R85_29 S, ↓sm_v85_29 S, sm_R85_30 S, ↓sm_v85_30 S, sm_R85_32 S, ↓sm_v85_32 S, sm_R85_33 S, ↓sm_v85_33 S, sm_R85_34 S, ↓sm_v85_34 S, sm_R85_35 S, ↓sm_v85_35 S, sm_R85_36 S, ↓sm_v85_36 S, sm_R85_37 S, ↓sm_v85_37 S, sm_R85_38 S, ↓sm_v85_38 S, sm_R85_40 S, ↓sm_v85_40 S, sm_R85_41 S, ↓sm_v85_41 S, sm_R85_48 S, ↓sm_v85_48 S, sm_R85_49 S, ↓sm_v85_49 S, sm_k86 S, sm_n86 S, sm_k87 S, sm_n87 S, sm_k88 S, sm_n88 S, sm_k89 S, sm_n89 S, sm_k90 S, sm_n90 S, sm_k91 S, sm_n91 S, sm_k92 S, sm_n92 S, sm_k93 S, sm_n93 S, sm_k94 S, sm_n94 S, sm_k95 S, sm_n95 S, sm_k96 S, sm_n96 S, sm_k97 S, sm_n97 S, sm_k98 S, sm_n98 S, sm_k99 S, sm_n99 S, sm_k100 S, sm_n100 S, sm_k101 S, sm_n101 S, sm_k102 S, sm_n102 S, sm_k103 S, sm_n103 S, sm_k104 S, sm_n104 S, sm_k105 S, sm_n105 S, sm_k106 S, sm_n106 S, sm_k107 S, sm_n107 S, sm_k108 S, sm_n108 S, sm_k109 S, sm_n109 S, sm_k110 S, sm_n110 S, hE_k, hE_24, hE_s0, hE_s1, Bool.or_false, Bool.or_true, Bool.false_or, Bool.true_or]
    have t121 : ∀ op, (T.1 t = 147 ∧ op = 9 ∨ T.1 t = 137 ∧ op = 10) → m_M_termOf_121 F rc k6 85 (nI (ft_z live)) (iL v) (nI (T.1 t)) (iL w') (hE h j0 t' b3) = k6 85 (nI (ft_z live)) (iL (hvl live b (h_cmb op x y))) (hE h j0 t' (hbk live b (h_cmb op x y).isNone)) := by
      intro op ho
      rcases ho with ⟨q2, ho⟩ | ⟨q2, ho⟩
      · obtain ⟨z1, z2⟩ := key (v.tdiv w') op (Or.inl ⟨ho, rfl⟩)
        have bn := E_bounded_b (F := F) H (v := v.tdiv w') (by omega) (by omega) live t' b3
        rw [z2, z1, ← iL_div (by omega) (by omega) (by omega) (by omega)] at bn
        simp (disch := first | exact sR_rfl _ _ rfl | omega) only [q_M_termOf_121, ft_lit, ft_m1, ft_m2, ft_m3, ft_m5, ft_m6, ft_cl, ft_lt, ft_le, ft_eq, ft_mlt, ft_ltm, ft_mltm, ft_meq, ft_eqm, ft_meqm, ft_add, ft_mul, ft_sub, ft_nm, ft_m1p, ft_and, ft_or, ft_31, ft_shl, ft_shr, ft_bz, ft_z0, ft_z1, ft_z01, ft_bb, ft_zt, ft_zf, ft_or0, ft_rv, ft_rvr, ft_rf, ft_rfn, ft_bI, ft_bJ, ft_bV, ft_bR, ft_bRn, ft_isr, ft_isn, ft_ifn, ft_ifr, ft_ov, ft_ovn, ft_in, k_sI, n_sI, R_sI, J_sI, c_sI, z_sI, k_sJ, n_sJ, R_sJ, I_sJ, c_sJ, z_sJ, k_sR, n_sR, I_sR, J_sR, c_sR, z_sR, k_wI, n_wI, R_wI, J_wI, I_wIe, k_wJ, n_wJ, R_wJ, I_wJ, J_wJe, I_wIn, J_wJn, I_sIe, J_sJe, R_sRe, I_sIn, I_sIk, J_sJn, J_sJk, R_sRn, R_sRk, eq_self, if_true, if_false, ↓reduceIte, cond_true, cond_false, ↓cond_eq_ite, and_true, true_and, and_false, false_and, or_true, true_or, or_false, false_or, not_true_eq_false, not_false_eq_true, ft_ltT, ft_ltF, ft_eqT, ft_eqF, Bool.false_eq_true, Bool.true_eq_false, Bool.not_true, Bool.not_false, Bool.and_true, Bool.true_and, Bool.and_false, Bool.false_and, decide_true, decide_false, Nat.reduceAdd, Nat.reduceMul, Nat.reduceSub, Nat.reduceEqDiff, Nat.reduceLT, Nat.zero_add, Nat.add_zero, Nat.reduceDiv, Nat.reduceMod, sm_k85 S, sm_R85_1 S, ↓sm_v85_1 S, sm_R85_2 S, ↓sm_v85_2 S, sm_R85_3 S, ↓sm_v85_3 S, sm_R85_4 S, ↓sm_v85_4 S, sm_R85_5 S, ↓sm_v85_5 S, sm_R85_7 S, ↓sm_v85_7 S, sm_R85_11 S, ↓sm_v85_11 S, sm_R85_12 S, ↓sm_v85_12 S, sm_R85_15 S, ↓sm_v85_15 S, sm_R85_16 S, ↓sm_v85_16 S, sm_R85_17 S, ↓sm_v85_17 S, sm_R85_26 S, ↓sm_v85_26 S, sm_R85_29 S, ↓sm_v85_29 S, sm_R85_30 S, ↓sm_v85_30 S, sm_R85_32 S, ↓sm_v85_32 S, sm_R85_33 S, ↓sm_v85_33 S, sm_R85_34 S, ↓sm_v85_34 S, sm_R85_35 S, ↓sm_v85_35 S, sm_R85_36 S, ↓sm_v85_36 S, sm_R85_37 S, ↓sm_v85_37 S, sm_R85_38 S, ↓sm_v85_38 S, sm_R85_40 S, ↓sm_v85_40 S, sm_R85_41 S, ↓sm_v85_41 S, sm_R85_48 S, ↓sm_v85_48 S, sm_R85_49 S, ↓sm_v85_49 S, sm_k86 S, sm_n86 S, sm_k87 S, sm_n87 S, sm_k88 S, sm_n88 S, sm_k89 S, sm_n89 S, sm_k90 S, sm_n90 S, sm_k91 S, sm_n91 S, sm_k92 S, sm_n92 S, sm_k93 S, sm_n93 S, sm_k94 S, sm_n94 S, sm_k95 S, sm_n95 S, sm_k96 S, sm_n96 S, sm_k97 S, sm_n97 S, sm_k98 S, sm_n98 S, sm_k99 S, sm_n99 S, sm_k100 S, sm_n100 S, sm_k101 S, sm_n101 S, sm_k102 S, sm_n102 S, sm_k103 S, sm_n103 S, sm_k104 S, sm_n104 S, sm_k105 S, sm_n105 S, sm_k106 S, sm_n106 S, sm_k107 S, sm_n107 S, sm_k108 S, sm_n108 S, sm_k109 S, sm_n109 S, sm_k110 S, sm_n110 S, hE_k, ↓M_sign_b, q2, iL_0, e0, ↓bn]
      · obtain ⟨z1, z2⟩ := key (v.tmod w') op (Or.inr ⟨ho, rfl⟩)
        have bn := E_bounded_b (F := F) H (v := v.tmod w') (by omega) (by omega) live t' b3
        rw [z2, z1, ← iL_rem (by omega) (by omega) (by omega) (by omega)] at bn
        simp (disch := first | exact sR_rfl _ _ rfl | omega) only [q_M_termOf_121, ft_lit, ft_m1, ft_m2, ft_m3, ft_m5, ft_m6, ft_cl, ft_lt, ft_le, ft_eq, ft_mlt, ft_ltm, ft_mltm, ft_meq, ft_eqm, ft_meqm, ft_add, ft_mul, ft_sub, ft_nm, ft_m1p, ft_and, ft_or, ft_31, ft_shl, ft_shr, ft_bz, ft_z0, ft_z1, ft_z01, ft_bb, ft_zt, ft_zf, ft_or0, ft_rv, ft_rvr, ft_rf, ft_rfn, ft_bI, ft_bJ, ft_bV, ft_bR, ft_bRn, ft_isr, ft_isn, ft_ifn, ft_ifr, ft_ov, ft_ovn, ft_in, k_sI, n_sI, R_sI, J_sI, c_sI, z_sI, k_sJ, n_sJ, R_sJ, I_sJ, c_sJ, z_sJ, k_sR, n_sR, I_sR, J_sR, c_sR, z_sR, k_wI, n_wI, R_wI, J_wI, I_wIe, k_wJ, n_wJ, R_wJ, I_wJ, J_wJe, I_wIn, J_wJn, I_sIe, J_sJe, R_sRe, I_sIn, I_sIk, J_sJn, J_sJk, R_sRn, R_sRk, eq_self, if_true, if_false, ↓reduceIte, cond_true, cond_false, ↓cond_eq_ite, and_true, true_and, and_false, false_and, or_true, true_or, or_false, false_or, not_true_eq_false, not_false_eq_true, ft_ltT, ft_ltF, ft_eqT, ft_eqF, Bool.false_eq_true, Bool.true_eq_false, Bool.not_true, Bool.not_false, Bool.and_true, Bool.true_and, Bool.and_false, Bool.false_and, decide_true, decide_false, Nat.reduceAdd, Nat.reduceMul, Nat.reduceSub, Nat.reduceEqDiff, Nat.reduceLT, Nat.zero_add, Nat.add_zero, Nat.reduceDiv, Nat.reduceMod, sm_k85 S, sm_R85_1 S, ↓sm_v85_1 S, sm_R85_2 S, ↓sm_v85_2 S, sm_R85_3 S, ↓sm_v85_3 S, sm_R85_4 S, ↓sm_v85_4 S, sm_R85_5 S, ↓sm_v85_5 S, sm_R85_7 S, ↓sm_v85_7 S, sm_R85_11 S, ↓sm_v85_11 S, sm_R85_12 S, ↓sm_v85_12 S, sm_R85_15 S, ↓sm_v85_15 S, sm_R85_16 S, ↓sm_v85_16 S, sm_R85_17 S, ↓sm_v85_17 S, sm_R85_26 S, ↓sm_v85_26 S, sm_R85_29 S, ↓sm_v85_29 S, sm_R85_30 S, ↓sm_v85_30 S, sm_R85_32 S, ↓sm_v85_32 S, sm_R85_33 S, ↓sm_v85_33 S, sm_R85_34 S, ↓sm_v85_34 S, sm_R85_35 S, ↓sm_v85_35 S, sm_R85_36 S, ↓sm_v85_36 S, sm_R85_37 S, ↓sm_v85_37 S, sm_R85_38 S, ↓sm_v85_38 S, sm_R85_40 S, ↓sm_v85_40 S, sm_R85_41 S, ↓sm_v85_41 S, sm_R85_48 S, ↓sm_v85_48 S, sm_R85_49 S, ↓sm_v85_49 S, sm_k86 S, sm_n86 S, sm_k87 S, sm_n87 S, sm_k88 S, sm_n88 S, sm_k89 S, sm_n89 S, sm_k90 S, sm_n90 S, sm_k91 S, sm_n91 S, sm_k92 S, sm_n92 S, sm_k93 S, sm_n93 S, sm_k94 S, sm_n94 S, sm_k95 S, sm_n95 S, sm_k96 S, sm_n96 S, sm_k97 S, sm_n97 S, sm_k98 S, sm_n98 S, sm_k99 S, sm_n99 S, sm_k100 S, sm_n100 S, sm_k101 S, sm_n101 S, sm_k102 S, sm_n102 S, sm_k103 S, sm_n103 S, sm_k104 S, sm_n104 S, sm_k105 S, sm_n105 S, sm_k106 S, sm_n106 S, sm_k107 S, sm_n107 S, sm_k108 S, sm_n108 S, sm_k109 S, sm_n109 S, sm_k110 S, sm_n110 S, hE_k, ↓M_sign_b, q2, iL_0, e0, ↓bn]
    have hop : ∃ op, h_op (T.1 t) = op ∧ (T.1 t = 147 ∧ op = 9 ∨ T.1 t = 137 ∧ op = 10) := by
      unfold h_isT at q
      simp only [Bool.or_eq_true, beq_iff_eq, q1, false_or] at q
      rcases q with q | q
      · exact ⟨9, by rw [q]; rfl, Or.inl ⟨q, rfl⟩⟩
      · exact ⟨10, by rw [q]; rfl, Or.inr ⟨q, rfl⟩⟩
    obtain ⟨op, ho, ho2⟩ := hop
    rw [ho, ← t121 op ho2]
    by_cases q0 : w = 0
    · have e1 : (lg_cmp (iL w) (iL 0) = nI 0) = True := by rw [cmp_eq (by omega) (by omega) (by omega) (by omega)]; simp [q0]
      rw [(d1 q0).1, (d1 q0).2]
      have fl' := fl (fun hh => m_M_termOf_121 F rc k6 85 (nI (ft_z live)) (iL v) (nI (T.1 t)) (iL 1) hh)
      simp only [iL_0.symm, iL_1.symm] at fl' e1
      rw [← iL_1, ← fl']
      simp (disch := first | exact sR_rfl _ _ rfl | omega) only [q_M_termOf_54, ft_lit, ft_m1, ft_m2, ft_m3, ft_m5, ft_m6, ft_cl, ft_lt, ft_le, ft_eq, ft_mlt, ft_ltm, ft_mltm, ft_meq, ft_eqm, ft_meqm, ft_add, ft_mul, ft_sub, ft_nm, ft_m1p, ft_and, ft_or, ft_31, ft_shl, ft_shr, ft_bz, ft_z0, ft_z1, ft_z01, ft_bb, ft_zt, ft_zf, ft_or0, ft_rv, ft_rvr, ft_rf, ft_rfn, ft_bI, ft_bJ, ft_bV, ft_bR, ft_bRn, ft_isr, ft_isn, ft_ifn, ft_ifr, ft_ov, ft_ovn, ft_in, k_sI, n_sI, R_sI, J_sI, c_sI, z_sI, k_sJ, n_sJ, R_sJ, I_sJ, c_sJ, z_sJ, k_sR, n_sR, I_sR, J_sR, c_sR, z_sR, k_wI, n_wI, R_wI, J_wI, I_wIe, k_wJ, n_wJ, R_wJ, I_wJ, J_wJe, I_wIn, J_wJn, I_sIe, J_sJe, R_sRe, I_sIn, I_sIk, J_sJn, J_sJk, R_sRn, R_sRk, eq_self, if_true, if_false, ↓reduceIte, cond_true, cond_false, ↓cond_eq_ite, and_true, true_and, and_false, false_and, or_true, true_or, or_false, false_or, not_true_eq_false, not_false_eq_true, ft_ltT, ft_ltF, ft_eqT, ft_eqF, Bool.false_eq_true, Bool.true_eq_false, Bool.not_true, Bool.not_false, Bool.and_true, Bool.true_and, Bool.and_false, Bool.false_and, decide_true, decide_false, Nat.reduceAdd, Nat.reduceMul, Nat.reduceSub, Nat.reduceEqDiff, Nat.reduceLT, Nat.zero_add, Nat.add_zero, Nat.reduceDiv, Nat.reduceMod, sm_k85 S, sm_R85_1 S, ↓sm_v85_1 S, sm_R85_2 S, ↓sm_v85_2 S, sm_R85_3 S, ↓sm_v85_3 S, sm_R85_4 S, ↓sm_v85_4 S, sm_R85_5 S, ↓sm_v85_5 S, sm_R85_7 S, ↓sm_v85_7 S, sm_R85_11 S, ↓sm_v85_11 S, sm_R85_12 S, ↓sm_v85_12 S, sm_R85_15 S, ↓sm_v85_15 S, sm_R85_16 S, ↓sm_v85_16 S, sm_R85_17 S, ↓sm_v85_17 S, sm_R85_26 S, ↓sm_v85_26 S, sm_R85_29 S, ↓sm_v85_29 S, sm_R85_30 S, ↓sm_v85_30 S, sm_R85_32 S, ↓sm_v85_32 S, sm_R85_33 S, ↓sm_v85_33 S, sm_R85_34 S, ↓sm_v85_34 S, sm_R85_35 S, ↓sm_v85_35 S, sm_R85_36 S, ↓sm_v85_36 S, sm_R85_37 S, ↓sm_v85_37 S, sm_R85_38 S, ↓sm_v85_38 S, sm_R85_40 S, ↓sm_v85_40 S, sm_R85_41 S, ↓sm_v85_41 S, sm_R85_48 S, ↓sm_v85_48 S, sm_R85_49 S, ↓sm_v85_49 S, sm_k86 S, sm_n86 S, sm_k87 S, sm_n87 S, sm_k88 S, sm_n88 S, sm_k89 S, sm_n89 S, sm_k90 S, sm_n90 S, sm_k91 S, sm_n91 S, sm_k92 S, sm_n92 S, sm_k93 S, sm_n93 S, sm_k94 S, sm_n94 S, sm_k95 S, sm_n95 S, sm_k96 S, sm_n96 S, sm_k97 S, sm_n97 S, sm_k98 S, sm_n98 S, sm_k99 S, sm_n99 S, sm_k100 S, sm_n100 S, sm_k101 S, sm_n101 S, sm_k102 S, sm_n102 S, sm_k103 S, sm_n103 S, sm_k104 S, sm_n104 S, sm_k105 S, sm_n105 S, sm_k106 S, sm_n106 S, sm_k107 S, sm_n107 S, sm_k108 S, sm_n108 S, sm_k109 S, sm_n109 S, sm_k110 S, sm_n110 S, hE_k, hE_22, hE_sg, ↓ca, q1, ↓r0, ↓M_sign_b, e1]
    · have e1 : (lg_cmp (iL w) (iL 0) = nI 0) = False := by rw [cmp_eq (by omega) (by omega) (by omega) (by omega)]; simp [q0]
      rw [(d2 q0).1, (d2 q0).2]
      simp (disch := first | exact sR_rfl _ _ rfl | omega) only [q_M_termOf_54, ft_lit, ft_m1, ft_m2, ft_m3, ft_m5, ft_m6, ft_cl, ft_lt, ft_le, ft_eq, ft_mlt, ft_ltm, ft_mltm, ft_meq, ft_eqm, ft_meqm, ft_add, ft_mul, ft_sub, ft_nm, ft_m1p, ft_and, ft_or, ft_31, ft_shl, ft_shr, ft_bz, ft_z0, ft_z1, ft_z01, ft_bb, ft_zt, ft_zf, ft_or0, ft_rv, ft_rvr, ft_rf, ft_rfn, ft_bI, ft_bJ, ft_bV, ft_bR, ft_bRn, ft_isr, ft_isn, ft_ifn, ft_ifr, ft_ov, ft_ovn, ft_in, k_sI, n_sI, R_sI, J_sI, c_sI, z_sI, k_sJ, n_sJ, R_sJ, I_sJ, c_sJ, z_sJ, k_sR, n_sR, I_sR, J_sR, c_sR, z_sR, k_wI, n_wI, R_wI, J_wI, I_wIe, k_wJ, n_wJ, R_wJ, I_wJ, J_wJe, I_wIn, J_wJn, I_sIe, J_sJe, R_sRe, I_sIn, I_sIk, J_sJn, J_sJk, R_sRn, R_sRk, eq_self, if_true, if_false, ↓reduceIte, cond_true, cond_false, ↓cond_eq_ite, and_true, true_and, and_false, false_and, or_true, true_or, or_false, false_or, not_true_eq_false, not_false_eq_true, ft_ltT, ft_ltF, ft_eqT, ft_eqF, Bool.false_eq_true, Bool.true_eq_false, Bool.not_true, Bool.not_false, Bool.and_true, Bool.true_and, Bool.and_false, Bool.false_and, decide_true, decide_false, Nat.reduceAdd, Nat.reduceMul, Nat.reduceSub, Nat.reduceEqDiff, Nat.reduceLT, Nat.zero_add, Nat.add_zero, Nat.reduceDiv, Nat.reduceMod, sm_k85 S, sm_R85_1 S, ↓sm_v85_1 S, sm_R85_2 S, ↓sm_v85_2 S, sm_R85_3 S, ↓sm_v85_3 S, sm_R85_4 S, ↓sm_v85_4 S, sm_R85_5 S, ↓sm_v85_5 S, sm_R85_7 S, ↓sm_v85_7 S, sm_R85_11 S, ↓sm_v85_11 S, sm_R85_12 S, ↓sm_v85_12 S, sm_R85_15 S, ↓sm_v85_15 S, sm_R85_16 S, ↓sm_v85_16 S, sm_R85_17 S, ↓sm_v85_17 S, sm_R85_26 S, ↓sm_v85_26 S, sm_R85_29 S, ↓sm_v85_29 S, sm_R85_30 S, ↓sm_v85_30 S, sm_R85_32 S, ↓sm_v85_32 S, sm_R85_33 S, ↓sm_v85_33 S, sm_R85_34 S, ↓sm_v85_34 S, sm_R85_35 S, ↓sm_v85_35 S, sm_R85_36 S, ↓sm_v85_36 S, sm_R85_37 S, ↓sm_v85_37 S, sm_R85_38 S, ↓sm_v85_38 S, sm_R85_40 S, ↓sm_v85_40 S, sm_R85_41 S, ↓sm_v85_41 S, sm_R85_48 S, ↓sm_v85_48 S, sm_R85_49 S, ↓sm_v85_49 S, sm_k86 S, sm_n86 S, sm_k87 S, sm_n87 S, sm_k88 S, sm_n88 S, sm_k89 S, sm_n89 S, sm_k90 S, sm_n90 S, sm_k91 S, sm_n91 S, sm_k92 S, sm_n92 S, sm_k93 S, sm_n93 S, sm_k94 S, sm_n94 S, sm_k95 S, sm_n95 S, sm_k96 S, sm_n96 S, sm_k97 S, sm_n97 S, sm_k98 S, sm_n98 S, sm_k99 S, sm_n99 S, sm_k100 S, sm_n100 S, sm_k101 S, sm_n101 S, sm_k102 S, sm_n102 S, sm_k103 S, sm_n103 S, sm_k104 S, sm_n104 S, sm_k105 S, sm_n105 S, sm_k106 S, sm_n106 S, sm_k107 S, sm_n107 S, sm_k108 S, sm_n108 S, sm_k109 S, sm_n109 S, sm_k110 S, sm_n110 S, hE_k, hE_22, hE_sg, ↓ca, q1, ↓r0, ↓M_sign_b, iL_0, e1]
/-- a loop of the hub stands still behind a fault -/
theorem h_tl_f {T : Tk} {od : Bool} {rec : Option (Ps → Rs)} {f : Nat} {x : Rs} (h : (h_tl T od rec f x).1.1 = true) : x.1.1 = true := by
  cases f with
  | zero => exact h
  | succ f =>
    unfold h_tl at h
    split at h
    · rename_i e
      simp only [Bool.and_eq_true] at e
      exact e.1
    · exact h
theorem h_sl_f {T : Tk} {od : Bool} {rec : Option (Ps → Rs)} {f : Nat} {x : Rs} (h : (h_sl T od rec f x).1.1 = true) : x.1.1 = true := by
  cases f with
  | zero => exact h
  | succ f =>
    unfold h_sl at h
    split at h
    · rename_i e
      simp only [Bool.and_eq_true] at e
      exact e.1
    · exact h
theorem E_tl {F : Nat × Nat} {h : jH} {T : Tk} {j0 n : Nat} {od : Bool} (H : EM h T j0 n od) {e : Ev} (he : ∀ c k, -1000000 ≤ e c k ∧ e c k ≤ 1000000) {rc : Nat → List Value → jH → Option jO} {d : Nat} (hrc : Er h n j0 e (fun x => rc 181 [.ref 85, .int x]) (h_part T od (h_sumr T od d))) (live b : Bool) : ∀ f g (x : Rs), x.1.2.1 ≤ n → n < x.1.2.1 + f → n < x.1.2.1 + g → (h_tl T od (h_sumr T od d) f x).1.1 = true → h_bdd (x.2.2 e) → m_M_termOf_6 F rc g 85 (nI (ft_z live)) (iL (hvl live b (x.2.2 e))) (hE h j0 x.1.2.1 (hbk live b (x.2.2 e).isNone)) = some (some (.long (iL (hvl live b ((h_tl T od (h_sumr T od d) f x).2.2 e)))), hE h j0 (h_tl T od (h_sumr T od d) f x).1.2.1 (hbk live b ((h_tl T od (h_sumr T od d) f x).2.2 e).isNone))
  | 0, g, x, h1, h3, h4, hok, hb => absurd h3 (by omega)
  | f + 1, 0, x, h1, h3, h4, hok, hb => absurd h4 (by omega)
  | f + 1, g + 1, x, h1, h3, h4, hok, hb => by
    have h0 := h_tl_f hok
    obtain ⟨⟨bx, t, l⟩, cd, dn⟩ := x
    simp only at h0 h1 h3 h4 hb ⊢
    subst h0
    have hn : T.1 n = 0 := H.2.2.2.2.1 n (Nat.le_refl _)
    have hn4 := H.2.2.2.1
    have ca := E_ca_b (F := F) H (g := t) (by omega) (hbk live b (dn e).isNone)
    obtain ⟨S, H1, H2, H3, H4, H5, H6⟩ := id H
    have b1 := (H5 t).1
    unfold h_tl at hok ⊢
    by_cases q : h_isT (T.1 t) = true
    · simp only [q, Bool.and_self, if_true] at hok ⊢
      have hlt : t < n := by
        have : t ≠ n := fun z => by rw [z, hn] at q; exact absurd q (by decide)
        omega
      have a0 : h_adv (true, t, l) = (true, t + 1, l) := rfl
      simp only [a0] at hok ⊢
      have k1 := h_part_ok (od := od) hn (h_sumr_ok (od := od) hn d) (s := (true, t + 1, l)) hlt
      have ok0 := h_tl_f hok
      have ok1 : (h_part T od (h_sumr T od d) (true, t + 1, l)).1.1 = true := ok0
      have h5 := (k1.2 ok1).2
      simp only at h5
      have e54 := E_54 (F := F) (k6 := m_M_termOf_6 F rc g) H (t := t) (by omega) (live := live) (b := b) hb (h_part_b he (h_sumr_b he d) (true, t + 1, l)) q (fun b => hrc (t + 1) l live b hlt ok1)
      have ih := E_tl (F := F) H he hrc live b f g ((h_part T od (h_sumr T od d) (true, t + 1, l)).1, cd ++ (h_part T od (h_sumr T od d) (true, t + 1, l)).2.1 ++ [h_op (T.1 t)], fun e => h_cmb (h_op (T.1 t)) (dn e) ((h_part T od (h_sumr T od d) (true, t + 1, l)).2.2 e)) k1.1 (by show n < (h_part T od (h_sumr T od d) (true, t + 1, l)).1.2.1 + f; omega) (by show n < (h_part T od (h_sumr T od d) (true, t + 1, l)).1.2.1 + g; omega) hok (h_cmb_b _ _ _)
      rw [← ih]
      simp only
      rw [← e54]
      have q' := q
      unfold h_isT at q'
      simp only [Bool.or_eq_true, beq_iff_eq] at q'
      rcases q' with (q' | q') | q'
      · simp (disch := first | exact sR_rfl _ _ rfl | omega) only [q_M_termOf_6, ft_lit, ft_m1, ft_m2, ft_m3, ft_m5, ft_m6, ft_cl, ft_lt, ft_le, ft_eq, ft_mlt, ft_ltm, ft_mltm, ft_meq, ft_eqm, ft_meqm, ft_add, ft_mul, ft_sub, ft_nm, ft_m1p, ft_and, ft_or, ft_31, ft_shl, ft_shr, ft_bz, ft_z0, ft_z1, ft_z01, ft_bb, ft_zt, ft_zf, ft_or0, ft_rv, ft_rvr, ft_rf, ft_rfn, ft_bI, ft_bJ, ft_bV, ft_bR, ft_bRn, ft_isr, ft_isn, ft_ifn, ft_ifr, ft_ov, ft_ovn, ft_in, k_sI, n_sI, R_sI, J_sI, c_sI, z_sI, k_sJ, n_sJ, R_sJ, I_sJ, c_sJ, z_sJ, k_sR, n_sR, I_sR, J_sR, c_sR, z_sR, k_wI, n_wI, R_wI, J_wI, I_wIe, k_wJ, n_wJ, R_wJ, I_wJ, J_wJe, I_wIn, J_wJn, I_sIe, J_sJe, R_sRe, I_sIn, I_sIk, J_sJn, J_sJk, R_sRn, R_sRk, eq_self, if_true, if_false, ↓reduceIte, cond_true, cond_false, ↓cond_eq_ite, and_true, true_and, and_false, false_and, or_true, true_or, or_false, false_or, not_true_eq_false, not_false_eq_true, ft_ltT, ft_ltF, ft_eqT, ft_eqF, Bool.false_eq_true, Bool.true_eq_false, Bool.not_true, Bool.not_false, Bool.and_true, Bool.true_and, Bool.and_false, Bool.false_and, decide_true, decide_false, Nat.reduceAdd, Nat.reduceMul, Nat.reduceSub, Nat.reduceEqDiff, Nat.reduceLT, Nat.zero_add, Nat.add_zero, Nat.reduceDiv, Nat.reduceMod, sm_k85 S, sm_R85_1 S, ↓sm_v85_1 S, sm_R85_2 S, ↓sm_v85_2 S, sm_R85_3 S, ↓sm_v85_3 S, sm_R85_4 S, ↓sm_v85_4 S, sm_R85_5 S, ↓sm_v85_5 S, sm_R85_7 S, ↓sm_v85_7 S, sm_R85_11 S, ↓sm_v85_11 S, sm_R85_12 S, ↓sm_v85_12 S, sm_R85_15 S, ↓sm_v85_15 S, sm_R85_16 S, ↓sm_v85_16 S, sm_R85_17 S, ↓sm_v85_17 S, sm_R85_26 S, ↓sm_v85_26 S, sm_R85_29 S, ↓sm_v85_29 S, sm_R85_30 S, ↓sm_v85_30 S, sm_R85_32 S, ↓sm_v85_32 S, sm_R85_33 S, ↓sm_v85_33 S, sm_R85_34 S, ↓sm_v85_34 S, sm_R85_35 S, ↓sm_v85_35 S, sm_R85_36 S, ↓sm_v85_36 S, sm_R85_37 S, ↓sm_v85_37 S, sm_R85_38 S, ↓sm_v85_38 S, sm_R85_40 S, ↓sm_v85_40 S, sm_R85_41 S, ↓sm_v85_41 S, sm_R85_48 S, ↓sm_v85_48 S, sm_R85_49 S, ↓sm_v85_49 S, sm_k86 S, sm_n86 S, sm_k87 S, sm_n87 S, sm_k88 S, sm_n88 S, sm_k89 S, sm_n89 S, sm_k90 S, sm_n90 S, sm_k91 S, sm_n91 S, sm_k92 S, sm_n92 S, sm_k93 S, sm_n93 S, sm_k94 S, sm_n94 S, sm_k95 S, sm_n95 S, sm_k96 S, sm_n96 S, sm_k97 S, sm_n97 S, sm_k98 S, sm_n98 S, sm_k99 S, sm_n99 S, sm_k100 S, sm_n100 S, sm_k101 S, sm_n101 S, sm_k102 S, sm_n102 S, sm_k103 S, sm_n103 S, sm_k104 S, sm_n104 S, sm_k105 S, sm_n105 S, sm_k106 S, sm_n106 S, sm_k107 S, sm_n107 S, sm_k108 S, sm_n108 S, sm_k109 S, sm_n109 S, sm_k110 S, sm_n110 S, hE_k, ↓ca, ↓M_sign_b, q']
      · simp (disch := first | exact sR_rfl _ _ rfl | omega) only [q_M_termOf_6, ft_lit, ft_m1, ft_m2, ft_m3, ft_m5, ft_m6, ft_cl, ft_lt, ft_le, ft_eq, ft_mlt, ft_ltm, ft_mltm, ft_meq, ft_eqm, ft_meqm, ft_add, ft_mul, ft_sub, ft_nm, ft_m1p, ft_and, ft_or, ft_31, ft_shl, ft_shr, ft_bz, ft_z0, ft_z1, ft_z01, ft_bb, ft_zt, ft_zf, ft_or0, ft_rv, ft_rvr, ft_rf, ft_rfn, ft_bI, ft_bJ, ft_bV, ft_bR, ft_bRn, ft_isr, ft_isn, ft_ifn, ft_ifr, ft_ov, ft_ovn, ft_in, k_sI, n_sI, R_sI, J_sI, c_sI, z_sI, k_sJ, n_sJ, R_sJ, I_sJ, c_sJ, z_sJ, k_sR, n_sR, I_sR, J_sR, c_sR, z_sR, k_wI, n_wI, R_wI, J_wI, I_wIe, k_wJ, n_wJ, R_wJ, I_wJ, J_wJe, I_wIn, J_wJn, I_sIe, J_sJe, R_sRe, I_sIn, I_sIk, J_sJn, J_sJk, R_sRn, R_sRk, eq_self, if_true, if_false, ↓reduceIte, cond_true, cond_false, ↓cond_eq_ite, and_true, true_and, and_false, false_and, or_true, true_or, or_false, false_or, not_true_eq_false, not_false_eq_true, ft_ltT, ft_ltF, ft_eqT, ft_eqF, Bool.false_eq_true, Bool.true_eq_false, Bool.not_true, Bool.not_false, Bool.and_true, Bool.true_and, Bool.and_false, Bool.false_and, decide_true, decide_false, Nat.reduceAdd, Nat.reduceMul, Nat.reduceSub, Nat.reduceEqDiff, Nat.reduceLT, Nat.zero_add, Nat.add_zero, Nat.reduceDiv, Nat.reduceMod, sm_k85 S, sm_R85_1 S, ↓sm_v85_1 S, sm_R85_2 S, ↓sm_v85_2 S, sm_R85_3 S, ↓sm_v85_3 S, sm_R85_4 S, ↓sm_v85_4 S, sm_R85_5 S, ↓sm_v85_5 S, sm_R85_7 S, ↓sm_v85_7 S, sm_R85_11 S, ↓sm_v85_11 S, sm_R85_12 S, ↓sm_v85_12 S, sm_R85_15 S, ↓sm_v85_15 S, sm_R85_16 S, ↓sm_v85_16 S, sm_R85_17 S, ↓sm_v85_17 S, sm_R85_26 S, ↓sm_v85_26 S, sm_R85_29 S, ↓sm_v85_29 S, sm_R85_30 S, ↓sm_v85_30 S, sm_R85_32 S, ↓sm_v85_32 S, sm_R85_33 S, ↓sm_v85_33 S, sm_R85_34 S, ↓sm_v85_34 S, sm_R85_35 S, ↓sm_v85_35 S, sm_R85_36 S, ↓sm_v85_36 S, sm_R85_37 S, ↓sm_v85_37 S, sm_R85_38 S, ↓sm_v85_38 S, sm_R85_40 S, ↓sm_v85_40 S, sm_R85_41 S, ↓sm_v85_41 S, sm_R85_48 S, ↓sm_v85_48 S, sm_R85_49 S, ↓sm_v85_49 S, sm_k86 S, sm_n86 S, sm_k87 S, sm_n87 S, sm_k88 S, sm_n88 S, sm_k89 S, sm_n89 S, sm_k90 S, sm_n90 S, sm_k91 S, sm_n91 S, sm_k92 S, sm_n92 S, sm_k93 S, sm_n93 S, sm_k94 S, sm_n94 S, sm_k95 S, sm_n95 S, sm_k96 S, sm_n96 S, sm_k97 S, sm_n97 S, sm_k98 S, sm_n98 S, sm_k99 S, sm_n99 S, sm_k100 S, sm_n100 S, sm_k101 S, sm_n101 S, sm_k102 S, sm_n102 S, sm_k103 S, sm_n103 S, sm_k104 S, sm_n104 S, sm_k105 S, sm_n105 S, sm_k106 S, sm_n106 S, sm_k107 S, sm_n107 S, sm_k108 S, sm_n108 S, sm_k109 S, sm_n109 S, sm_k110 S, sm_n110 S, hE_k, ↓ca, ↓M_sign_b, q']
      · simp (disch := first | exact sR_rfl _ _ rfl | omega) only [q_M_termOf_6, ft_lit, ft_m1, ft_m2, ft_m3, ft_m5, ft_m6, ft_cl, ft_lt, ft_le, ft_eq, ft_mlt, ft_ltm, ft_mltm, ft_meq, ft_eqm, ft_meqm, ft_add, ft_mul, ft_sub, ft_nm, ft_m1p, ft_and, ft_or, ft_31, ft_shl, ft_shr, ft_bz, ft_z0, ft_z1, ft_z01, ft_bb, ft_zt, ft_zf, ft_or0, ft_rv, ft_rvr, ft_rf, ft_rfn, ft_bI, ft_bJ, ft_bV, ft_bR, ft_bRn, ft_isr, ft_isn, ft_ifn, ft_ifr, ft_ov, ft_ovn, ft_in, k_sI, n_sI, R_sI, J_sI, c_sI, z_sI, k_sJ, n_sJ, R_sJ, I_sJ, c_sJ, z_sJ, k_sR, n_sR, I_sR, J_sR, c_sR, z_sR, k_wI, n_wI, R_wI, J_wI, I_wIe, k_wJ, n_wJ, R_wJ, I_wJ, J_wJe, I_wIn, J_wJn, I_sIe, J_sJe, R_sRe, I_sIn, I_sIk, J_sJn, J_sJk, R_sRn, R_sRk, eq_self, if_true, if_false, ↓reduceIte, cond_true, cond_false, ↓cond_eq_ite, and_true, true_and, and_false, false_and, or_true, true_or, or_false, false_or, not_true_eq_false, not_false_eq_true, ft_ltT, ft_ltF, ft_eqT, ft_eqF, Bool.false_eq_true, Bool.true_eq_false, Bool.not_true, Bool.not_false, Bool.and_true, Bool.true_and, Bool.and_false, Bool.false_and, decide_true, decide_false, Nat.reduceAdd, Nat.reduceMul, Nat.reduceSub, Nat.reduceEqDiff, Nat.reduceLT, Nat.zero_add, Nat.add_zero, Nat.reduceDiv, Nat.reduceMod, sm_k85 S, sm_R85_1 S, ↓sm_v85_1 S, sm_R85_2 S, ↓sm_v85_2 S, sm_R85_3 S, ↓sm_v85_3 S, sm_R85_4 S, ↓sm_v85_4 S, sm_R85_5 S, ↓sm_v85_5 S, sm_R85_7 S, ↓sm_v85_7 S, sm_R85_11 S, ↓sm_v85_11 S, sm_R85_12 S, ↓sm_v85_12 S, sm_R85_15 S, ↓sm_v85_15 S, sm_R85_16 S, ↓sm_v85_16 S, sm_R85_17 S, ↓sm_v85_17 S, sm_R85_26 S, ↓sm_v85_26 S, sm_R85_29 S, ↓sm_v85_29 S, sm_R85_30 S, ↓sm_v85_30 S, sm_R85_32 S, ↓sm_v85_32 S, sm_R85_33 S, ↓sm_v85_33 S, sm_R85_34 S, ↓sm_v85_34 S, sm_R85_35 S, ↓sm_v85_35 S, sm_R85_36 S, ↓sm_v85_36 S, sm_R85_37 S, ↓sm_v85_37 S, sm_R85_38 S, ↓sm_v85_38 S, sm_R85_40 S, ↓sm_v85_40 S, sm_R85_41 S, ↓sm_v85_41 S, sm_R85_48 S, ↓sm_v85_48 S, sm_R85_49 S, ↓sm_v85_49 S, sm_k86 S, sm_n86 S, sm_k87 S, sm_n87 S, sm_k88 S, sm_n88 S, sm_k89 S, sm_n89 S, sm_k90 S, sm_n90 S, sm_k91 S, sm_n91 S, sm_k92 S, sm_n92 S, sm_k93 S, sm_n93 S, sm_k94 S, sm_n94 S, sm_k95 S, sm_n95 S, sm_k96 S, sm_n96 S, sm_k97 S, sm_n97 S, sm_k98 S, sm_n98 S, sm_k99 S, sm_n99 S, sm_k100 S, sm_n100 S, sm_k101 S, sm_n101 S, sm_k102 S, sm_n102 S, sm_k103 S, sm_n103 S, sm_k104 S, sm_n104 S, sm_k105 S, sm_n105 S, sm_k106 S, sm_n106 S, sm_k107 S, sm_n107 S, sm_k108 S, sm_n108 S, sm_k109 S, sm_n109 S, sm_k110 S, sm_n110 S, hE_k, ↓ca, ↓M_sign_b, q']
    · have q2 : h_isT (T.1 t) = false := by simpa using q
      simp only [q2, Bool.and_false, Bool.false_eq_true, if_false] at hok ⊢
      unfold h_isT at q2
      simp only [Bool.or_eq_false_iff, beq_eq_false_iff_ne] at q2
      obtain ⟨⟨w1, w2⟩, w3⟩ := q2
      simp (disch := first | exact sR_rfl _ _ rfl | omega) only [q_M_termOf_6, ft_lit, ft_m1, ft_m2, ft_m3, ft_m5, ft_m6, ft_cl, ft_lt, ft_le, ft_eq, ft_mlt, ft_ltm, ft_mltm, ft_meq, ft_eqm, ft_meqm, ft_add, ft_mul, ft_sub, ft_nm, ft_m1p, ft_and, ft_or, ft_31, ft_shl, ft_shr, ft_bz, ft_z0, ft_z1, ft_z01, ft_bb, ft_zt, ft_zf, ft_or0, ft_rv, ft_rvr, ft_rf, ft_rfn, ft_bI, ft_bJ, ft_bV, ft_bR, ft_bRn, ft_isr, ft_isn, ft_ifn, ft_ifr, ft_ov, ft_ovn, ft_in, k_sI, n_sI, R_sI, J_sI, c_sI, z_sI, k_sJ, n_sJ, R_sJ, I_sJ, c_sJ, z_sJ, k_sR, n_sR, I_sR, J_sR, c_sR, z_sR, k_wI, n_wI, R_wI, J_wI, I_wIe, k_wJ, n_wJ, R_wJ, I_wJ, J_wJe, I_wIn, J_wJn, I_sIe, J_sJe, R_sRe, I_sIn, I_sIk, J_sJn, J_sJk, R_sRn, R_sRk, eq_self, if_true, if_false, ↓reduceIte, cond_true, cond_false, ↓cond_eq_ite, and_true, true_and, and_false, false_and, or_true, true_or, or_false, false_or, not_true_eq_false, not_false_eq_true, ft_ltT, ft_ltF, ft_eqT, ft_eqF, Bool.false_eq_true, Bool.true_eq_false, Bool.not_true, Bool.not_false, Bool.and_true, Bool.true_and, Bool.and_false, Bool.false_and, decide_true, decide_false, Nat.reduceAdd, Nat.reduceMul, Nat.reduceSub, Nat.reduceEqDiff, Nat.reduceLT, Nat.zero_add, Nat.add_zero, Nat.reduceDiv, Nat.reduceMod, sm_k85 S, sm_R85_1 S, ↓sm_v85_1 S, sm_R85_2 S, ↓sm_v85_2 S, sm_R85_3 S, ↓sm_v85_3 S, sm_R85_4 S, ↓sm_v85_4 S, sm_R85_5 S, ↓sm_v85_5 S, sm_R85_7 S, ↓sm_v85_7 S, sm_R85_11 S, ↓sm_v85_11 S, sm_R85_12 S, ↓sm_v85_12 S, sm_R85_15 S, ↓sm_v85_15 S, sm_R85_16 S, ↓sm_v85_16 S, sm_R85_17 S, ↓sm_v85_17 S, sm_R85_26 S, ↓sm_v85_26 S, sm_R85_29 S, ↓sm_v85_29 S, sm_R85_30 S, ↓sm_v85_30 S, sm_R85_32 S, ↓sm_v85_32 S, sm_R85_33 S, ↓sm_v85_33 S, sm_R85_34 S, ↓sm_v85_34 S, sm_R85_35 S, ↓sm_v85_35 S, sm_R85_36 S, ↓sm_v85_36 S, sm_R85_37 S, ↓sm_v85_37 S, sm_R85_38 S, ↓sm_v85_38 S, sm_R85_40 S, ↓sm_v85_40 S, sm_R85_41 S, ↓sm_v85_41 S, sm_R85_48 S, ↓sm_v85_48 S, sm_R85_49 S, ↓sm_v85_49 S, sm_k86 S, sm_n86 S, sm_k87 S, sm_n87 S, sm_k88 S, sm_n88 S, sm_k89 S, sm_n89 S, sm_k90 S, sm_n90 S, sm_k91 S, sm_n91 S, sm_k92 S, sm_n92 S, sm_k93 S, sm_n93 S, sm_k94 S, sm_n94 S, sm_k95 S, sm_n95 S, sm_k96 S, sm_n96 S, sm_k97 S, sm_n97 S, sm_k98 S, sm_n98 S, sm_k99 S, sm_n99 S, sm_k100 S, sm_n100 S, sm_k101 S, sm_n101 S, sm_k102 S, sm_n102 S, sm_k103 S, sm_n103 S, sm_k104 S, sm_n104 S, sm_k105 S, sm_n105 S, sm_k106 S, sm_n106 S, sm_k107 S, sm_n107 S, sm_k108 S, sm_n108 S, sm_k109 S, sm_n109 S, sm_k110 S, sm_n110 S, hE_k, ↓ca, ↓M_sign_b]
theorem E_term {F : Nat × Nat} (hF : FF F) {h : jH} {T : Tk} {j0 n : Nat} {od : Bool} (H : EM h T j0 n od) {e : Ev} (he : ∀ c k, -1000000 ≤ e c k ∧ e c k ≤ 1000000) {rc : Nat → List Value → jH → Option jO} {d : Nat} (h4 : n ≤ 400) (hrc : Er h n j0 e (fun x => rc 181 [.ref 85, .int x]) (h_part T od (h_sumr T od d))) : Er h n j0 e (m_M_termOf_r F rc 85) (h_term T od (h_sumr T od d)) := by
  intro t l live b ht hok
  have hn : T.1 n = 0 := H.2.2.2.2.1 n (Nat.le_refl _)
  have hf := hF.1
  have S := H.1
  have ok1 : (h_part T od (h_sumr T od d) (true, t, l)).1.1 = true := h_tl_f hok
  have k1 := h_part_ok (od := od) hn (h_sumr_ok (od := od) hn d) (s := (true, t, l)) ht
  have r0 := bJ_of (hrc t l live b ht ok1)
  simp (disch := first | exact sR_rfl _ _ rfl | omega) only [q_M_termOf_r, ft_lit, ft_m1, ft_m2, ft_m3, ft_m5, ft_m6, ft_cl, ft_lt, ft_le, ft_eq, ft_mlt, ft_ltm, ft_mltm, ft_meq, ft_eqm, ft_meqm, ft_add, ft_mul, ft_sub, ft_nm, ft_m1p, ft_and, ft_or, ft_31, ft_shl, ft_shr, ft_bz, ft_z0, ft_z1, ft_z01, ft_bb, ft_zt, ft_zf, ft_or0, ft_rv, ft_rvr, ft_rf, ft_rfn, ft_bI, ft_bJ, ft_bV, ft_bR, ft_bRn, ft_isr, ft_isn, ft_ifn, ft_ifr, ft_ov, ft_ovn, ft_in, k_sI, n_sI, R_sI, J_sI, c_sI, z_sI, k_sJ, n_sJ, R_sJ, I_sJ, c_sJ, z_sJ, k_sR, n_sR, I_sR, J_sR, c_sR, z_sR, k_wI, n_wI, R_wI, J_wI, I_wIe, k_wJ, n_wJ, R_wJ, I_wJ, J_wJe, I_wIn, J_wJn, I_sIe, J_sJe, R_sRe, I_sIn, I_sIk, J_sJn, J_sJk, R_sRn, R_sRk, eq_self, if_true, if_false, ↓reduceIte, cond_true, cond_false, ↓cond_eq_ite, and_true, true_and, and_false, false_and, or_true, true_or, or_false, false_or, not_true_eq_false, not_false_eq_true, ft_ltT, ft_ltF, ft_eqT, ft_eqF, Bool.false_eq_true, Bool.true_eq_false, Bool.not_true, Bool.not_false, Bool.and_true, Bool.true_and, Bool.and_false, Bool.false_and, decide_true, decide_false, Nat.reduceAdd, Nat.reduceMul, Nat.reduceSub, Nat.reduceEqDiff, Nat.reduceLT, Nat.zero_add, Nat.add_zero, Nat.reduceDiv, Nat.reduceMod, sm_k85 S, sm_R85_1 S, ↓sm_v85_1 S, sm_R85_2 S, ↓sm_v85_2 S, sm_R85_3 S, ↓sm_v85_3 S, sm_R85_4 S, ↓sm_v85_4 S, sm_R85_5 S, ↓sm_v85_5 S, sm_R85_7 S, ↓sm_v85_7 S, sm_R85_11 S, ↓sm_v85_11 S, sm_R85_12 S, ↓sm_v85_12 S, sm_R85_15 S, ↓sm_v85_15 S, sm_R85_16 S, ↓sm_v85_16 S, sm_R85_17 S, ↓sm_v85_17 S, sm_R85_26 S, ↓sm_v85_26 S, sm_R85_29 S, ↓sm_v85_29 S, sm_R85_30 S, ↓sm_v85_30 S, sm_R85_32 S, ↓sm_v85_32 S, sm_R85_33 S, ↓sm_v85_33 S, sm_R85_34 S, ↓sm_v85_34 S, sm_R85_35 S, ↓sm_v85_35 S, sm_R85_36 S, ↓sm_v85_36 S, sm_R85_37 S, ↓sm_v85_37 S, sm_R85_38 S, ↓sm_v85_38 S, sm_R85_40 S, ↓sm_v85_40 S, sm_R85_41 S, ↓sm_v85_41 S, sm_R85_48 S, ↓sm_v85_48 S, sm_R85_49 S, ↓sm_v85_49 S, sm_k86 S, sm_n86 S, sm_k87 S, sm_n87 S, sm_k88 S, sm_n88 S, sm_k89 S, sm_n89 S, sm_k90 S, sm_n90 S, sm_k91 S, sm_n91 S, sm_k92 S, sm_n92 S, sm_k93 S, sm_n93 S, sm_k94 S, sm_n94 S, sm_k95 S, sm_n95 S, sm_k96 S, sm_n96 S, sm_k97 S, sm_n97 S, sm_k98 S, sm_n98 S, sm_k99 S, sm_n99 S, sm_k100 S, sm_n100 S, sm_k101 S, sm_n101 S, sm_k102 S, sm_n102 S, sm_k103 S, sm_n103 S, sm_k104 S, sm_n104 S, sm_k105 S, sm_n105 S, sm_k106 S, sm_n106 S, sm_k107 S, sm_n107 S, sm_k108 S, sm_n108 S, sm_k109 S, sm_n109 S, sm_k110 S, sm_n110 S, hE_k, ↓r0]
  exact E_tl H he hrc live b hN F.1 (h_part T od (h_sumr T od d) (true, t, l)) k1.1 (by unfold hN; omega) (by omega) hok (h_part_b he (h_sumr_b he d) _)
theorem E_sl {F : Nat × Nat} {h : jH} {T : Tk} {j0 n : Nat} {od : Bool} (H : EM h T j0 n od) {e : Ev} (he : ∀ c k, -1000000 ≤ e c k ∧ e c k ≤ 1000000) {rc : Nat → List Value → jH → Option jO} {d : Nat} (hrc : Er h n j0 e (fun x => rc 180 [.ref 85, .int x]) (h_term T od (h_sumr T od d))) (live b : Bool) : ∀ f g (x : Rs), x.1.2.1 ≤ n → n < x.1.2.1 + f → n < x.1.2.1 + g → (h_sl T od (h_sumr T od d) f x).1.1 = true → h_bdd (x.2.2 e) → m_M_sumOf_6 F rc g 85 (nI (ft_z live)) (iL (hvl live b (x.2.2 e))) (hE h j0 x.1.2.1 (hbk live b (x.2.2 e).isNone)) = some (some (.long (iL (hvl live b ((h_sl T od (h_sumr T od d) f x).2.2 e)))), hE h j0 (h_sl T od (h_sumr T od d) f x).1.2.1 (hbk live b ((h_sl T od (h_sumr T od d) f x).2.2 e).isNone))
  | 0, g, x, h1, h3, h4, hok, hb => absurd h3 (by omega)
  | f + 1, 0, x, h1, h3, h4, hok, hb => absurd h4 (by omega)
  | f + 1, g + 1, x, h1, h3, h4, hok, hb => by
    have h0 := h_sl_f hok
    obtain ⟨⟨bx, t, l⟩, cd, dn⟩ := x
    simp only at h0 h1 h3 h4 hb ⊢
    subst h0
    have hn : T.1 n = 0 := H.2.2.2.2.1 n (Nat.le_refl _)
    have hn4 := H.2.2.2.1
    have ca := E_ca_b (F := F) H (g := t) (by omega) (hbk live b (dn e).isNone)
    obtain ⟨S, H1, H2, H3, H4, H5, H6⟩ := id H
    have b1 := (H5 t).1
    unfold h_sl at hok ⊢
    by_cases q : h_isA (T.1 t) = true
    · simp only [q, Bool.and_self, if_true] at hok ⊢
      have hlt : t < n := by
        have : t ≠ n := fun z => by rw [z, hn] at q; exact absurd q (by decide)
        omega
      have a0 : h_adv (true, t, l) = (true, t + 1, l) := rfl
      simp only [a0] at hok ⊢
      have k1 := h_term_ok (od := od) hn (h_sumr_ok (od := od) hn d) (s := (true, t + 1, l)) hlt
      have ok0 := h_sl_f hok
      have ok1 : (h_term T od (h_sumr T od d) (true, t + 1, l)).1.1 = true := ok0
      have h5 := (k1.2 ok1).2
      simp only at h5
      have hy := h_term_b (T := T) (od := od) he (h_sumr_b (T := T) (od := od) he d) (true, t + 1, l)
      have hrc' := fun b => bJ_of (hrc (t + 1) l live b hlt ok1)
      have ih := E_sl (F := F) H he hrc live b f g ((h_term T od (h_sumr T od d) (true, t + 1, l)).1, cd ++ (h_term T od (h_sumr T od d) (true, t + 1, l)).2.1 ++ [h_op (T.1 t)], fun e => h_cmb (h_op (T.1 t)) (dn e) ((h_term T od (h_sumr T od d) (true, t + 1, l)).2.2 e)) k1.1 (by show n < (h_term T od (h_sumr T od d) (true, t + 1, l)).1.2.1 + f; omega) (by show n < (h_term T od (h_sumr T od d) (true, t + 1, l)).1.2.1 + g; omega) hok (h_cmb_b _ _ _)
      rw [← ih]
      simp only
      generalize (h_term T od (h_sumr T od d) (true, t + 1, l)).2.2 e = y at hrc' hy
      generalize (h_term T od (h_sumr T od d) (true, t + 1, l)).1.2.1 = t' at hrc'
      generalize dn e = x at hb ca
      have r0 := hrc' (hbk live b x.isNone)
      have bv := hvl_b (live := live) (b := b) hb
      have bw := hvl_b (live := live) (b := hbk live b x.isNone) hy
      have vx : live = false → hvl live b x = 0 := fun q => by rw [q]; rfl
      have vy : live = false → hvl live (hbk live b x.isNone) y = 0 := fun q => by rw [q]; rfl
      have wx : ∀ a, live = true → b = false → x = some a → hvl live b x = a := fun a q1 q2 q3 => by rw [q1, q2, q3]; rfl
      have wy : ∀ a c, live = true → b = false → x = some a → y = some c → hvl live (hbk live b x.isNone) y = c := fun a c q1 q2 q3 q4 => by rw [q1, q2, q3, q4]; rfl
      generalize hv : hvl live b x = v at bv vx wx ⊢
      generalize hw : hvl live (hbk live b x.isNone) y = w at bw vy wy r0
      by_cases q1 : T.1 t = 143
      · have ho : h_op (T.1 t) = 6 := by rw [q1]; rfl
        rw [ho]
        obtain ⟨z1, z2⟩ := hc_op (live := live) (b := b) (x := x) (y := y) (z := h_cmb 6 x y) (raw := v + w) (fun a c l1 l2 l3 l4 => by rw [wx a l1 l2 l3, wy a c l1 l2 l3 l4, l3, l4]; rfl) (fun l => by rcases l with l | l <;> rw [l]; rfl; cases x <;> rfl) (fun l => by rw [vx l, vy l, Int.zero_add])
        have bn := E_bounded_b (F := F) H (v := v + w) (by omega) (by omega) live t' (hbk live (hbk live b x.isNone) y.isNone)
        rw [z2, z1, ← iL_add] at bn
        simp (disch := first | exact sR_rfl _ _ rfl | omega) only [q_M_sumOf_6, q_M_sumOf_59, ft_lit, ft_m1, ft_m2, ft_m3, ft_m5, ft_m6, ft_cl, ft_lt, ft_le, ft_eq, ft_mlt, ft_ltm, ft_mltm, ft_meq, ft_eqm, ft_meqm, ft_add, ft_mul, ft_sub, ft_nm, ft_m1p, ft_and, ft_or, ft_31, ft_shl, ft_shr, ft_bz, ft_z0, ft_z1, ft_z01, ft_bb, ft_zt, ft_zf, ft_or0, ft_rv, ft_rvr, ft_rf, ft_rfn, ft_bI, ft_bJ, ft_bV, ft_bR, ft_bRn, ft_isr, ft_isn, ft_ifn, ft_ifr, ft_ov, ft_ovn, ft_in, k_sI, n_sI, R_sI, J_sI, c_sI, z_sI, k_sJ, n_sJ, R_sJ, I_sJ, c_sJ, z_sJ, k_sR, n_sR, I_sR, J_sR, c_sR, z_sR, k_wI, n_wI, R_wI, J_wI, I_wIe, k_wJ, n_wJ, R_wJ, I_wJ, J_wJe, I_wIn, J_wJn, I_sIe, J_sJe, R_sRe, I_sIn, I_sIk, J_sJn, J_sJk, R_sRn, R_sRk, eq_self, if_true, if_false, ↓reduceIte, cond_true, cond_false, ↓cond_eq_ite, and_true, true_and, and_false, false_and, or_true, true_or, or_false, false_or, not_true_eq_false, not_false_eq_true, ft_ltT, ft_ltF, ft_eqT, ft_eqF, Bool.false_eq_true, Bool.true_eq_false, Bool.not_true, Bool.not_false, Bool.and_true, Bool.true_and, Bool.and_false, Bool.false_and, decide_true, decide_false, Nat.reduceAdd, Nat.reduceMul, Nat.reduceSub, Nat.reduceEqDiff, Nat.reduceLT, Nat.zero_add, Nat.add_zero, Nat.reduceDiv, Nat.reduceMod, sm_k85 S, sm_R85_1 S, ↓sm_v85_1 S, sm_R85_2 S, ↓sm_v85_2 S, sm_R85_3 S, ↓sm_v85_3 S, sm_R85_4 S, ↓sm_v85_4 S, sm_R85_5 S, ↓sm_v85_5 S, sm_R85_7 S, ↓sm_v85_7 S, sm_R85_11 S, ↓sm_v85_11 S, sm_R85_12 S, ↓sm_v85_12 S, sm_R85_15 S, ↓sm_v85_15 S, sm_R85_16 S, ↓sm_v85_16 S, sm_R85_17 S, ↓sm_v85_17 S, sm_R85_26 S, ↓sm_v85_26 S, sm_R85_29 S, ↓sm_v85_29 S, sm_R85_30 S, ↓sm_v85_30 S, sm_R85_32 S, ↓sm_v85_32 S, sm_R85_33 S, ↓sm_v85_33 S, sm_R85_34 S, ↓sm_v85_34 S, sm_R85_35 S, ↓sm_v85_35 S, sm_R85_36 S, ↓sm_v85_36 S, sm_R85_37 S, ↓sm_v85_37 S, sm_R85_38 S, ↓sm_v85_38 S, sm_R85_40 S, ↓sm_v85_40 S, sm_R85_41 S, ↓sm_v85_41 S, sm_R85_48 S, ↓sm_v85_48 S, sm_R85_49 S, ↓sm_v85_49 S, sm_k86 S, sm_n86 S, sm_k87 S, sm_n87 S, sm_k88 S, sm_n88 S, sm_k89 S, sm_n89 S, sm_k90 S, sm_n90 S, sm_k91 S, sm_n91 S, sm_k92 S, sm_n92 S, sm_k93 S, sm_n93 S, sm_k94 S, sm_n94 S, sm_k95 S, sm_n95 S, sm_k96 S, sm_n96 S, sm_k97 S, sm_n97 S, sm_k98 S, sm_n98 S, sm_k99 S, sm_n99 S, sm_k100 S, sm_n100 S, sm_k101 S, sm_n101 S, sm_k102 S, sm_n102 S, sm_k103 S, sm_n103 S, sm_k104 S, sm_n104 S, sm_k105 S, sm_n105 S, sm_k106 S, sm_n106 S, sm_k107 S, sm_n107 S, sm_k108 S, sm_n108 S, sm_k109 S, sm_n109 S, sm_k110 S, sm_n110 S, hE_k, hE_22, hE_sg, ↓ca, q1, ↓r0, ↓M_sign_b, ↓bn]
      · have q1' : T.1 t = 145 := by
          unfold h_isA at q
          simp only [Bool.or_eq_true, beq_iff_eq, q1, false_or] at q
          exact q
        have ho : h_op (T.1 t) = 7 := by rw [q1']; rfl
        rw [ho]
        obtain ⟨z1, z2⟩ := hc_op (live := live) (b := b) (x := x) (y := y) (z := h_cmb 7 x y) (raw := v - w) (fun a c l1 l2 l3 l4 => by rw [wx a l1 l2 l3, wy a c l1 l2 l3 l4, l3, l4]; rfl) (fun l => by rcases l with l | l <;> rw [l]; rfl; cases x <;> rfl) (fun l => by rw [vx l, vy l, Int.sub_self])
        have bn := E_bounded_b (F := F) H (v := v - w) (by omega) (by omega) live t' (hbk live (hbk live b x.isNone) y.isNone)
        rw [z2, z1, ← iL_sub] at bn
        simp (disch := first | exact sR_rfl _ _ rfl | omega) only [q_M_sumOf_6, q_M_sumOf_59, ft_lit, ft_m1, ft_m2, ft_m3, ft_m5, ft_m6, ft_cl, ft_lt, ft_le, ft_eq, ft_mlt, ft_ltm, ft_mltm, ft_meq, ft_eqm, ft_meqm, ft_add, ft_mul, ft_sub, ft_nm, ft_m1p, ft_and, ft_or, ft_31, ft_shl, ft_shr, ft_bz, ft_z0, ft_z1, ft_z01, ft_bb, ft_zt, ft_zf, ft_or0, ft_rv, ft_rvr, ft_rf, ft_rfn, ft_bI, ft_bJ, ft_bV, ft_bR, ft_bRn, ft_isr, ft_isn, ft_ifn, ft_ifr, ft_ov, ft_ovn, ft_in, k_sI, n_sI, R_sI, J_sI, c_sI, z_sI, k_sJ, n_sJ, R_sJ, I_sJ, c_sJ, z_sJ, k_sR, n_sR, I_sR, J_sR, c_sR, z_sR, k_wI, n_wI, R_wI, J_wI, I_wIe, k_wJ, n_wJ, R_wJ, I_wJ, J_wJe, I_wIn, J_wJn, I_sIe, J_sJe, R_sRe, I_sIn, I_sIk, J_sJn, J_sJk, R_sRn, R_sRk, eq_self, if_true, if_false, ↓reduceIte, cond_true, cond_false, ↓cond_eq_ite, and_true, true_and, and_false, false_and, or_true, true_or, or_false, false_or, not_true_eq_false, not_false_eq_true, ft_ltT, ft_ltF, ft_eqT, ft_eqF, Bool.false_eq_true, Bool.true_eq_false, Bool.not_true, Bool.not_false, Bool.and_true, Bool.true_and, Bool.and_false, Bool.false_and, decide_true, decide_false, Nat.reduceAdd, Nat.reduceMul, Nat.reduceSub, Nat.reduceEqDiff, Nat.reduceLT, Nat.zero_add, Nat.add_zero, Nat.reduceDiv, Nat.reduceMod, sm_k85 S, sm_R85_1 S, ↓sm_v85_1 S, sm_R85_2 S, ↓sm_v85_2 S, sm_R85_3 S, ↓sm_v85_3 S, sm_R85_4 S, ↓sm_v85_4 S, sm_R85_5 S, ↓sm_v85_5 S, sm_R85_7 S, ↓sm_v85_7 S, sm_R85_11 S, ↓sm_v85_11 S, sm_R85_12 S, ↓sm_v85_12 S, sm_R85_15 S, ↓sm_v85_15 S, sm_R85_16 S, ↓sm_v85_16 S, sm_R85_17 S, ↓sm_v85_17 S, sm_R85_26 S, ↓sm_v85_26 S, sm_R85_29 S, ↓sm_v85_29 S, sm_R85_30 S, ↓sm_v85_30 S, sm_R85_32 S, ↓sm_v85_32 S, sm_R85_33 S, ↓sm_v85_33 S, sm_R85_34 S, ↓sm_v85_34 S, sm_R85_35 S, ↓sm_v85_35 S, sm_R85_36 S, ↓sm_v85_36 S, sm_R85_37 S, ↓sm_v85_37 S, sm_R85_38 S, ↓sm_v85_38 S, sm_R85_40 S, ↓sm_v85_40 S, sm_R85_41 S, ↓sm_v85_41 S, sm_R85_48 S, ↓sm_v85_48 S, sm_R85_49 S, ↓sm_v85_49 S, sm_k86 S, sm_n86 S, sm_k87 S, sm_n87 S, sm_k88 S, sm_n88 S, sm_k89 S, sm_n89 S, sm_k90 S, sm_n90 S, sm_k91 S, sm_n91 S, sm_k92 S, sm_n92 S, sm_k93 S, sm_n93 S, sm_k94 S, sm_n94 S, sm_k95 S, sm_n95 S, sm_k96 S, sm_n96 S, sm_k97 S, sm_n97 S, sm_k98 S, sm_n98 S, sm_k99 S, sm_n99 S, sm_k100 S, sm_n100 S, sm_k101 S, sm_n101 S, sm_k102 S, sm_n102 S, sm_k103 S, sm_n103 S, sm_k104 S, sm_n104 S, sm_k105 S, sm_n105 S, sm_k106 S, sm_n106 S, sm_k107 S, sm_n107 S, sm_k108 S, sm_n108 S, sm_k109 S, sm_n109 S, sm_k110 S, sm_n110 S, hE_k, hE_22, hE_sg, ↓ca, q1', ↓r0, ↓M_sign_b, ↓bn]
    · have q2 : h_isA (T.1 t) = false := by simpa using q
      simp only [q2, Bool.and_false, Bool.false_eq_true, if_false] at hok ⊢
      unfold h_isA at q2
      simp only [Bool.or_eq_false_iff, beq_eq_false_iff_ne] at q2
      obtain ⟨w1, w2⟩ := q2
      simp (disch := first | exact sR_rfl _ _ rfl | omega) only [q_M_sumOf_6, ft_lit, ft_m1, ft_m2, ft_m3, ft_m5, ft_m6, ft_cl, ft_lt, ft_le, ft_eq, ft_mlt, ft_ltm, ft_mltm, ft_meq, ft_eqm, ft_meqm, ft_add, ft_mul, ft_sub, ft_nm, ft_m1p, ft_and, ft_or, ft_31, ft_shl, ft_shr, ft_bz, ft_z0, ft_z1, ft_z01, ft_bb, ft_zt, ft_zf, ft_or0, ft_rv, ft_rvr, ft_rf, ft_rfn, ft_bI, ft_bJ, ft_bV, ft_bR, ft_bRn, ft_isr, ft_isn, ft_ifn, ft_ifr, ft_ov, ft_ovn, ft_in, k_sI, n_sI, R_sI, J_sI, c_sI, z_sI, k_sJ, n_sJ, R_sJ, I_sJ, c_sJ, z_sJ, k_sR, n_sR, I_sR, J_sR, c_sR, z_sR, k_wI, n_wI, R_wI, J_wI, I_wIe, k_wJ, n_wJ, R_wJ, I_wJ, J_wJe, I_wIn, J_wJn, I_sIe, J_sJe, R_sRe, I_sIn, I_sIk, J_sJn, J_sJk, R_sRn, R_sRk, eq_self, if_true, if_false, ↓reduceIte, cond_true, cond_false, ↓cond_eq_ite, and_true, true_and, and_false, false_and, or_true, true_or, or_false, false_or, not_true_eq_false, not_false_eq_true, ft_ltT, ft_ltF, ft_eqT, ft_eqF, Bool.false_eq_true, Bool.true_eq_false, Bool.not_true, Bool.not_false, Bool.and_true, Bool.true_and, Bool.and_false, Bool.false_and, decide_true, decide_false, Nat.reduceAdd, Nat.reduceMul, Nat.reduceSub, Nat.reduceEqDiff, Nat.reduceLT, Nat.zero_add, Nat.add_zero, Nat.reduceDiv, Nat.reduceMod, sm_k85 S, sm_R85_1 S, ↓sm_v85_1 S, sm_R85_2 S, ↓sm_v85_2 S, sm_R85_3 S, ↓sm_v85_3 S, sm_R85_4 S, ↓sm_v85_4 S, sm_R85_5 S, ↓sm_v85_5 S, sm_R85_7 S, ↓sm_v85_7 S, sm_R85_11 S, ↓sm_v85_11 S, sm_R85_12 S, ↓sm_v85_12 S, sm_R85_15 S, ↓sm_v85_15 S, sm_R85_16 S, ↓sm_v85_16 S, sm_R85_17 S, ↓sm_v85_17 S, sm_R85_26 S, ↓sm_v85_26 S, sm_R85_29 S, ↓sm_v85_29 S, sm_R85_30 S, ↓sm_v85_30 S, sm_R85_32 S, ↓sm_v85_32 S, sm_R85_33 S, ↓sm_v85_33 S, sm_R85_34 S, ↓sm_v85_34 S, sm_R85_35 S, ↓sm_v85_35 S, sm_R85_36 S, ↓sm_v85_36 S, sm_R85_37 S, ↓sm_v85_37 S, sm_R85_38 S, ↓sm_v85_38 S, sm_R85_40 S, ↓sm_v85_40 S, sm_R85_41 S, ↓sm_v85_41 S, sm_R85_48 S, ↓sm_v85_48 S, sm_R85_49 S, ↓sm_v85_49 S, sm_k86 S, sm_n86 S, sm_k87 S, sm_n87 S, sm_k88 S, sm_n88 S, sm_k89 S, sm_n89 S, sm_k90 S, sm_n90 S, sm_k91 S, sm_n91 S, sm_k92 S, sm_n92 S, sm_k93 S, sm_n93 S, sm_k94 S, sm_n94 S, sm_k95 S, sm_n95 S, sm_k96 S, sm_n96 S, sm_k97 S, sm_n97 S, sm_k98 S, sm_n98 S, sm_k99 S, sm_n99 S, sm_k100 S, sm_n100 S, sm_k101 S, sm_n101 S, sm_k102 S, sm_n102 S, sm_k103 S, sm_n103 S, sm_k104 S, sm_n104 S, sm_k105 S, sm_n105 S, sm_k106 S, sm_n106 S, sm_k107 S, sm_n107 S, sm_k108 S, sm_n108 S, sm_k109 S, sm_n109 S, sm_k110 S, sm_n110 S, hE_k, ↓ca, ↓M_sign_b]
theorem E_su {F : Nat × Nat} (hF : FF F) {h : jH} {T : Tk} {j0 n : Nat} {od : Bool} (H : EM h T j0 n od) {e : Ev} (he : ∀ c k, -1000000 ≤ e c k ∧ e c k ≤ 1000000) {rc : Nat → List Value → jH → Option jO} {d : Nat} (h4 : n ≤ 400) (hrc : Er h n j0 e (fun x => rc 180 [.ref 85, .int x]) (h_term T od (h_sumr T od d))) : Er h n j0 e (m_M_sumOf_r F rc 85) (h_su T od (h_sumr T od d)) := by
  intro t l live b ht hok
  have hn : T.1 n = 0 := H.2.2.2.2.1 n (Nat.le_refl _)
  have hf := hF.1
  have S := H.1
  have ok1 : (h_term T od (h_sumr T od d) (true, t, l)).1.1 = true := h_sl_f hok
  have k1 := h_term_ok (od := od) hn (h_sumr_ok (od := od) hn d) (s := (true, t, l)) ht
  have r0 := bJ_of (hrc t l live b ht ok1)
  simp (disch := first | exact sR_rfl _ _ rfl | omega) only [q_M_sumOf_r, ft_lit, ft_m1, ft_m2, ft_m3, ft_m5, ft_m6, ft_cl, ft_lt, ft_le, ft_eq, ft_mlt, ft_ltm, ft_mltm, ft_meq, ft_eqm, ft_meqm, ft_add, ft_mul, ft_sub, ft_nm, ft_m1p, ft_and, ft_or, ft_31, ft_shl, ft_shr, ft_bz, ft_z0, ft_z1, ft_z01, ft_bb, ft_zt, ft_zf, ft_or0, ft_rv, ft_rvr, ft_rf, ft_rfn, ft_bI, ft_bJ, ft_bV, ft_bR, ft_bRn, ft_isr, ft_isn, ft_ifn, ft_ifr, ft_ov, ft_ovn, ft_in, k_sI, n_sI, R_sI, J_sI, c_sI, z_sI, k_sJ, n_sJ, R_sJ, I_sJ, c_sJ, z_sJ, k_sR, n_sR, I_sR, J_sR, c_sR, z_sR, k_wI, n_wI, R_wI, J_wI, I_wIe, k_wJ, n_wJ, R_wJ, I_wJ, J_wJe, I_wIn, J_wJn, I_sIe, J_sJe, R_sRe, I_sIn, I_sIk, J_sJn, J_sJk, R_sRn, R_sRk, eq_self, if_true, if_false, ↓reduceIte, cond_true, cond_false, ↓cond_eq_ite, and_true, true_and, and_false, false_and, or_true, true_or, or_false, false_or, not_true_eq_false, not_false_eq_true, ft_ltT, ft_ltF, ft_eqT, ft_eqF, Bool.false_eq_true, Bool.true_eq_false, Bool.not_true, Bool.not_false, Bool.and_true, Bool.true_and, Bool.and_false, Bool.false_and, decide_true, decide_false, Nat.reduceAdd, Nat.reduceMul, Nat.reduceSub, Nat.reduceEqDiff, Nat.reduceLT, Nat.zero_add, Nat.add_zero, Nat.reduceDiv, Nat.reduceMod, sm_k85 S, sm_R85_1 S, ↓sm_v85_1 S, sm_R85_2 S, ↓sm_v85_2 S, sm_R85_3 S, ↓sm_v85_3 S, sm_R85_4 S, ↓sm_v85_4 S, sm_R85_5 S, ↓sm_v85_5 S, sm_R85_7 S, ↓sm_v85_7 S, sm_R85_11 S, ↓sm_v85_11 S, sm_R85_12 S, ↓sm_v85_12 S, sm_R85_15 S, ↓sm_v85_15 S, sm_R85_16 S, ↓sm_v85_16 S, sm_R85_17 S, ↓sm_v85_17 S, sm_R85_26 S, ↓sm_v85_26 S, sm_R85_29 S, ↓sm_v85_29 S, sm_R85_30 S, ↓sm_v85_30 S, sm_R85_32 S, ↓sm_v85_32 S, sm_R85_33 S, ↓sm_v85_33 S, sm_R85_34 S, ↓sm_v85_34 S, sm_R85_35 S, ↓sm_v85_35 S, sm_R85_36 S, ↓sm_v85_36 S, sm_R85_37 S, ↓sm_v85_37 S, sm_R85_38 S, ↓sm_v85_38 S, sm_R85_40 S, ↓sm_v85_40 S, sm_R85_41 S, ↓sm_v85_41 S, sm_R85_48 S, ↓sm_v85_48 S, sm_R85_49 S, ↓sm_v85_49 S, sm_k86 S, sm_n86 S, sm_k87 S, sm_n87 S, sm_k88 S, sm_n88 S, sm_k89 S, sm_n89 S, sm_k90 S, sm_n90 S, sm_k91 S, sm_n91 S, sm_k92 S, sm_n92 S, sm_k93 S, sm_n93 S, sm_k94 S, sm_n94 S, sm_k95 S, sm_n95 S, sm_k96 S, sm_n96 S, sm_k97 S, sm_n97 S, sm_k98 S, sm_n98 S, sm_k99 S, sm_n99 S, sm_k100 S, sm_n100 S, sm_k101 S, sm_n101 S, sm_k102 S, sm_n102 S, sm_k103 S, sm_n103 S, sm_k104 S, sm_n104 S, sm_k105 S, sm_n105 S, sm_k106 S, sm_n106 S, sm_k107 S, sm_n107 S, sm_k108 S, sm_n108 S, sm_k109 S, sm_n109 S, sm_k110 S, sm_n110 S, hE_k, ↓r0]
  exact E_sl H he hrc live b hN F.1 (h_term T od (h_sumr T od d) (true, t, l)) k1.1 (by unfold hN; omega) (by omega) hok (h_term_b he (h_sumr_b he d) _)
theorem E_sum {F : Nat × Nat} (hF : FF F) {h : jH} {T : Tk} {j0 n : Nat} {od : Bool} (H : EM h T j0 n od) {e : Ev} (V : EV F h e j0 od) (h4 : n ≤ 400) : ∀ d f, 3 * d + 3 ≤ f → Er h n j0 e (fun x => rc2 F f 179 [.ref 85, .int x]) (h_sum T od d)
  | d, 0, hf => absurd hf (by omega)
  | d, 1, hf => absurd hf (by omega)
  | d, 2, hf => absurd hf (by omega)
  | d, f + 3, hf => by
    have p1 : Er h n j0 e (fun x => rc2 F (f + 1) 181 [.ref 85, .int x]) (h_part T od (h_sumr T od d)) :=
      E_part H V (fun e1 he => by
        subst he
        exact E_sum hF H V h4 e1 f (by omega))
    have p2 : Er h n j0 e (fun x => rc2 F (f + 2) 180 [.ref 85, .int x]) (h_term T od (h_sumr T od d)) := E_term hF H V.1 h4 p1
    have p3 : Er h n j0 e (fun x => rc2 F (f + 3) 179 [.ref 85, .int x]) (h_su T od (h_sumr T od d)) := E_su hF H V.1 h4 p2
    rw [h_sum_eq]
    exact p3
  termination_by d => d
theorem E_sumF {F : Nat × Nat} (hF : FF F) {h : jH} {T : Tk} {j0 n : Nat} {od : Bool} (H : EM h T j0 n od) {e : Ev} (V : EV F h e j0 od) (h4 : n ≤ 400) {d : Nat} (hd : d ≤ 8) : Er h n j0 e (m_M_sumOf F 85) (h_sum T od d) := E_sum hF H V h4 d F.2 (by have := hF.2; omega)
