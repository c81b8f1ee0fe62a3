/-! THE CLASS READS: tests, in one loop -/
theorem C_nl {F : Nat × Nat} {h : jH} {T : Tk} {ct vt pl : Nat → Nat} {n : Nat} (S : ShP h) (C : CT h T ct vt pl n) {rc : Nat → List Value → jH → Option jO} {dp : Nat} : ∀ f g nb t l sz (code : Nat → Int32) cnt, t ≤ n → n < t + f → n < t + g → cnt ≤ t → m_P_readsPlain_7 F rc g 60 (nI dp) (mI 0) (nI (ft_z nb)) (nI cnt) (hC h ct vt t l sz code) = m_P_readsPlain_51 F rc 60 (nI dp) (mI 0) (nI (ft_z (h_nl T f nb (true, t, l)).1)) (hC h ct vt (h_nl T f nb (true, t, l)).2.2.1 l sz code) ∧ (h_nl T f nb (true, t, l)).2 = (true, (h_nl T f nb (true, t, l)).2.2.1, l)
  | 0, g, nb, t, l, sz, code, cnt, ht, h1, h2, hc => absurd h1 (by omega)
  | f + 1, 0, nb, t, l, sz, code, cnt, ht, h1, h2, hc => absurd h2 (by omega)
  | f + 1, g + 1, nb, t, l, sz, code, cnt, ht, h1, h2, hc => by
    have hn := C.2.1
    have hT := C.2.2.1
    have b1 := (C.2.2.2.2.2.2.1 t).1
    have c7 := C.eq ht 306 7 (by decide)
    unfold h_nl
    by_cases q : T.1 t = 7
    · have hlt : t < n := by
        have : t ≠ n := fun z => by rw [z, hT] at q; omega
        omega
      have q1 : h_tk T 7 (true, t, l) = true := by unfold h_tk; simp [q]
      rw [if_pos q1]
      have a0 : h_adv (true, t, l) = (true, t + 1, l) := rfl
      rw [a0]
      obtain ⟨i1, i2⟩ := C_nl (F := F) S C (rc := rc) (dp := dp) f g (!nb) (t + 1) l sz code (cnt + 1) hlt (by omega) (by omega) (by omega)
      refine ⟨?_, i2⟩
      rw [← i1]
      have go := C_goTo_b (F := F) S C (l := l) (sz := sz) (code := code) hlt
      rw [q_P_readsPlain_7]
      cases nb <;> simp (disch := first | exact sR_rfl _ _ rfl | omega) only [ft_lit, ft_m1, ft_m2, ft_m3, ft_m5, ft_m6, ft_cl, ft_lt, ft_le, ft_eq, ft_mlt, ft_ltm, ft_mltm, ft_meq, ft_eqm, ft_meqm, ft_add, ft_mul, ft_sub, ft_nm, ft_m1p, ft_and, ft_or, ft_31, ft_shl, ft_shr, ft_bz, ft_z0, ft_z1, ft_z01, ft_bb, ft_zt, ft_zf, ft_or0, ft_rv, ft_rvr, ft_rf, ft_rfn, ft_bI, ft_bJ, ft_bV, ft_bR, ft_bRn, ft_isr, ft_isn, ft_ifn, ft_ifr, ft_ov, ft_ovn, ft_in, k_sI, n_sI, R_sI, J_sI, c_sI, z_sI, k_sJ, n_sJ, R_sJ, I_sJ, c_sJ, z_sJ, k_sR, n_sR, I_sR, J_sR, c_sR, z_sR, k_wI, n_wI, R_wI, J_wI, I_wIe, k_wJ, n_wJ, R_wJ, I_wJ, J_wJe, I_wIn, J_wJn, I_sIe, J_sJe, R_sRe, I_sIn, I_sIk, J_sJn, J_sJk, R_sRn, R_sRk, eq_self, if_true, if_false, ↓reduceIte, cond_true, cond_false, ↓cond_eq_ite, and_true, true_and, and_false, false_and, or_true, true_or, or_false, false_or, not_true_eq_false, not_false_eq_true, ft_ltT, ft_ltF, ft_eqT, ft_eqF, Bool.false_eq_true, Bool.true_eq_false, Bool.not_true, Bool.not_false, Bool.and_true, Bool.true_and, Bool.and_false, Bool.false_and, decide_true, decide_false, Nat.reduceAdd, Nat.reduceMul, Nat.reduceSub, Nat.reduceEqDiff, Nat.reduceLT, Nat.zero_add, Nat.add_zero, Nat.reduceDiv, Nat.reduceMod, S.1, S.2.1, S.2.2.1, S.2.2.2.1, S.2.2.2.2.1, S.2.2.2.2.2.1, S.2.2.2.2.2.2.1, S.2.2.2.2.2.2.2.1, S.2.2.2.2.2.2.2.2.1, S.2.2.2.2.2.2.2.2.2.1, S.2.2.2.2.2.2.2.2.2.2.1, S.2.2.2.2.2.2.2.2.2.2.2.1, S.2.2.2.2.2.2.2.2.2.2.2.2.1, S.2.2.2.2.2.2.2.2.2.2.2.2.2.1, S.2.2.2.2.2.2.2.2.2.2.2.2.2.2, ↓sp_3 S, ↓sp_4 S, ↓sp_5 S, ↓sp_6 S, ↓sp_0 S, hC_k, hC_8, c7, q, ↓go]
    · have q1 : h_tk T 7 (true, t, l) = false := by unfold h_tk; simp [q]
      rw [if_neg (by simp [q1])]
      refine ⟨?_, rfl⟩
      rw [q_P_readsPlain_7]
      simp (disch := first | exact sR_rfl _ _ rfl | omega) only [ft_lit, ft_m1, ft_m2, ft_m3, ft_m5, ft_m6, ft_cl, ft_lt, ft_le, ft_eq, ft_mlt, ft_ltm, ft_mltm, ft_meq, ft_eqm, ft_meqm, ft_add, ft_mul, ft_sub, ft_nm, ft_m1p, ft_and, ft_or, ft_31, ft_shl, ft_shr, ft_bz, ft_z0, ft_z1, ft_z01, ft_bb, ft_zt, ft_zf, ft_or0, ft_rv, ft_rvr, ft_rf, ft_rfn, ft_bI, ft_bJ, ft_bV, ft_bR, ft_bRn, ft_isr, ft_isn, ft_ifn, ft_ifr, ft_ov, ft_ovn, ft_in, k_sI, n_sI, R_sI, J_sI, c_sI, z_sI, k_sJ, n_sJ, R_sJ, I_sJ, c_sJ, z_sJ, k_sR, n_sR, I_sR, J_sR, c_sR, z_sR, k_wI, n_wI, R_wI, J_wI, I_wIe, k_wJ, n_wJ, R_wJ, I_wJ, J_wJe, I_wIn, J_wJn, I_sIe, J_sJe, R_sRe, I_sIn, I_sIk, J_sJn, J_sJk, R_sRn, R_sRk, eq_self, if_true, if_false, ↓reduceIte, cond_true, cond_false, ↓cond_eq_ite, and_true, true_and, and_false, false_and, or_true, true_or, or_false, false_or, not_true_eq_false, not_false_eq_true, ft_ltT, ft_ltF, ft_eqT, ft_eqF, Bool.false_eq_true, Bool.true_eq_false, Bool.not_true, Bool.not_false, Bool.and_true, Bool.true_and, Bool.and_false, Bool.false_and, decide_true, decide_false, Nat.reduceAdd, Nat.reduceMul, Nat.reduceSub, Nat.reduceEqDiff, Nat.reduceLT, Nat.zero_add, Nat.add_zero, Nat.reduceDiv, Nat.reduceMod, S.1, S.2.1, S.2.2.1, S.2.2.2.1, S.2.2.2.2.1, S.2.2.2.2.2.1, S.2.2.2.2.2.2.1, S.2.2.2.2.2.2.2.1, S.2.2.2.2.2.2.2.2.1, S.2.2.2.2.2.2.2.2.2.1, S.2.2.2.2.2.2.2.2.2.2.1, S.2.2.2.2.2.2.2.2.2.2.2.1, S.2.2.2.2.2.2.2.2.2.2.2.2.1, S.2.2.2.2.2.2.2.2.2.2.2.2.2.1, S.2.2.2.2.2.2.2.2.2.2.2.2.2.2, ↓sp_3 S, ↓sp_4 S, ↓sp_5 S, ↓sp_6 S, ↓sp_0 S, hC_k, hC_8, c7, q]
theorem C_plain {F : Nat × Nat} (hF : FF F) {h : jH} {T : Tk} {ct vt pl : Nat → Nat} {n : Nat} {od : Bool} (S : ShP h) (C : CT h T ct vt pl n) (O : j_I h 60 11 = nI (ft_z od)) {rc : Nat → List Value → jH → Option jO} {dp d : Nat} (hd : dp + d = 8) (hrc : ∀ e, d = e + 1 → ∀ t l sz code, t ≤ n → l ≤ 50 → sz ≤ t + 40 → Cr h ct vt pl sz code (rc 72 [.ref 60, .int (nI dp + nI 1)] (hC h ct vt t l sz code)) (h_test T od e (true, t, l)).1 ((h_test T od e (true, t, l)).2.1 sz)) {t l sz : Nat} {code : Nat → Int32} (ht : t ≤ n) (hl : l ≤ 50) (hsz : sz ≤ t + 40) : Cr h ct vt pl sz code (m_P_readsPlain_r F rc 60 (nI dp) (hC h ct vt t l sz code)) (h_plain T od (h_testr T od d) d (true, t, l)).1 ((h_plain T od (h_testr T od d) d (true, t, l)).2.1 sz) := by
  have hn := C.2.1
  have hT := C.2.2.1
  have hf := hF.1
  obtain ⟨i1, i2⟩ := C_nl (F := F) S C (rc := rc) (dp := dp) hN F.1 false t l sz code 0 ht (by unfold hN; omega) (by omega) (by omega)
  have k1 := h_nl_ok hT hN false (true, t, l) ht
  have k2 := h_nl_len (T := T) 0 hN false (true, t, l) (by rw [i2])
  have e0 : m_P_readsPlain_r F rc 60 (nI dp) (hC h ct vt t l sz code) = m_P_readsPlain_7 F rc F.1 60 (nI dp) (mI 0) (nI (ft_z false)) (nI 0) (hC h ct vt t l sz code) := q_P_readsPlain_r F rc 60 (nI dp) _
  rw [e0, i1]
  unfold h_plain
  simp only
  generalize hb : (h_nl T hN false (true, t, l)).1 = nb at k2 ⊢
  generalize hz : (h_nl T hN false (true, t, l)).2 = z at k1 k2 i2 ⊢
  obtain ⟨zb, zt, zl⟩ := z
  simp only at i2 k1 k2 ⊢
  have : zb = true ∧ zl = l := by
    have e1 := congrArg Prod.fst i2
    have e2 := congrArg (fun x => x.2.2) i2
    exact ⟨e1, e2⟩
  obtain ⟨rfl, rfl⟩ := this
  refine C_posi hF S C O hd hrc nb k1.1 hl ?_
  have h1 : zt ≥ t := k2.1
  cases nb
  · show sz + 0 ≤ zt + 40
    omega
  · have h2 : zt ≥ t + 1 := k2.2 (by decide)
    show sz + 1 ≤ zt + 40
    omega
def t_ap (op : Nat) (wh : Bool) (o : Option Rt) (r : Rt) : Rt := match o with
  | none => r
  | some x => (r.1, h_skip op x.2.1 r.2.1, fun e => h_both2 wh (x.2.2 e) (r.2.2 e))
def t_E (op : Nat) (o : Option Rt) (b : Nat) : List Nat := match o with
  | none => []
  | some x => x.2.1 b ++ [op]
def t_I (o : Option Rt) (b : Nat) : Int32 := match o with
  | none => mI 0
  | some x => nI (b + (x.2.1 b).length)
theorem t_ap_1 (op : Nat) (wh : Bool) (o : Option Rt) (r : Rt) : (t_ap op wh o r).1 = r.1 := by cases o <;> rfl
theorem t_ap_len (op : Nat) (wh : Bool) (o : Option Rt) (r : Rt) (b : Nat) : ((t_ap op wh o r).2.1 b).length = (t_E op o b).length + (r.2.1 (b + (t_E op o b).length)).length := by
  cases o with
  | none => simp [t_ap, t_E]
  | some x =>
    simp only [t_ap, t_E, h_skip, List.length_append, List.length_cons, List.length_nil]
    rw [show b + ((x.2.1 b).length + (0 + 1)) = b + (x.2.1 b).length + 1 by omega]
theorem h_bl_no {T : Tk} {od : Bool} {rec : Option (Ps → Rt)} {d : Nat} (f : Nat) {x : Rt} (h : x.1.1 = false) : h_bl T od rec d f x = x := by
  cases f with
  | zero => rfl
  | succ f => unfold h_bl; rw [if_neg (by simp [h_tk, h])]
theorem h_ol_no {T : Tk} {od : Bool} {rec : Option (Ps → Rt)} {d : Nat} (f : Nat) {x : Rt} (h : x.1.1 = false) : h_ol T od rec d f x = x := by
  cases f with
  | zero => rfl
  | succ f => unfold h_ol; rw [if_neg (by simp [h_tk, h])]
/-- a skip is told where it goes to -/
theorem C_skip {F : Nat × Nat} {h : jH} {ct vt : Nat → Nat} (S : ShP h) {op : Nat} (ho : op < 32) (wh : Bool) (o : Option Rt) (r : Rt) {t l b0 : Nat} {code : Nat → Int32} (pre : List Nat) (hs : b0 + (pre ++ t_E op o (b0 + pre.length) ++ r.2.1 (b0 + pre.length + (t_E op o (b0 + pre.length)).length)).length ≤ 480) : m_P_skipToHere F 60 (t_I o (b0 + pre.length)) (hC h ct vt t l (b0 + (pre ++ t_E op o (b0 + pre.length) ++ r.2.1 (b0 + pre.length + (t_E op o (b0 + pre.length)).length)).length) (cput code b0 (pre ++ t_E op o (b0 + pre.length) ++ r.2.1 (b0 + pre.length + (t_E op o (b0 + pre.length)).length)))) = some (none, hC h ct vt t l (b0 + (pre ++ (t_ap op wh o r).2.1 (b0 + pre.length)).length) (cput code b0 (pre ++ (t_ap op wh o r).2.1 (b0 + pre.length)))) := by
  cases o with
  | none =>
    simp only [t_I, t_E, t_ap, List.append_nil, List.length_nil, Nat.add_zero]
    exact C_skN
  | some x =>
    simp only [t_I, t_E, t_ap, h_skip] at hs ⊢
    generalize hb : b0 + pre.length = b at hs ⊢
    have e1 : b + (x.2.1 b ++ [op]).length = b + (x.2.1 b).length + 1 := by simp [Nat.add_assoc]
    rw [e1] at hs ⊢
    generalize x.2.1 b = Y at hs ⊢
    generalize r.2.1 (b + Y.length + 1) = P at hs ⊢
    have e2 : pre ++ (Y ++ [op]) ++ P = (pre ++ Y) ++ [op] ++ P := by simp [List.append_assoc]
    have e3 : b + Y.length = b0 + (pre ++ Y).length := by simp; omega
    have e4 : pre ++ (Y ++ [(b + Y.length + 1 + P.length) * 32 + op] ++ P) = (pre ++ Y) ++ [(b + Y.length + 1 + P.length) * 32 + op] ++ P := by simp [List.append_assoc]
    have e5 : b0 + ((pre ++ Y) ++ [op] ++ P).length = b + Y.length + 1 + P.length := by simp; omega
    have e6 : b0 + ((pre ++ Y) ++ [(b + Y.length + 1 + P.length) * 32 + op] ++ P).length = b + Y.length + 1 + P.length := by simp; omega
    rw [e2] at hs ⊢
    rw [e5] at hs ⊢
    rw [e4, e6]
    have := C_skA (F := F) (h := h) (ct := ct) (vt := vt) S (t := t) (l := l) (sz := b + Y.length + 1 + P.length) (k := b + Y.length) (op := op) (code := cput code b0 ((pre ++ Y) ++ [op] ++ P)) (by omega) (by omega) ho (by rw [e3]; exact cput_at _ _ _ _ _)
    rw [this, e3, cput_set]
theorem C_skip_b {F : Nat × Nat} {h : jH} {ct vt : Nat → Nat} (S : ShP h) {op : Nat} (ho : op < 32) (wh : Bool) (o : Option Rt) (r : Rt) {t l b0 : Nat} {code : Nat → Int32} (pre : List Nat) (hs : b0 + (pre ++ t_E op o (b0 + pre.length) ++ r.2.1 (b0 + pre.length + (t_E op o (b0 + pre.length)).length)).length ≤ 480) (ff : jH → Option jO) : jbV (m_P_skipToHere F 60 (t_I o (b0 + pre.length)) (hC h ct vt t l (b0 + (pre ++ t_E op o (b0 + pre.length) ++ r.2.1 (b0 + pre.length + (t_E op o (b0 + pre.length)).length)).length) (cput code b0 (pre ++ t_E op o (b0 + pre.length) ++ r.2.1 (b0 + pre.length + (t_E op o (b0 + pre.length)).length))))) ff = ff (hC h ct vt t l (b0 + (pre ++ (t_ap op wh o r).2.1 (b0 + pre.length)).length) (cput code b0 (pre ++ (t_ap op wh o r).2.1 (b0 + pre.length)))) := bV_of (C_skip (F := F) (h := h) (ct := ct) (vt := vt) (S := S) (op := op) (ho := ho) (wh := wh) (o := o) (r := r) (t := t) (l := l) (b0 := b0) (code := code) (pre := pre) (hs := hs)) ff
theorem C_tflat {F : Nat × Nat} {h : jH} {T : Tk} {ct vt pl : Nat → Nat} {n : Nat} {od : Bool} (S : ShP h) (C : CT h T ct vt pl n) {rc : Nat → List Value → jH → Option jO} {dp d : Nat} (hrc : ∀ t l sz code, t ≤ n → l ≤ 50 → sz ≤ t + 40 → Cr h ct vt pl sz code (rc 73 [.ref 60, .int (nI dp)] (hC h ct vt t l sz code)) (h_plain T od (h_testr T od d) d (true, t, l)).1 ((h_plain T od (h_testr T od d) d (true, t, l)).2.1 sz)) (b0 : Nat) (code0 : Nat → Int32) : ∀ g f1 f2 (oo ao : Option Rt) t l cnt, t ≤ n → l ≤ 50 → b0 + (t_E 5 oo b0).length + (t_E 4 ao (b0 + (t_E 5 oo b0).length)).length ≤ t + 40 → n < t + g → n < t + f1 → n < t + f2 → cnt ≤ t → Cr h ct vt pl b0 code0 (m_P_readsTest_7 F rc g 60 (nI dp) (t_I oo b0) (t_I ao (b0 + (t_E 5 oo b0).length)) (nI cnt) (hC h ct vt t l (b0 + (t_E 5 oo b0 ++ t_E 4 ao (b0 + (t_E 5 oo b0).length)).length) (cput code0 b0 (t_E 5 oo b0 ++ t_E 4 ao (b0 + (t_E 5 oo b0).length))))) (h_ol T od (h_testr T od d) d f2 (t_ap 5 false oo (h_bl T od (h_testr T od d) d f1 (t_ap 4 true ao (h_plain T od (h_testr T od d) d (true, t, l)))))).1 ((h_ol T od (h_testr T od d) d f2 (t_ap 5 false oo (h_bl T od (h_testr T od d) d f1 (t_ap 4 true ao (h_plain T od (h_testr T od d) d (true, t, l)))))).2.1 b0)
  | 0, f1, f2, oo, ao, t, l, cnt, ht, hl, hs, g1, g2, g3, hc => absurd g1 (by omega)
  | g + 1, 0, f2, oo, ao, t, l, cnt, ht, hl, hs, g1, g2, g3, hc => absurd g2 (by omega)
  | g + 1, f1 + 1, 0, oo, ao, t, l, cnt, ht, hl, hs, g1, g2, g3, hc => absurd g3 (by omega)
  | g + 1, f1 + 1, f2 + 1, oo, ao, t, l, cnt, ht, hl, hs, g1, g2, g3, hc => by
    have hn := C.2.1
    have hT := C.2.2.1
    generalize hA : t_E 5 oo b0 = A at hs ⊢
    generalize hb1 : b0 + A.length = b1 at hs ⊢
    generalize hY : t_E 4 ao b1 = Y at hs ⊢
    have hAY : b0 + (A ++ Y).length = b1 + Y.length := by rw [List.length_append]; omega
    rw [hAY]
    obtain ⟨p1, p2⟩ := hrc t l (b1 + Y.length) (cput code0 b0 (A ++ Y)) ht hl (by omega)
    have k1 := h_plain_ok (od := od) (d := d) hT (h_testr_ok (od := od) hT d) (s := (true, t, l)) ht
    have k2 := h_plain_lv (T := T) (od := od) (d := d) (h_testr_lv (T := T) (od := od) d) (s := (true, t, l)) ⟨by show l ≤ 51; omega, fun _ => hl⟩
    have k3 := h_plain_len (T := T) (od := od) (d := d) (h_testr_len (T := T) (od := od) d) (s := (true, t, l)) (b1 + Y.length)
    generalize h_plain T od (h_testr T od d) d (true, t, l) = r at p1 p2 k1 k2 k3 ⊢
    obtain ⟨⟨rb, rt, rl⟩, rcd, rd⟩ := r
    simp only at p1 p2 k3
    have hrt : rt ≤ n := k1.1
    cases rb
    · obtain ⟨l', sz', code', p2⟩ := p2 rfl
      have r0 := bI_of p2
      have e1 : (t_ap 4 true ao ((false, rt, rl), rcd, rd)).1.1 = false := by rw [t_ap_1]
      rw [h_bl_no _ e1]
      have e2 : (t_ap 5 false oo (t_ap 4 true ao ((false, rt, rl), rcd, rd))).1.1 = false := by rw [t_ap_1, t_ap_1]
      rw [h_ol_no _ e2, t_ap_1, t_ap_1]
      refine ⟨fun z => (nomatch z), fun _ => ⟨l', sz', code', ?_⟩⟩
      rw [q_P_readsTest_7]
      simp (disch := first | exact sR_rfl _ _ rfl | omega) only [ft_lit, ft_m1, ft_m2, ft_m3, ft_m5, ft_m6, ft_cl, ft_lt, ft_le, ft_eq, ft_mlt, ft_ltm, ft_mltm, ft_meq, ft_eqm, ft_meqm, ft_add, ft_mul, ft_sub, ft_nm, ft_m1p, ft_and, ft_or, ft_31, ft_shl, ft_shr, ft_bz, ft_z0, ft_z1, ft_z01, ft_bb, ft_zt, ft_zf, ft_or0, ft_rv, ft_rvr, ft_rf, ft_rfn, ft_bI, ft_bJ, ft_bV, ft_bR, ft_bRn, ft_isr, ft_isn, ft_ifn, ft_ifr, ft_ov, ft_ovn, ft_in, k_sI, n_sI, R_sI, J_sI, c_sI, z_sI, k_sJ, n_sJ, R_sJ, I_sJ, c_sJ, z_sJ, k_sR, n_sR, I_sR, J_sR, c_sR, z_sR, k_wI, n_wI, R_wI, J_wI, I_wIe, k_wJ, n_wJ, R_wJ, I_wJ, J_wJe, I_wIn, J_wJn, I_sIe, J_sJe, R_sRe, I_sIn, I_sIk, J_sJn, J_sJk, R_sRn, R_sRk, eq_self, if_true, if_false, ↓reduceIte, cond_true, cond_false, ↓cond_eq_ite, and_true, true_and, and_false, false_and, or_true, true_or, or_false, false_or, not_true_eq_false, not_false_eq_true, ft_ltT, ft_ltF, ft_eqT, ft_eqF, Bool.false_eq_true, Bool.true_eq_false, Bool.not_true, Bool.not_false, Bool.and_true, Bool.true_and, Bool.and_false, Bool.false_and, decide_true, decide_false, Nat.reduceAdd, Nat.reduceMul, Nat.reduceSub, Nat.reduceEqDiff, Nat.reduceLT, Nat.zero_add, Nat.add_zero, Nat.reduceDiv, Nat.reduceMod, S.1, S.2.1, S.2.2.1, S.2.2.2.1, S.2.2.2.2.1, S.2.2.2.2.2.1, S.2.2.2.2.2.2.1, S.2.2.2.2.2.2.2.1, S.2.2.2.2.2.2.2.2.1, S.2.2.2.2.2.2.2.2.2.1, S.2.2.2.2.2.2.2.2.2.2.1, S.2.2.2.2.2.2.2.2.2.2.2.1, S.2.2.2.2.2.2.2.2.2.2.2.2.1, S.2.2.2.2.2.2.2.2.2.2.2.2.2.1, S.2.2.2.2.2.2.2.2.2.2.2.2.2.2, ↓sp_3 S, ↓sp_4 S, ↓sp_5 S, ↓sp_6 S, ↓sp_0 S, hC_k, ↓r0]
    · have hgt : t < rt := (k1.2 rfl).2
      have hl1 : rl ≤ 50 := k2.2 rfl
      have hlen := k3 rfl
      have b6 := (C.2.2.2.2.2.2.1 rt).1
      have hp := p1 rfl
      have hAYc : cput (cput code0 b0 (A ++ Y)) (b1 + Y.length) (rcd (b1 + Y.length)) = cput code0 b0 (A ++ Y ++ rcd (b1 + Y.length)) := by rw [← hAY, cput_app]
      have hAYl : b1 + Y.length + (rcd (b1 + Y.length)).length = b0 + (A ++ Y ++ rcd (b1 + Y.length)).length := by simp only [List.length_append]; omega
      rw [hAYc, hAYl] at hp
      have r0 := bI_of hp
      have sk := bV_of (C_skip (F := F) (h := h) (ct := ct) (vt := vt) S (op := 4) (by omega) true ao ((true, rt, rl), rcd, rd) (t := rt) (l := rl) (b0 := b0) (code := code0) A (by rw [hb1, hY]; simp only [List.length_append]; omega))
      rw [hb1, hY] at sk
      generalize hy : t_ap 4 true ao ((true, rt, rl), rcd, rd) = y at sk
      have y1 : y.1 = (true, rt, rl) := by rw [← hy, t_ap_1]
      have yl : (y.2.1 b1).length = Y.length + (rcd (b1 + Y.length)).length := by rw [← hy, t_ap_len, hY]
      have c305 := C.eq hrt 305 6 (by decide)
      have c304 := C.eq hrt 304 5 (by decide)
      have hAy : b0 + (A ++ y.2.1 b1).length = b1 + (y.2.1 b1).length := by rw [List.length_append]; omega
      by_cases q : T.1 rt = 6
      · have hlt : rt < n := by
          have : rt ≠ n := fun z => by rw [z, hT] at q; omega
          omega
        have hbl : h_bl T od (h_testr T od d) d (f1 + 1) y = h_bl T od (h_testr T od d) d f1 (t_ap 4 true (some y) (h_plain T od (h_testr T od d) d (true, rt + 1, rl))) := by
          unfold h_bl
          rw [y1]
          rw [if_pos (by unfold h_tk; simp [q])]
          have a0 : h_adv (true, rt, rl) = (true, rt + 1, rl) := rfl
          rw [a0]
          cases f1 <;> rfl
        rw [hbl]
        have em := C_emit (F := F) (h := h) (ct := ct) (vt := vt) S (t := rt) (l := rl) (sz := b0 + (A ++ y.2.1 b1).length) (op := 4) (v := 0) (code := cput code0 b0 (A ++ y.2.1 b1)) (by omega) (by omega) (by omega)
        rw [Nat.zero_mul, Nat.zero_add, cput_snoc] at em
        have hE : A ++ y.2.1 b1 ++ [4] = t_E 5 oo b0 ++ t_E 4 (some y) b1 := by rw [hA]; simp [t_E, List.append_assoc]
        have hEl : b0 + (A ++ y.2.1 b1).length + 1 = b0 + (t_E 5 oo b0 ++ t_E 4 (some y) b1).length := by rw [← hE]; simp only [List.length_append, List.length_cons, List.length_nil]; omega
        rw [hE, hEl] at em
        have em := bI_of em
        have go := C_goTo_b (F := F) S C (l := rl) (sz := b0 + (t_E 5 oo b0 ++ t_E 4 (some y) b1).length) (code := cput code0 b0 (t_E 5 oo b0 ++ t_E 4 (some y) b1)) hlt
        have ih := C_tflat (F := F) S C hrc b0 code0 g f1 (f2 + 1) oo (some y) (rt + 1) rl (cnt + 1) hlt hl1 (by rw [hA, hb1]; simp only [t_E, List.length_append, List.length_cons, List.length_nil]; omega) (by omega) (by omega) (by omega) (by omega)
        rw [hA, hb1] at ih
        rw [hA] at em go
        have hI : nI (b0 + (A ++ y.2.1 b1).length) = t_I (some y) b1 := by rw [hAy]; rfl
        rw [hI] at em
        have hstep : m_P_readsTest_7 F rc (g + 1) 60 (nI dp) (t_I oo b0) (t_I ao b1) (nI cnt) (hC h ct vt t l (b1 + Y.length) (cput code0 b0 (A ++ Y))) = m_P_readsTest_7 F rc g 60 (nI dp) (t_I oo b0) (t_I (some y) b1) (nI (cnt + 1)) (hC h ct vt (rt + 1) rl (b0 + (A ++ t_E 4 (some y) b1).length) (cput code0 b0 (A ++ t_E 4 (some y) b1))) := by
          rw [q_P_readsTest_7]
          simp (disch := first | exact sR_rfl _ _ rfl | omega) only [ft_lit, ft_m1, ft_m2, ft_m3, ft_m5, ft_m6, ft_cl, ft_lt, ft_le, ft_eq, ft_mlt, ft_ltm, ft_mltm, ft_meq, ft_eqm, ft_meqm, ft_add, ft_mul, ft_sub, ft_nm, ft_m1p, ft_and, ft_or, ft_31, ft_shl, ft_shr, ft_bz, ft_z0, ft_z1, ft_z01, ft_bb, ft_zt, ft_zf, ft_or0, ft_rv, ft_rvr, ft_rf, ft_rfn, ft_bI, ft_bJ, ft_bV, ft_bR, ft_bRn, ft_isr, ft_isn, ft_ifn, ft_ifr, ft_ov, ft_ovn, ft_in, k_sI, n_sI, R_sI, J_sI, c_sI, z_sI, k_sJ, n_sJ, R_sJ, I_sJ, c_sJ, z_sJ, k_sR, n_sR, I_sR, J_sR, c_sR, z_sR, k_wI, n_wI, R_wI, J_wI, I_wIe, k_wJ, n_wJ, R_wJ, I_wJ, J_wJe, I_wIn, J_wJn, I_sIe, J_sJe, R_sRe, I_sIn, I_sIk, J_sJn, J_sJk, R_sRn, R_sRk, eq_self, if_true, if_false, ↓reduceIte, cond_true, cond_false, ↓cond_eq_ite, and_true, true_and, and_false, false_and, or_true, true_or, or_false, false_or, not_true_eq_false, not_false_eq_true, ft_ltT, ft_ltF, ft_eqT, ft_eqF, Bool.false_eq_true, Bool.true_eq_false, Bool.not_true, Bool.not_false, Bool.and_true, Bool.true_and, Bool.and_false, Bool.false_and, decide_true, decide_false, Nat.reduceAdd, Nat.reduceMul, Nat.reduceSub, Nat.reduceEqDiff, Nat.reduceLT, Nat.zero_add, Nat.add_zero, Nat.reduceDiv, Nat.reduceMod, S.1, S.2.1, S.2.2.1, S.2.2.2.1, S.2.2.2.2.1, S.2.2.2.2.2.1, S.2.2.2.2.2.2.1, S.2.2.2.2.2.2.2.1, S.2.2.2.2.2.2.2.2.1, S.2.2.2.2.2.2.2.2.2.1, S.2.2.2.2.2.2.2.2.2.2.1, S.2.2.2.2.2.2.2.2.2.2.2.1, S.2.2.2.2.2.2.2.2.2.2.2.2.1, S.2.2.2.2.2.2.2.2.2.2.2.2.2.1, S.2.2.2.2.2.2.2.2.2.2.2.2.2.2, ↓sp_3 S, ↓sp_4 S, ↓sp_5 S, ↓sp_6 S, ↓sp_0 S, hC_k, ↓r0, ↓sk, hC_8, c305, q, ↓em, ↓go]
        rw [hstep]
        exact ih
      · have hbl : h_bl T od (h_testr T od d) d (f1 + 1) y = y := by
          unfold h_bl
          rw [y1]
          rw [if_neg (by unfold h_tk; simp [q])]
        rw [hbl]
        have sk2 := bV_of (C_skip (F := F) (h := h) (ct := ct) (vt := vt) S (op := 5) (by omega) false oo y (t := rt) (l := rl) (b0 := b0) (code := code0) [] (by simp only [List.length_nil, Nat.add_zero, List.nil_append]; rw [hA, hb1]; omega))
        simp only [List.length_nil, Nat.add_zero, List.nil_append] at sk2
        rw [hA, hb1] at sk2
        generalize hx : t_ap 5 false oo y = x at sk2
        have x1 : x.1 = (true, rt, rl) := by rw [← hx, t_ap_1, y1]
        have xl : (x.2.1 b0).length = A.length + (y.2.1 b1).length := by rw [← hx, t_ap_len, hA, hb1]
        by_cases w : T.1 rt = 5
        · have hlt : rt < n := by
            have : rt ≠ n := fun z => by rw [z, hT] at w; omega
            omega
          have hol : h_ol T od (h_testr T od d) d (f2 + 1) x = h_ol T od (h_testr T od d) d f2 (t_ap 5 false (some x) (h_bl T od (h_testr T od d) d hN (t_ap 4 true none (h_plain T od (h_testr T od d) d (true, rt + 1, rl))))) := by
            unfold h_ol
            rw [x1]
            rw [if_pos (by unfold h_tk; simp [w])]
            have a0 : h_adv (true, rt, rl) = (true, rt + 1, rl) := rfl
            rw [a0]
            cases f2 <;> rfl
          rw [hol]
          have em := C_emit (F := F) (h := h) (ct := ct) (vt := vt) S (t := rt) (l := rl) (sz := b0 + (x.2.1 b0).length) (op := 5) (v := 0) (code := cput code0 b0 (x.2.1 b0)) (by omega) (by omega) (by omega)
          rw [Nat.zero_mul, Nat.zero_add, cput_snoc] at em
          have hE : x.2.1 b0 ++ [5] = t_E 5 (some x) b0 ++ t_E 4 none (b0 + (t_E 5 (some x) b0).length) := by simp [t_E]
          have hEl : b0 + (x.2.1 b0).length + 1 = b0 + (t_E 5 (some x) b0 ++ t_E 4 none (b0 + (t_E 5 (some x) b0).length)).length := by rw [← hE]; simp only [List.length_append, List.length_cons, List.length_nil]; omega
          rw [hE, hEl] at em
          have em := bI_of em
          have go := C_goTo_b (F := F) S C (l := rl) (sz := b0 + (t_E 5 (some x) b0 ++ t_E 4 none (b0 + (t_E 5 (some x) b0).length)).length) (code := cput code0 b0 (t_E 5 (some x) b0 ++ t_E 4 none (b0 + (t_E 5 (some x) b0).length))) hlt
          have ih := C_tflat (F := F) S C hrc b0 code0 g hN f2 (some x) none (rt + 1) rl (cnt + 1) hlt hl1 (by simp only [t_E, List.length_append, List.length_cons, List.length_nil]; omega) (by omega) (by unfold hN; omega) (by omega) (by omega)
          have hI : nI (b0 + (x.2.1 b0).length) = t_I (some x) b0 := rfl
          rw [hI] at em
          have hI2 : t_I none (b0 + (t_E 5 (some x) b0).length) = mI 0 := rfl
          rw [hI2] at ih
          have hstep : m_P_readsTest_7 F rc (g + 1) 60 (nI dp) (t_I oo b0) (t_I ao b1) (nI cnt) (hC h ct vt t l (b1 + Y.length) (cput code0 b0 (A ++ Y))) = m_P_readsTest_7 F rc g 60 (nI dp) (t_I (some x) b0) (mI 0) (nI (cnt + 1)) (hC h ct vt (rt + 1) rl (b0 + (t_E 5 (some x) b0 ++ t_E 4 none (b0 + (t_E 5 (some x) b0).length)).length) (cput code0 b0 (t_E 5 (some x) b0 ++ t_E 4 none (b0 + (t_E 5 (some x) b0).length)))) := by
            rw [q_P_readsTest_7]
            simp (disch := first | exact sR_rfl _ _ rfl | omega) only [ft_lit, ft_m1, ft_m2, ft_m3, ft_m5, ft_m6, ft_cl, ft_lt, ft_le, ft_eq, ft_mlt, ft_ltm, ft_mltm, ft_meq, ft_eqm, ft_meqm, ft_add, ft_mul, ft_sub, ft_nm, ft_m1p, ft_and, ft_or, ft_31, ft_shl, ft_shr, ft_bz, ft_z0, ft_z1, ft_z01, ft_bb, ft_zt, ft_zf, ft_or0, ft_rv, ft_rvr, ft_rf, ft_rfn, ft_bI, ft_bJ, ft_bV, ft_bR, ft_bRn, ft_isr, ft_isn, ft_ifn, ft_ifr, ft_ov, ft_ovn, ft_in, k_sI, n_sI, R_sI, J_sI, c_sI, z_sI, k_sJ, n_sJ, R_sJ, I_sJ, c_sJ, z_sJ, k_sR, n_sR, I_sR, J_sR, c_sR, z_sR, k_wI, n_wI, R_wI, J_wI, I_wIe, k_wJ, n_wJ, R_wJ, I_wJ, J_wJe, I_wIn, J_wJn, I_sIe, J_sJe, R_sRe, I_sIn, I_sIk, J_sJn, J_sJk, R_sRn, R_sRk, eq_self, if_true, if_false, ↓reduceIte, cond_true, cond_false, ↓cond_eq_ite, and_true, true_and, and_false, false_and, or_true, true_or, or_false, false_or, not_true_eq_false, not_false_eq_true, ft_ltT, ft_ltF, ft_eqT, ft_eqF, Bool.false_eq_true, Bool.true_eq_false, Bool.not_true, Bool.not_false, Bool.and_true, Bool.true_and, Bool.and_false, Bool.false_and, decide_true, decide_false, Nat.reduceAdd, Nat.reduceMul, Nat.reduceSub, Nat.reduceEqDiff, Nat.reduceLT, Nat.zero_add, Nat.add_zero, Nat.reduceDiv, Nat.reduceMod, S.1, S.2.1, S.2.2.1, S.2.2.2.1, S.2.2.2.2.1, S.2.2.2.2.2.1, S.2.2.2.2.2.2.1, S.2.2.2.2.2.2.2.1, S.2.2.2.2.2.2.2.2.1, S.2.2.2.2.2.2.2.2.2.1, S.2.2.2.2.2.2.2.2.2.2.1, S.2.2.2.2.2.2.2.2.2.2.2.1, S.2.2.2.2.2.2.2.2.2.2.2.2.1, S.2.2.2.2.2.2.2.2.2.2.2.2.2.1, S.2.2.2.2.2.2.2.2.2.2.2.2.2.2, ↓sp_3 S, ↓sp_4 S, ↓sp_5 S, ↓sp_6 S, ↓sp_0 S, hC_k, ↓r0, ↓sk, ↓sk2, hC_8, c305, c304, q, w, ↓em, ↓go]
          rw [hstep]
          exact ih
        · have hol : h_ol T od (h_testr T od d) d (f2 + 1) x = x := by
            unfold h_ol
            rw [x1]
            rw [if_neg (by unfold h_tk; simp [w])]
          rw [hol]
          refine ⟨fun _ => ?_, fun ok => by rw [x1] at ok; cases ok⟩
          rw [x1, q_P_readsTest_7]
          simp (disch := first | exact sR_rfl _ _ rfl | omega) only [ft_lit, ft_m1, ft_m2, ft_m3, ft_m5, ft_m6, ft_cl, ft_lt, ft_le, ft_eq, ft_mlt, ft_ltm, ft_mltm, ft_meq, ft_eqm, ft_meqm, ft_add, ft_mul, ft_sub, ft_nm, ft_m1p, ft_and, ft_or, ft_31, ft_shl, ft_shr, ft_bz, ft_z0, ft_z1, ft_z01, ft_bb, ft_zt, ft_zf, ft_or0, ft_rv, ft_rvr, ft_rf, ft_rfn, ft_bI, ft_bJ, ft_bV, ft_bR, ft_bRn, ft_isr, ft_isn, ft_ifn, ft_ifr, ft_ov, ft_ovn, ft_in, k_sI, n_sI, R_sI, J_sI, c_sI, z_sI, k_sJ, n_sJ, R_sJ, I_sJ, c_sJ, z_sJ, k_sR, n_sR, I_sR, J_sR, c_sR, z_sR, k_wI, n_wI, R_wI, J_wI, I_wIe, k_wJ, n_wJ, R_wJ, I_wJ, J_wJe, I_wIn, J_wJn, I_sIe, J_sJe, R_sRe, I_sIn, I_sIk, J_sJn, J_sJk, R_sRn, R_sRk, eq_self, if_true, if_false, ↓reduceIte, cond_true, cond_false, ↓cond_eq_ite, and_true, true_and, and_false, false_and, or_true, true_or, or_false, false_or, not_true_eq_false, not_false_eq_true, ft_ltT, ft_ltF, ft_eqT, ft_eqF, Bool.false_eq_true, Bool.true_eq_false, Bool.not_true, Bool.not_false, Bool.and_true, Bool.true_and, Bool.and_false, Bool.false_and, decide_true, decide_false, Nat.reduceAdd, Nat.reduceMul, Nat.reduceSub, Nat.reduceEqDiff, Nat.reduceLT, Nat.zero_add, Nat.add_zero, Nat.reduceDiv, Nat.reduceMod, S.1, S.2.1, S.2.2.1, S.2.2.2.1, S.2.2.2.2.1, S.2.2.2.2.2.1, S.2.2.2.2.2.2.1, S.2.2.2.2.2.2.2.1, S.2.2.2.2.2.2.2.2.1, S.2.2.2.2.2.2.2.2.2.1, S.2.2.2.2.2.2.2.2.2.2.1, S.2.2.2.2.2.2.2.2.2.2.2.1, S.2.2.2.2.2.2.2.2.2.2.2.2.1, S.2.2.2.2.2.2.2.2.2.2.2.2.2.1, S.2.2.2.2.2.2.2.2.2.2.2.2.2.2, ↓sp_3 S, ↓sp_4 S, ↓sp_5 S, ↓sp_6 S, ↓sp_0 S, hC_k, ↓r0, ↓sk, ↓sk2, hC_8, c305, c304, q, w]
theorem C_test {F : Nat × Nat} (hF : FF F) {h : jH} {T : Tk} {ct vt pl : Nat → Nat} {n : Nat} {od : Bool} (S : ShP h) (C : CT h T ct vt pl n) (O : j_I h 60 11 = nI (ft_z od)) : ∀ d dp f, dp + d = 8 → 2 * d + 2 ≤ f → ∀ t l sz code, t ≤ n → l ≤ 50 → sz ≤ t + 40 → Cr h ct vt pl sz code (rc1 F f 72 [.ref 60, .int (nI dp)] (hC h ct vt t l sz code)) (h_test T od d (true, t, l)).1 ((h_test T od d (true, t, l)).2.1 sz)
  | d, dp, 0, _, hf => absurd hf (by omega)
  | d, dp, 1, _, hf => absurd hf (by omega)
  | d, dp, f + 2, hd, hf => by
    intro t l sz code ht hl hs
    have hf1 := hF.1
    have hn := C.2.1
    have hp : ∀ t l sz code, t ≤ n → l ≤ 50 → sz ≤ t + 40 → Cr h ct vt pl sz code (rc1 F (f + 1) 73 [.ref 60, .int (nI dp)] (hC h ct vt t l sz code)) (h_plain T od (h_testr T od d) d (true, t, l)).1 ((h_plain T od (h_testr T od d) d (true, t, l)).2.1 sz) := by
      intro t l sz code ht hl hs
      refine C_plain (F := F) (rc := rc1 F f) hF S C O hd ?_ ht hl hs
      intro e he t l sz code ht hl hs
      subst he
      rw [ft_add]
      exact C_test hF S C O e (dp + 1) f (by omega) (by omega) t l sz code ht hl hs
    have := C_tflat (F := F) S C hp sz code F.1 hN hN none none t l 0 ht hl (by simp only [t_E, List.length_nil]; omega) (by omega) (by unfold hN; omega) (by unfold hN; omega) (by omega)
    simp only [t_E, List.append_nil, List.length_nil, Nat.add_zero, cput_nil] at this
    rw [h_test_eq]
    exact this
  termination_by d => d
theorem C_testF {F : Nat × Nat} (hF : FF F) {h : jH} {T : Tk} {ct vt pl : Nat → Nat} {n : Nat} {od : Bool} (S : ShP h) (C : CT h T ct vt pl n) (O : j_I h 60 11 = nI (ft_z od)) {d dp : Nat} (hd : dp + d = 8) {t l sz : Nat} {code : Nat → Int32} (ht : t ≤ n) (hl : l ≤ 50) (hs : sz ≤ t + 40) : Cr h ct vt pl sz code (m_P_readsTest F 60 (nI dp) (hC h ct vt t l sz code)) (h_test T od d (true, t, l)).1 ((h_test T od d (true, t, l)).2.1 sz) := C_test hF S C O d dp F.2 hd (by have := hF.2; omega) t l sz code ht hl hs
