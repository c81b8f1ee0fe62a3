/-! THE CLASS READS: sums, in one loop -/
def h_ap (o : Option (Nat × Rs)) (r : Rs) : Rs := match o with
  | none => r
  | some q => (r.1, q.2.2.1 ++ r.2.1 ++ [q.1], fun e => h_cmb q.1 (q.2.2.2 e) (r.2.2 e))
def h_apI (o : Option (Nat × Rs)) : Int32 := match o with
  | none => mI 0
  | some q => nI q.1
def h_apE (o : Option (Nat × Rs)) : List Nat := match o with
  | none => []
  | some q => q.2.2.1
def h_apO (o : Option (Nat × Rs)) : List Nat := match o with
  | none => []
  | some q => [q.1]
def h_apok (o : Option (Nat × Rs)) : Prop := ∀ q, o = some q → q.1 < 32
theorem h_ap_1 (o : Option (Nat × Rs)) (r : Rs) : (h_ap o r).1 = r.1 := by cases o <;> rfl
theorem h_ap_c (o : Option (Nat × Rs)) (r : Rs) : (h_ap o r).2.1 = h_apE o ++ r.2.1 ++ h_apO o := by
  cases o with
  | none => simp [h_ap, h_apE, h_apO]
  | some q => rfl
theorem h_tl_no {T : Tk} {od : Bool} {rec : Option (Ps → Rs)} (f : Nat) {x : Rs} (h : x.1.1 = false) : h_tl T od rec f x = x := by
  cases f with
  | zero => rfl
  | succ f => unfold h_tl; rw [if_neg (by simp [h])]
theorem h_sl_no {T : Tk} {od : Bool} {rec : Option (Ps → Rs)} (f : Nat) {x : Rs} (h : x.1.1 = false) : h_sl T od rec f x = x := by
  cases f with
  | zero => rfl
  | succ f => unfold h_sl; rw [if_neg (by simp [h])]
theorem C_ap {F : Nat × Nat} {h : jH} {ct vt : Nat → Nat} (S : ShP h) {o : Option (Nat × Rs)} (ho : h_apok o) {t l sz : Nat} {code : Nat → Int32} {c : List Nat} (hs : sz + c.length < 480) : m_P_emitIfAny F 60 (h_apI o) (hC h ct vt t l (sz + c.length) (cput code sz c)) = some (none, hC h ct vt t l (sz + (c ++ h_apO o).length) (cput code sz (c ++ h_apO o))) := by
  cases o with
  | none =>
    simp only [h_apI, h_apO, List.append_nil]
    exact C_emN
  | some q =>
    have e := C_emA (F := F) (h := h) (ct := ct) (vt := vt) S (t := t) (l := l) (sz := sz + c.length) (op := q.1) (code := cput code sz c) hs (ho q rfl)
    rw [cput_snoc] at e
    simp only [h_apI, h_apO, List.length_append, List.length_cons, List.length_nil]
    exact e
theorem C_ap_b {F : Nat × Nat} {h : jH} {ct vt : Nat → Nat} (S : ShP h) {o : Option (Nat × Rs)} (ho : h_apok o) {t l sz : Nat} {code : Nat → Int32} {c : List Nat} (hs : sz + c.length < 480) (ff : jH → Option jO) : jbV (m_P_emitIfAny F 60 (h_apI o) (hC h ct vt t l (sz + c.length) (cput code sz c))) ff = ff (hC h ct vt t l (sz + (c ++ h_apO o).length) (cput code sz (c ++ h_apO o))) := bV_of (C_ap (F := F) (h := h) (ct := ct) (vt := vt) (S := S) (o := o) (ho := ho) (t := t) (l := l) (sz := sz) (code := code) (c := c) (hs := hs)) ff
theorem C_flat {F : Nat × Nat} {h : jH} {T : Tk} {ct vt pl : Nat → Nat} {n : Nat} {od : Bool} (S : ShP h) (C : CT h T ct vt pl n) {rc : Nat → List Value → jH → Option jO} {dp d : Nat} (hrc : ∀ t l sz code, t ≤ n → l ≤ 50 → sz ≤ t + 40 → Cr h ct vt pl sz code (rc 64 [.ref 60, .int (nI dp)] (hC h ct vt t l sz code)) (h_part T od (h_sumr T od d) (true, t, l)).1 (h_part T od (h_sumr T od d) (true, t, l)).2.1) : ∀ g f1 f2 (ad tm : Option (Nat × Rs)) t l sz code cnt, h_apok ad → h_apok tm → t ≤ n → l ≤ 50 → sz + (h_apO tm).length + (h_apO ad).length ≤ t + 40 → n < t + g → n < t + f1 → n < t + f2 → cnt ≤ t → ∃ new, ((h_sl T od (h_sumr T od d) f2 (h_ap ad (h_tl T od (h_sumr T od d) f1 (h_ap tm (h_part T od (h_sumr T od d) (true, t, l)))))).1.1 = true → (h_sl T od (h_sumr T od d) f2 (h_ap ad (h_tl T od (h_sumr T od d) f1 (h_ap tm (h_part T od (h_sumr T od d) (true, t, l)))))).2.1 = h_apE ad ++ h_apE tm ++ new) ∧ Cr h ct vt pl sz code (m_P_readsSum_7 F rc g 60 (nI dp) (h_apI ad) (h_apI tm) (nI cnt) (hC h ct vt t l sz code)) (h_sl T od (h_sumr T od d) f2 (h_ap ad (h_tl T od (h_sumr T od d) f1 (h_ap tm (h_part T od (h_sumr T od d) (true, t, l)))))).1 new
  | 0, f1, f2, ad, tm, t, l, sz, code, cnt, ha, hm, ht, hl, hs, g1, g2, g3, hc => absurd g1 (by omega)
  | g + 1, 0, f2, ad, tm, t, l, sz, code, cnt, ha, hm, ht, hl, hs, g1, g2, g3, hc => absurd g2 (by omega)
  | g + 1, f1 + 1, 0, ad, tm, t, l, sz, code, cnt, ha, hm, ht, hl, hs, g1, g2, g3, hc => absurd g3 (by omega)
  | g + 1, f1 + 1, f2 + 1, ad, tm, t, l, sz, code, cnt, ha, hm, ht, hl, hs, g1, g2, g3, hc => by
    have hn := C.2.1
    have hT := C.2.2.1
    obtain ⟨p1, p2⟩ := hrc t l sz code ht hl (by omega)
    have k1 := h_part_ok (od := od) hT (h_sumr_ok (od := od) hT d) (s := (true, t, l)) ht
    have k2 := h_part_lv (T := T) (od := od) (h_sumr_lv (T := T) (od := od) d) (s := (true, t, l)) ⟨by show l ≤ 51; omega, fun _ => hl⟩
    have k3 := h_part_len (T := T) (od := od) (h_sumr_len (T := T) (od := od) d) (s := (true, t, l))
    generalize h_part T od (h_sumr T od d) (true, t, l) = r at p1 p2 k1 k2 k3 ⊢
    obtain ⟨⟨rb, rt, rl⟩, rcd, rd⟩ := r
    simp only at p1 p2 k3
    have hrt : rt ≤ n := k1.1
    cases rb
    · obtain ⟨l', sz', code', p2⟩ := p2 rfl
      have r0 := bI_of p2
      have e1 : (h_ap tm ((false, rt, rl), rcd, rd)).1.1 = false := by rw [h_ap_1]
      rw [h_tl_no _ e1]
      have e2 : (h_ap ad (h_ap tm ((false, rt, rl), rcd, rd))).1.1 = false := by rw [h_ap_1, h_ap_1]
      rw [h_sl_no _ e2, h_ap_1, h_ap_1]
      refine ⟨[], fun z => (nomatch z), fun z => (nomatch z), fun _ => ⟨l', sz', code', ?_⟩⟩
      rw [q_P_readsSum_7]
      simp (disch := first | exact sR_rfl _ _ rfl | omega) only [ft_lit, ft_m1, ft_m2, ft_m3, ft_m5, ft_m6, ft_cl, ft_lt, ft_le, ft_eq, ft_mlt, ft_ltm, ft_mltm, ft_meq, ft_eqm, ft_meqm, ft_add, ft_mul, ft_sub, ft_nm, ft_m1p, ft_and, ft_or, ft_31, ft_shl, ft_shr, ft_bz, ft_z0, ft_z1, ft_z01, ft_bb, ft_zt, ft_zf, ft_or0, ft_rv, ft_rvr, ft_rf, ft_rfn, ft_bI, ft_bJ, ft_bV, ft_bR, ft_bRn, ft_isr, ft_isn, ft_ifn, ft_ifr, ft_ov, ft_ovn, ft_in, k_sI, n_sI, R_sI, J_sI, c_sI, z_sI, k_sJ, n_sJ, R_sJ, I_sJ, c_sJ, z_sJ, k_sR, n_sR, I_sR, J_sR, c_sR, z_sR, k_wI, n_wI, R_wI, J_wI, I_wIe, k_wJ, n_wJ, R_wJ, I_wJ, J_wJe, I_wIn, J_wJn, I_sIe, J_sJe, R_sRe, I_sIn, I_sIk, J_sJn, J_sJk, R_sRn, R_sRk, eq_self, if_true, if_false, ↓reduceIte, cond_true, cond_false, ↓cond_eq_ite, and_true, true_and, and_false, false_and, or_true, true_or, or_false, false_or, not_true_eq_false, not_false_eq_true, ft_ltT, ft_ltF, ft_eqT, ft_eqF, Bool.false_eq_true, Bool.true_eq_false, Bool.not_true, Bool.not_false, Bool.and_true, Bool.true_and, Bool.and_false, Bool.false_and, decide_true, decide_false, Nat.reduceAdd, Nat.reduceMul, Nat.reduceSub, Nat.reduceEqDiff, Nat.reduceLT, Nat.zero_add, Nat.add_zero, Nat.reduceDiv, Nat.reduceMod, S.1, S.2.1, S.2.2.1, S.2.2.2.1, S.2.2.2.2.1, S.2.2.2.2.2.1, S.2.2.2.2.2.2.1, S.2.2.2.2.2.2.2.1, S.2.2.2.2.2.2.2.2.1, S.2.2.2.2.2.2.2.2.2.1, S.2.2.2.2.2.2.2.2.2.2.1, S.2.2.2.2.2.2.2.2.2.2.2.1, S.2.2.2.2.2.2.2.2.2.2.2.2.1, S.2.2.2.2.2.2.2.2.2.2.2.2.2.1, S.2.2.2.2.2.2.2.2.2.2.2.2.2.2, ↓sp_3 S, ↓sp_4 S, ↓sp_5 S, ↓sp_6 S, ↓sp_0 S, hC_k, ↓r0]
    · have r0 := bI_of (p1 rfl)
      have hgt : t < rt := (k1.2 rfl).2
      have hl1 : rl ≤ 50 := k2.2 rfl
      have hlen := k3 rfl
      have b6 := (C.2.2.2.2.2.2.1 rt).1
      have em := bV_of (C_ap (F := F) (h := h) (ct := ct) (vt := vt) S hm (t := rt) (l := rl) (sz := sz) (code := code) (c := rcd) (by omega))
      generalize hy : h_ap tm ((true, rt, rl), rcd, rd) = y
      have y1 : y.1 = (true, rt, rl) := by rw [← hy, h_ap_1]
      have y2 : y.2.1 = h_apE tm ++ rcd ++ h_apO tm := by rw [← hy, h_ap_c]
      have hcl : (rcd ++ h_apO tm).length = rcd.length + (h_apO tm).length := List.length_append
      generalize hcc : rcd ++ h_apO tm = cc at em hcl
      have ti := C_timing_b (F := F) C (hC h ct vt rt rl (sz + cc.length) (cput code sz cc)) hrt
      rw [← hC_8 h ct vt rt rl (sz + cc.length) (cput code sz cc)] at ti
      by_cases q : h_isT (T.1 rt) = true
      · have hlt : rt < n := by
          have : rt ≠ n := fun z => by rw [z, hT] at q; exact absurd q (by decide)
          omega
        rw [q] at ti
        simp only [if_true] at ti
        have hop := h_opT q
        have go := C_goTo_b (F := F) S C (l := rl) (sz := sz + cc.length) (code := cput code sz cc) hlt
        have htl : h_tl T od (h_sumr T od d) (f1 + 1) y = h_tl T od (h_sumr T od d) f1 (h_ap (some (h_op (T.1 rt), y)) (h_part T od (h_sumr T od d) (true, rt + 1, rl))) := by
          unfold h_tl
          rw [y1]
          rw [if_pos (by simp [q])]
          have a0 : h_adv (true, rt, rl) = (true, rt + 1, rl) := rfl
          rw [a0]
          cases f1 <;> rfl
        rw [htl]
        obtain ⟨new, n1, n2, n3⟩ := C_flat (F := F) S C hrc g f1 (f2 + 1) ad (some (h_op (T.1 rt), y)) (rt + 1) rl (sz + cc.length) (cput code sz cc) (cnt + 1) ha (fun q hq => by cases Option.some.inj hq; show h_op (T.1 rt) < 32; omega) hlt hl1 (by have : (h_apO (some (h_op (T.1 rt), y))).length = 1 := rfl; omega) (by omega) (by omega) (by omega) (by omega)
        have hstep : m_P_readsSum_7 F rc (g + 1) 60 (nI dp) (h_apI ad) (h_apI tm) (nI cnt) (hC h ct vt t l sz code) = m_P_readsSum_7 F rc g 60 (nI dp) (h_apI ad) (nI (h_op (T.1 rt))) (nI (cnt + 1)) (hC h ct vt (rt + 1) rl (sz + cc.length) (cput code sz cc)) := by
          rw [q_P_readsSum_7]
          simp (disch := first | exact sR_rfl _ _ rfl | omega) only [ft_lit, ft_m1, ft_m2, ft_m3, ft_m5, ft_m6, ft_cl, ft_lt, ft_le, ft_eq, ft_mlt, ft_ltm, ft_mltm, ft_meq, ft_eqm, ft_meqm, ft_add, ft_mul, ft_sub, ft_nm, ft_m1p, ft_and, ft_or, ft_31, ft_shl, ft_shr, ft_bz, ft_z0, ft_z1, ft_z01, ft_bb, ft_zt, ft_zf, ft_or0, ft_rv, ft_rvr, ft_rf, ft_rfn, ft_bI, ft_bJ, ft_bV, ft_bR, ft_bRn, ft_isr, ft_isn, ft_ifn, ft_ifr, ft_ov, ft_ovn, ft_in, k_sI, n_sI, R_sI, J_sI, c_sI, z_sI, k_sJ, n_sJ, R_sJ, I_sJ, c_sJ, z_sJ, k_sR, n_sR, I_sR, J_sR, c_sR, z_sR, k_wI, n_wI, R_wI, J_wI, I_wIe, k_wJ, n_wJ, R_wJ, I_wJ, J_wJe, I_wIn, J_wJn, I_sIe, J_sJe, R_sRe, I_sIn, I_sIk, J_sJn, J_sJk, R_sRn, R_sRk, eq_self, if_true, if_false, ↓reduceIte, cond_true, cond_false, ↓cond_eq_ite, and_true, true_and, and_false, false_and, or_true, true_or, or_false, false_or, not_true_eq_false, not_false_eq_true, ft_ltT, ft_ltF, ft_eqT, ft_eqF, Bool.false_eq_true, Bool.true_eq_false, Bool.not_true, Bool.not_false, Bool.and_true, Bool.true_and, Bool.and_false, Bool.false_and, decide_true, decide_false, Nat.reduceAdd, Nat.reduceMul, Nat.reduceSub, Nat.reduceEqDiff, Nat.reduceLT, Nat.zero_add, Nat.add_zero, Nat.reduceDiv, Nat.reduceMod, S.1, S.2.1, S.2.2.1, S.2.2.2.1, S.2.2.2.2.1, S.2.2.2.2.2.1, S.2.2.2.2.2.2.1, S.2.2.2.2.2.2.2.1, S.2.2.2.2.2.2.2.2.1, S.2.2.2.2.2.2.2.2.2.1, S.2.2.2.2.2.2.2.2.2.2.1, S.2.2.2.2.2.2.2.2.2.2.2.1, S.2.2.2.2.2.2.2.2.2.2.2.2.1, S.2.2.2.2.2.2.2.2.2.2.2.2.2.1, S.2.2.2.2.2.2.2.2.2.2.2.2.2.2, ↓sp_3 S, ↓sp_4 S, ↓sp_5 S, ↓sp_6 S, ↓sp_0 S, hC_k, ↓r0, ↓em, ↓ti, ↓go]
        rw [hstep]
        refine ⟨cc ++ new, fun ok => ?_, fun ok => ?_, fun ok => ?_⟩
        · rw [n1 ok]
          show h_apE ad ++ y.2.1 ++ new = _
          rw [y2, ← hcc]
          simp [List.append_assoc]
        · refine (n2 ok).trans ?_
          rw [cput_app, List.length_append, Nat.add_assoc]
        · exact n3 ok
      · have q' : h_isT (T.1 rt) = false := by simpa using q
        rw [q'] at ti
        simp only [Bool.false_eq_true, if_false] at ti
        have htl : h_tl T od (h_sumr T od d) (f1 + 1) y = y := by
          unfold h_tl
          rw [y1]
          rw [if_neg (by simp [q'])]
        rw [htl]
        have em2 := bV_of (C_ap (F := F) (h := h) (ct := ct) (vt := vt) S ha (t := rt) (l := rl) (sz := sz) (code := code) (c := cc) (by omega))
        generalize hx : h_ap ad y = x
        have x1 : x.1 = (true, rt, rl) := by rw [← hx, h_ap_1, y1]
        have x2 : x.2.1 = h_apE ad ++ y.2.1 ++ h_apO ad := by rw [← hx, h_ap_c]
        have hdl : (cc ++ h_apO ad).length = cc.length + (h_apO ad).length := List.length_append
        generalize hdd : cc ++ h_apO ad = dd at em2 hdl
        have ai := C_adding_b (F := F) C (hC h ct vt rt rl (sz + dd.length) (cput code sz dd)) hrt
        rw [← hC_8 h ct vt rt rl (sz + dd.length) (cput code sz dd)] at ai
        have xE : x.2.1 = h_apE ad ++ h_apE tm ++ dd := by
          rw [x2, y2, ← hdd, ← hcc]
          simp [List.append_assoc]
        by_cases w : h_isA (T.1 rt) = true
        · have hlt : rt < n := by
            have : rt ≠ n := fun z => by rw [z, hT] at w; exact absurd w (by decide)
            omega
          rw [w] at ai
          simp only [if_true] at ai
          have hop := h_opA w
          have go := C_goTo_b (F := F) S C (l := rl) (sz := sz + dd.length) (code := cput code sz dd) hlt
          have hsl : h_sl T od (h_sumr T od d) (f2 + 1) x = h_sl T od (h_sumr T od d) f2 (h_ap (some (h_op (T.1 rt), x)) (h_tl T od (h_sumr T od d) hN (h_ap none (h_part T od (h_sumr T od d) (true, rt + 1, rl))))) := by
            unfold h_sl
            rw [x1]
            rw [if_pos (by simp [w])]
            have a0 : h_adv (true, rt, rl) = (true, rt + 1, rl) := rfl
            rw [a0]
            cases f2 <;> rfl
          rw [hsl]
          obtain ⟨new, n1, n2, n3⟩ := C_flat (F := F) S C hrc g hN f2 (some (h_op (T.1 rt), x)) none (rt + 1) rl (sz + dd.length) (cput code sz dd) (cnt + 1) (fun q hq => by cases Option.some.inj hq; show h_op (T.1 rt) < 32; omega) (fun q hq => by cases hq) hlt hl1 (by have : (h_apO (some (h_op (T.1 rt), x))).length = 1 := rfl; have : (h_apO none).length = 0 := rfl; omega) (by omega) (by unfold hN; omega) (by omega) (by omega)
          have hstep : m_P_readsSum_7 F rc (g + 1) 60 (nI dp) (h_apI ad) (h_apI tm) (nI cnt) (hC h ct vt t l sz code) = m_P_readsSum_7 F rc g 60 (nI dp) (nI (h_op (T.1 rt))) (mI 0) (nI (cnt + 1)) (hC h ct vt (rt + 1) rl (sz + dd.length) (cput code sz dd)) := by
            rw [q_P_readsSum_7]
            simp (disch := first | exact sR_rfl _ _ rfl | omega) only [ft_lit, ft_m1, ft_m2, ft_m3, ft_m5, ft_m6, ft_cl, ft_lt, ft_le, ft_eq, ft_mlt, ft_ltm, ft_mltm, ft_meq, ft_eqm, ft_meqm, ft_add, ft_mul, ft_sub, ft_nm, ft_m1p, ft_and, ft_or, ft_31, ft_shl, ft_shr, ft_bz, ft_z0, ft_z1, ft_z01, ft_bb, ft_zt, ft_zf, ft_or0, ft_rv, ft_rvr, ft_rf, ft_rfn, ft_bI, ft_bJ, ft_bV, ft_bR, ft_bRn, ft_isr, ft_isn, ft_ifn, ft_ifr, ft_ov, ft_ovn, ft_in, k_sI, n_sI, R_sI, J_sI, c_sI, z_sI, k_sJ, n_sJ, R_sJ, I_sJ, c_sJ, z_sJ, k_sR, n_sR, I_sR, J_sR, c_sR, z_sR, k_wI, n_wI, R_wI, J_wI, I_wIe, k_wJ, n_wJ, R_wJ, I_wJ, J_wJe, I_wIn, J_wJn, I_sIe, J_sJe, R_sRe, I_sIn, I_sIk, J_sJn, J_sJk, R_sRn, R_sRk, eq_self, if_true, if_false, ↓reduceIte, cond_true, cond_false, ↓cond_eq_ite, and_true, true_and, and_false, false_and, or_true, true_or, or_false, false_or, not_true_eq_false, not_false_eq_true, ft_ltT, ft_ltF, ft_eqT, ft_eqF, Bool.false_eq_true, Bool.true_eq_false, Bool.not_true, Bool.not_false, Bool.and_true, Bool.true_and, Bool.and_false, Bool.false_and, decide_true, decide_false, Nat.reduceAdd, Nat.reduceMul, Nat.reduceSub, Nat.reduceEqDiff, Nat.reduceLT, Nat.zero_add, Nat.add_zero, Nat.reduceDiv, Nat.reduceMod, S.1, S.2.1, S.2.2.1, S.2.2.2.1, S.2.2.2.2.1, S.2.2.2.2.2.1, S.2.2.2.2.2.2.1, S.2.2.2.2.2.2.2.1, S.2.2.2.2.2.2.2.2.1, S.2.2.2.2.2.2.2.2.2.1, S.2.2.2.2.2.2.2.2.2.2.1, S.2.2.2.2.2.2.2.2.2.2.2.1, S.2.2.2.2.2.2.2.2.2.2.2.2.1, S.2.2.2.2.2.2.2.2.2.2.2.2.2.1, S.2.2.2.2.2.2.2.2.2.2.2.2.2.2, ↓sp_3 S, ↓sp_4 S, ↓sp_5 S, ↓sp_6 S, ↓sp_0 S, hC_k, ↓r0, ↓em, ↓ti, ↓em2, ↓ai, ↓go]
          rw [hstep]
          refine ⟨dd ++ new, fun ok => ?_, fun ok => ?_, fun ok => ?_⟩
          · rw [n1 ok]
            show x.2.1 ++ [] ++ new = _
            rw [xE]
            simp [List.append_assoc]
          · refine (n2 ok).trans ?_
            rw [cput_app, List.length_append, Nat.add_assoc]
          · exact n3 ok
        · have w' : h_isA (T.1 rt) = false := by simpa using w
          rw [w'] at ai
          simp only [Bool.false_eq_true, if_false] at ai
          have hsl : h_sl T od (h_sumr T od d) (f2 + 1) x = x := by
            unfold h_sl
            rw [x1]
            rw [if_neg (by simp [w'])]
          rw [hsl]
          refine ⟨dd, fun _ => xE, fun ok => ?_, fun ok => ?_⟩
          · rw [x1, q_P_readsSum_7]
            simp (disch := first | exact sR_rfl _ _ rfl | omega) only [ft_lit, ft_m1, ft_m2, ft_m3, ft_m5, ft_m6, ft_cl, ft_lt, ft_le, ft_eq, ft_mlt, ft_ltm, ft_mltm, ft_meq, ft_eqm, ft_meqm, ft_add, ft_mul, ft_sub, ft_nm, ft_m1p, ft_and, ft_or, ft_31, ft_shl, ft_shr, ft_bz, ft_z0, ft_z1, ft_z01, ft_bb, ft_zt, ft_zf, ft_or0, ft_rv, ft_rvr, ft_rf, ft_rfn, ft_bI, ft_bJ, ft_bV, ft_bR, ft_bRn, ft_isr, ft_isn, ft_ifn, ft_ifr, ft_ov, ft_ovn, ft_in, k_sI, n_sI, R_sI, J_sI, c_sI, z_sI, k_sJ, n_sJ, R_sJ, I_sJ, c_sJ, z_sJ, k_sR, n_sR, I_sR, J_sR, c_sR, z_sR, k_wI, n_wI, R_wI, J_wI, I_wIe, k_wJ, n_wJ, R_wJ, I_wJ, J_wJe, I_wIn, J_wJn, I_sIe, J_sJe, R_sRe, I_sIn, I_sIk, J_sJn, J_sJk, R_sRn, R_sRk, eq_self, if_true, if_false, ↓reduceIte, cond_true, cond_false, ↓cond_eq_ite, and_true, true_and, and_false, false_and, or_true, true_or, or_false, false_or, not_true_eq_false, not_false_eq_true, ft_ltT, ft_ltF, ft_eqT, ft_eqF, Bool.false_eq_true, Bool.true_eq_false, Bool.not_true, Bool.not_false, Bool.and_true, Bool.true_and, Bool.and_false, Bool.false_and, decide_true, decide_false, Nat.reduceAdd, Nat.reduceMul, Nat.reduceSub, Nat.reduceEqDiff, Nat.reduceLT, Nat.zero_add, Nat.add_zero, Nat.reduceDiv, Nat.reduceMod, S.1, S.2.1, S.2.2.1, S.2.2.2.1, S.2.2.2.2.1, S.2.2.2.2.2.1, S.2.2.2.2.2.2.1, S.2.2.2.2.2.2.2.1, S.2.2.2.2.2.2.2.2.1, S.2.2.2.2.2.2.2.2.2.1, S.2.2.2.2.2.2.2.2.2.2.1, S.2.2.2.2.2.2.2.2.2.2.2.1, S.2.2.2.2.2.2.2.2.2.2.2.2.1, S.2.2.2.2.2.2.2.2.2.2.2.2.2.1, S.2.2.2.2.2.2.2.2.2.2.2.2.2.2, ↓sp_3 S, ↓sp_4 S, ↓sp_5 S, ↓sp_6 S, ↓sp_0 S, hC_k, ↓r0, ↓em, ↓ti, ↓em2, ↓ai]
          · rw [x1] at ok
            cases ok
/-- a sum, as a whole -/
theorem C_sum {F : Nat × Nat} (hF : FF F) {h : jH} {T : Tk} {ct vt pl : Nat → Nat} {n : Nat} {od : Bool} (S : ShP h) (C : CT h T ct vt pl n) (O : j_I h 60 11 = nI (ft_z od)) : ∀ d dp f, dp + d = 8 → 2 * d + 2 ≤ f → ∀ t l sz code, t ≤ n → l ≤ 50 → sz ≤ t + 40 → Cr h ct vt pl sz code (rc0 F f 63 [.ref 60, .int (nI dp)] (hC h ct vt t l sz code)) (h_sum T od d (true, t, l)).1 (h_sum T od d (true, t, l)).2.1
  | d, dp, 0, _, hf => absurd hf (by omega)
  | d, dp, 1, _, hf => absurd hf (by omega)
  | d, dp, f + 2, hd, hf => by
    intro t l sz code ht hl hs
    have hf1 := hF.1
    have hn := C.2.1
    have hp : ∀ t l sz code, t ≤ n → l ≤ 50 → sz ≤ t + 40 → Cr h ct vt pl sz code (rc0 F (f + 1) 64 [.ref 60, .int (nI dp)] (hC h ct vt t l sz code)) (h_part T od (h_sumr T od d) (true, t, l)).1 (h_part T od (h_sumr T od d) (true, t, l)).2.1 := by
      intro t l sz code ht hl hs
      refine C_part (F := F) (rc := rc0 F f) S C O hd ?_ ht hl hs
      intro e he t l sz code ht hl hs
      subst he
      rw [ft_add]
      exact C_sum hF S C O e (dp + 1) f (by omega) (by omega) t l sz code ht hl hs
    obtain ⟨new, n1, n2, n3⟩ := C_flat (F := F) S C hp F.1 hN hN none none t l sz code 0 (fun q hq => by cases hq) (fun q hq => by cases hq) ht hl (by have : (h_apO none).length = 0 := rfl; omega) (by omega) (by unfold hN; omega) (by unfold hN; omega) (by omega)
    rw [h_sum_eq]
    have hsu : h_su T od (h_sumr T od d) (true, t, l) = h_sl T od (h_sumr T od d) hN (h_ap none (h_tl T od (h_sumr T od d) hN (h_ap none (h_part T od (h_sumr T od d) (true, t, l))))) := rfl
    rw [hsu]
    refine ⟨fun ok => ?_, fun ok => n3 ok⟩
    rw [n1 ok]
    exact n2 ok
  termination_by d => d
theorem C_sumF {F : Nat × Nat} (hF : FF F) {h : jH} {T : Tk} {ct vt pl : Nat → Nat} {n : Nat} {od : Bool} (S : ShP h) (C : CT h T ct vt pl n) (O : j_I h 60 11 = nI (ft_z od)) {d dp : Nat} (hd : dp + d = 8) {t l sz : Nat} {code : Nat → Int32} (ht : t ≤ n) (hl : l ≤ 50) (hs : sz ≤ t + 40) : Cr h ct vt pl sz code (m_P_readsSum F 60 (nI dp) (hC h ct vt t l sz code)) (h_sum T od d (true, t, l)).1 (h_sum T od d (true, t, l)).2.1 := C_sum hF S C O d dp F.2 hd (by have := hF.2; omega) t l sz code ht hl hs
