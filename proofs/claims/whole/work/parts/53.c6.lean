/-! THE CLASS READS: clauses -/
def ShQ (h : jH) : Prop := j_R h 62 1 = some 64 ∧ j_R h 62 2 = some 65 ∧ j_R h 62 3 = some 66 ∧ j_R h 62 4 = some 67 ∧ j_R h 62 5 = some 68 ∧ j_k h 64 = 0 ∧ j_n h 64 = 12 ∧ j_k h 65 = 0 ∧ j_n h 65 = 12 ∧ j_k h 66 = 0 ∧ j_n h 66 = 12 ∧ j_k h 67 = 0 ∧ j_n h 67 = 12 ∧ j_k h 68 = 0 ∧ j_n h 68 = 12
theorem ShF.Q {h : jH} (S : ShF h) : ShQ h := ⟨sf_R62_1 S, sf_R62_2 S, sf_R62_3 S, sf_R62_4 S, sf_R62_5 S, sf_k64 S, sf_n64 S, sf_k65 S, sf_n65 S, sf_k66 S, sf_n66 S, sf_k67 S, sf_n67 S, sf_k68 S, sf_n68 S⟩
theorem sq_1 {h : jH} (S : ShQ h) {h2 : jH} (e : sR h2 h) (f : Nat → Option jO) : j_rv (va_rf (j_R h2 62 1)) f = f 64 := rv_of S.1 e f
theorem sq_2 {h : jH} (S : ShQ h) {h2 : jH} (e : sR h2 h) (f : Nat → Option jO) : j_rv (va_rf (j_R h2 62 2)) f = f 65 := rv_of S.2.1 e f
theorem sq_3 {h : jH} (S : ShQ h) {h2 : jH} (e : sR h2 h) (f : Nat → Option jO) : j_rv (va_rf (j_R h2 62 3)) f = f 66 := rv_of S.2.2.1 e f
theorem sq_4 {h : jH} (S : ShQ h) {h2 : jH} (e : sR h2 h) (f : Nat → Option jO) : j_rv (va_rf (j_R h2 62 4)) f = f 67 := rv_of S.2.2.2.1 e f
theorem sq_5 {h : jH} (S : ShQ h) {h2 : jH} (e : sR h2 h) (f : Nat → Option jO) : j_rv (va_rf (j_R h2 62 5)) f = f 68 := rv_of S.2.2.2.2.1 e f
theorem hC_sb {h : jH} {ct vt : Nat → Nat} {t l sz a k : Nat} {code : Nat → Int32} {x : Int32} (ha : a < 60 ∨ a = 61 ∨ 63 < a) : j_sI (hC h ct vt t l sz code) a k x = hC (j_sI h a k x) ct vt t l sz code := by
  refine heq_of (by rfl) (by rfl) ?_
  intro b i
  by_cases e1 : b = a
  · subst e1
    rw [hC_I ha]
    by_cases e2 : i = k
    · subst e2; rw [I_sIe, I_sIe]
    · rw [I_sIk e2, I_sIk e2, hC_I ha]
  · rw [I_sIn e1]
    unfold hC
    by_cases h3 : b = 63
    · subst h3; rw [I_wIe, I_wIe]
    · by_cases h2 : b = 62
      · subst h2
        rw [I_wIn h3, I_wIe, I_wIn h3, I_wIe, I_sIn e1]
      · by_cases h0 : b = 60
        · subst h0
          rw [I_wIn h3, I_wIn h2, I_wIe, I_wIn h3, I_wIn h2, I_wIe, I_sIn e1]
        · rw [I_wIn h3, I_wIn h2, I_wIn h0, I_wIn h3, I_wIn h2, I_wIn h0, I_sIn e1]
theorem CT.fr {h h' : jH} {T : Tk} {ct vt pl : Nat → Nat} {n : Nat} (C : CT h T ct vt pl n) {D E : Nat → Nat → Prop} (x : jX D E h h') (d : ∀ a i, D a i → a < 69 ∨ 71 < a) : CT h' T ct vt pl n :=
  ⟨fun i hi => ⟨(x.I (fun q => by have := d _ _ q; omega)).trans (C.1 i hi).1, (x.I (fun q => by have := d _ _ q; omega)).trans (C.1 i hi).2.1, (x.I (fun q => by have := d _ _ q; omega)).trans (C.1 i hi).2.2⟩, C.2⟩
/-- the codes and places of a clause's pieces -/
def zc1 (o : Option (List Nat × Dn)) : List Nat := match o with
  | none => []
  | some d => d.1 ++ [0]
def zc3 (o : Option ((Nat → List Nat) × Dt)) (b : Nat) : List Nat := match o with
  | none => []
  | some d => d.1 b ++ [0]
def zI {α : Type} (o : Option α) (b : Nat) : Int32 := match o with
  | none => mI 0
  | some _ => nI b
def zif (h : jH) (i sz : Nat) (o : Option ((Nat → List Nat) × Dt)) : jH := match o with
  | none => h
  | some _ => j_sI h 67 i (nI sz)
/-- an "if" at the end of a clause -/
theorem C_if {F : Nat × Nat} (hF : FF F) {h : jH} {T : Tk} {ct vt pl : Nat → Nat} {n : Nat} {od : Bool} (S : ShP h) (Q : ShQ h) (C : CT h T ct vt pl n) (O : j_I h 60 11 = nI (ft_z od)) {i : Nat} (hi : i < 12) {t l sz : Nat} {code : Nat → Int32} (ht : t ≤ n) (hl : l ≤ 50) (hsz : sz ≤ t) : ((h_if T od (true, t, l)).1.1 = true → m_P_readsLaw_88 F 60 (nI i) (hC h ct vt t l sz code) = some (some (.int (nI 1)), hC (zif h i sz (h_if T od (true, t, l)).2) ct vt (h_if T od (true, t, l)).1.2.1 (h_if T od (true, t, l)).1.2.2 (sz + (zc3 (h_if T od (true, t, l)).2 sz).length) (cput code sz (zc3 (h_if T od (true, t, l)).2 sz))) ∧ sz + (zc3 (h_if T od (true, t, l)).2 sz).length ≤ (h_if T od (true, t, l)).1.2.1) ∧ ((h_if T od (true, t, l)).1.1 = false → ∃ l' sz' code', m_P_readsLaw_88 F 60 (nI i) (hC h ct vt t l sz code) = some (some (.int (nI 0)), j_sI (hC (zif h i sz (h_if T od (true, t, l)).2) ct vt (h_if T od (true, t, l)).1.2.1 l' sz' code') 60 2 (nI (pl (h_if T od (true, t, l)).1.2.1)))) := by
  have hn := C.2.1
  have hT := C.2.2.1
  have b1 := (C.2.2.2.2.2.2.1 t).1
  have c303 := C.eq ht 303 4 (by decide)
  unfold h_if
  by_cases q : T.1 t = 4
  · have hlt : t < n := by
      have : t ≠ n := fun z => by rw [z, hT] at q; omega
      omega
    have q1 : h_tk T 4 (true, t, l) = true := by unfold h_tk; simp [q]
    have a0 : h_adv (true, t, l) = (true, t + 1, l) := rfl
    simp only [q1, if_true, a0]
    have go := C_goTo_b (F := F) S C (l := l) (sz := sz) (code := code) hlt
    have x1 : jX (fun a _ => a = 67) jN h (j_sI h 67 i (nI sz)) := jX.rf.sI rfl
    have C1 := C.fr x1 (fun a i q => by omega)
    have S1 : ShP (j_sI h 67 i (nI sz)) := S
    have O1 : j_I (j_sI h 67 i (nI sz)) 60 11 = nI (ft_z od) := by rw [I_sIn (by omega)]; exact O
    obtain ⟨r1, r2⟩ := C_testF hF S1 C1 O1 (dp := 0) (d := 8) rfl (t := t + 1) (l := l) hlt hl (sz := sz) (code := code) (by omega)
    have k3 := h_test_len (T := T) (od := od) 8 (s := (true, t + 1, l)) sz
    have k1 := h_test_ok (od := od) hT 8 (s := (true, t + 1, l)) hlt
    generalize h_test T od 8 (true, t + 1, l) = z at r1 r2 k1 k3 ⊢
    obtain ⟨⟨zb, zt, zl⟩, zc, zd⟩ := z
    simp only [zc3, zif] at r1 r2 k3 ⊢
    have hzt : zt ≤ n := k1.1
    cases zb
    · refine ⟨fun z => (nomatch z), fun _ => ?_⟩
      obtain ⟨l', sz', code', r2⟩ := r2 rfl
      have r0 := bI_of r2
      refine ⟨l', sz', code', ?_⟩
      simp (disch := first | exact sR_rfl _ _ rfl | omega) only [q_P_readsLaw_88, ft_lit, ft_m1, ft_m2, ft_m3, ft_m5, ft_m6, ft_cl, ft_lt, ft_le, ft_eq, ft_mlt, ft_ltm, ft_mltm, ft_meq, ft_eqm, ft_meqm, ft_add, ft_mul, ft_sub, ft_nm, ft_m1p, ft_and, ft_or, ft_31, ft_shl, ft_shr, ft_bz, ft_z0, ft_z1, ft_z01, ft_bb, ft_zt, ft_zf, ft_or0, ft_rv, ft_rvr, ft_rf, ft_rfn, ft_bI, ft_bJ, ft_bV, ft_bR, ft_bRn, ft_isr, ft_isn, ft_ifn, ft_ifr, ft_ov, ft_ovn, ft_in, k_sI, n_sI, R_sI, J_sI, c_sI, z_sI, k_sJ, n_sJ, R_sJ, I_sJ, c_sJ, z_sJ, k_sR, n_sR, I_sR, J_sR, c_sR, z_sR, k_wI, n_wI, R_wI, J_wI, I_wIe, k_wJ, n_wJ, R_wJ, I_wJ, J_wJe, I_wIn, J_wJn, I_sIe, J_sJe, R_sRe, I_sIn, I_sIk, J_sJn, J_sJk, R_sRn, R_sRk, eq_self, if_true, if_false, ↓reduceIte, cond_true, cond_false, ↓cond_eq_ite, and_true, true_and, and_false, false_and, or_true, true_or, or_false, false_or, not_true_eq_false, not_false_eq_true, ft_ltT, ft_ltF, ft_eqT, ft_eqF, Bool.false_eq_true, Bool.true_eq_false, Bool.not_true, Bool.not_false, Bool.and_true, Bool.true_and, Bool.and_false, Bool.false_and, decide_true, decide_false, Nat.reduceAdd, Nat.reduceMul, Nat.reduceSub, Nat.reduceEqDiff, Nat.reduceLT, Nat.zero_add, Nat.add_zero, Nat.reduceDiv, Nat.reduceMod, S.1, S.2.1, S.2.2.1, S.2.2.2.1, S.2.2.2.2.1, S.2.2.2.2.2.1, S.2.2.2.2.2.2.1, S.2.2.2.2.2.2.2.1, S.2.2.2.2.2.2.2.2.1, S.2.2.2.2.2.2.2.2.2.1, S.2.2.2.2.2.2.2.2.2.2.1, S.2.2.2.2.2.2.2.2.2.2.2.1, S.2.2.2.2.2.2.2.2.2.2.2.2.1, S.2.2.2.2.2.2.2.2.2.2.2.2.2.1, S.2.2.2.2.2.2.2.2.2.2.2.2.2.2, ↓sp_3 S, ↓sp_4 S, ↓sp_5 S, ↓sp_6 S, ↓sp_0 S, Q.1, Q.2.1, Q.2.2.1, Q.2.2.2.1, Q.2.2.2.2.1, Q.2.2.2.2.2.1, Q.2.2.2.2.2.2.1, Q.2.2.2.2.2.2.2.1, Q.2.2.2.2.2.2.2.2.1, Q.2.2.2.2.2.2.2.2.2.1, Q.2.2.2.2.2.2.2.2.2.2.1, Q.2.2.2.2.2.2.2.2.2.2.2.1, Q.2.2.2.2.2.2.2.2.2.2.2.2.1, Q.2.2.2.2.2.2.2.2.2.2.2.2.2.1, Q.2.2.2.2.2.2.2.2.2.2.2.2.2.2, ↓sq_1 Q, ↓sq_2 Q, ↓sq_3 Q, ↓sq_4 Q, ↓sq_5 Q, hC_k, hC_n, hC_R, hC_8, hC_6, c303, q, ↓go, hC_sb, ↓r0]
    · refine ⟨fun _ => ?_, fun z => (nomatch z)⟩
      have hlen := k3 rfl
      have r0 := bI_of (r1 rfl)
      have em := C_emit_b (F := F) (h := j_sI h 67 i (nI sz)) (ct := ct) (vt := vt) S1 (t := zt) (l := zl) (sz := sz + (zc sz).length) (op := 0) (v := 0) (code := cput code sz (zc sz)) (by omega) (by omega) (by omega)
      rw [Nat.zero_mul, Nat.zero_add, cput_snoc] at em
      refine ⟨?_, by simp only [List.length_append, List.length_cons, List.length_nil]; omega⟩
      rw [List.length_append]
      have em := fun ff => em ff
      simp (disch := first | exact sR_rfl _ _ rfl | omega) only [q_P_readsLaw_88, ft_lit, ft_m1, ft_m2, ft_m3, ft_m5, ft_m6, ft_cl, ft_lt, ft_le, ft_eq, ft_mlt, ft_ltm, ft_mltm, ft_meq, ft_eqm, ft_meqm, ft_add, ft_mul, ft_sub, ft_nm, ft_m1p, ft_and, ft_or, ft_31, ft_shl, ft_shr, ft_bz, ft_z0, ft_z1, ft_z01, ft_bb, ft_zt, ft_zf, ft_or0, ft_rv, ft_rvr, ft_rf, ft_rfn, ft_bI, ft_bJ, ft_bV, ft_bR, ft_bRn, ft_isr, ft_isn, ft_ifn, ft_ifr, ft_ov, ft_ovn, ft_in, k_sI, n_sI, R_sI, J_sI, c_sI, z_sI, k_sJ, n_sJ, R_sJ, I_sJ, c_sJ, z_sJ, k_sR, n_sR, I_sR, J_sR, c_sR, z_sR, k_wI, n_wI, R_wI, J_wI, I_wIe, k_wJ, n_wJ, R_wJ, I_wJ, J_wJe, I_wIn, J_wJn, I_sIe, J_sJe, R_sRe, I_sIn, I_sIk, J_sJn, J_sJk, R_sRn, R_sRk, eq_self, if_true, if_false, ↓reduceIte, cond_true, cond_false, ↓cond_eq_ite, and_true, true_and, and_false, false_and, or_true, true_or, or_false, false_or, not_true_eq_false, not_false_eq_true, ft_ltT, ft_ltF, ft_eqT, ft_eqF, Bool.false_eq_true, Bool.true_eq_false, Bool.not_true, Bool.not_false, Bool.and_true, Bool.true_and, Bool.and_false, Bool.false_and, decide_true, decide_false, Nat.reduceAdd, Nat.reduceMul, Nat.reduceSub, Nat.reduceEqDiff, Nat.reduceLT, Nat.zero_add, Nat.add_zero, Nat.reduceDiv, Nat.reduceMod, S.1, S.2.1, S.2.2.1, S.2.2.2.1, S.2.2.2.2.1, S.2.2.2.2.2.1, S.2.2.2.2.2.2.1, S.2.2.2.2.2.2.2.1, S.2.2.2.2.2.2.2.2.1, S.2.2.2.2.2.2.2.2.2.1, S.2.2.2.2.2.2.2.2.2.2.1, S.2.2.2.2.2.2.2.2.2.2.2.1, S.2.2.2.2.2.2.2.2.2.2.2.2.1, S.2.2.2.2.2.2.2.2.2.2.2.2.2.1, S.2.2.2.2.2.2.2.2.2.2.2.2.2.2, ↓sp_3 S, ↓sp_4 S, ↓sp_5 S, ↓sp_6 S, ↓sp_0 S, Q.1, Q.2.1, Q.2.2.1, Q.2.2.2.1, Q.2.2.2.2.1, Q.2.2.2.2.2.1, Q.2.2.2.2.2.2.1, Q.2.2.2.2.2.2.2.1, Q.2.2.2.2.2.2.2.2.1, Q.2.2.2.2.2.2.2.2.2.1, Q.2.2.2.2.2.2.2.2.2.2.1, Q.2.2.2.2.2.2.2.2.2.2.2.1, Q.2.2.2.2.2.2.2.2.2.2.2.2.1, Q.2.2.2.2.2.2.2.2.2.2.2.2.2.1, Q.2.2.2.2.2.2.2.2.2.2.2.2.2.2, ↓sq_1 Q, ↓sq_2 Q, ↓sq_3 Q, ↓sq_4 Q, ↓sq_5 Q, hC_k, hC_n, hC_R, hC_8, hC_6, c303, q, ↓go, hC_sb, ↓r0, ↓em, List.length_cons, List.length_nil]
      rfl
  · have q1 : h_tk T 4 (true, t, l) = false := by unfold h_tk; simp [q]
    simp only [q1, Bool.false_eq_true, if_false, zc3, zif, List.length_nil, Nat.add_zero, cput_nil]
    refine ⟨fun _ => ⟨?_, hsz⟩, fun z => (nomatch z)⟩
    simp (disch := first | exact sR_rfl _ _ rfl | omega) only [q_P_readsLaw_88, ft_lit, ft_m1, ft_m2, ft_m3, ft_m5, ft_m6, ft_cl, ft_lt, ft_le, ft_eq, ft_mlt, ft_ltm, ft_mltm, ft_meq, ft_eqm, ft_meqm, ft_add, ft_mul, ft_sub, ft_nm, ft_m1p, ft_and, ft_or, ft_31, ft_shl, ft_shr, ft_bz, ft_z0, ft_z1, ft_z01, ft_bb, ft_zt, ft_zf, ft_or0, ft_rv, ft_rvr, ft_rf, ft_rfn, ft_bI, ft_bJ, ft_bV, ft_bR, ft_bRn, ft_isr, ft_isn, ft_ifn, ft_ifr, ft_ov, ft_ovn, ft_in, k_sI, n_sI, R_sI, J_sI, c_sI, z_sI, k_sJ, n_sJ, R_sJ, I_sJ, c_sJ, z_sJ, k_sR, n_sR, I_sR, J_sR, c_sR, z_sR, k_wI, n_wI, R_wI, J_wI, I_wIe, k_wJ, n_wJ, R_wJ, I_wJ, J_wJe, I_wIn, J_wJn, I_sIe, J_sJe, R_sRe, I_sIn, I_sIk, J_sJn, J_sJk, R_sRn, R_sRk, eq_self, if_true, if_false, ↓reduceIte, cond_true, cond_false, ↓cond_eq_ite, and_true, true_and, and_false, false_and, or_true, true_or, or_false, false_or, not_true_eq_false, not_false_eq_true, ft_ltT, ft_ltF, ft_eqT, ft_eqF, Bool.false_eq_true, Bool.true_eq_false, Bool.not_true, Bool.not_false, Bool.and_true, Bool.true_and, Bool.and_false, Bool.false_and, decide_true, decide_false, Nat.reduceAdd, Nat.reduceMul, Nat.reduceSub, Nat.reduceEqDiff, Nat.reduceLT, Nat.zero_add, Nat.add_zero, Nat.reduceDiv, Nat.reduceMod, S.1, S.2.1, S.2.2.1, S.2.2.2.1, S.2.2.2.2.1, S.2.2.2.2.2.1, S.2.2.2.2.2.2.1, S.2.2.2.2.2.2.2.1, S.2.2.2.2.2.2.2.2.1, S.2.2.2.2.2.2.2.2.2.1, S.2.2.2.2.2.2.2.2.2.2.1, S.2.2.2.2.2.2.2.2.2.2.2.1, S.2.2.2.2.2.2.2.2.2.2.2.2.1, S.2.2.2.2.2.2.2.2.2.2.2.2.2.1, S.2.2.2.2.2.2.2.2.2.2.2.2.2.2, ↓sp_3 S, ↓sp_4 S, ↓sp_5 S, ↓sp_6 S, ↓sp_0 S, hC_k, hC_8, c303, q]
theorem C_if2 (F : Nat × Nat) (o : Nat) (i : Int32) (h : jH) : m_P_readsOrder_232 F o i h = m_P_readsLaw_88 F o i h := rfl
