/-! THE CLASS READS: the text -/
def KL (h : jH) : Nat → Nat → List Cz → Prop
  | _, _, [] => True
  | i, sz, c :: cs => KZ h i c sz ∧ KL h (i + 1) (sz + (czC c sz).length) cs
def czL : Nat → List Cz → List Nat
  | _, [] => []
  | sz, c :: cs => czC c sz ++ czL (sz + (czC c sz).length) cs
theorem KZ.fr {h h' : jH} {i : Nat} {c : Cz} {sz : Nat} (K : KZ h i c sz) {D E : Nat → Nat → Prop} (x : jX D E h h') (d : ∀ a, 64 ≤ a → a ≤ 68 → ¬ D a i) : KZ h' i c sz :=
  ⟨(x.I (d 64 (by omega) (by omega))).trans K.1, (x.I (d 65 (by omega) (by omega))).trans K.2.1, (x.I (d 66 (by omega) (by omega))).trans K.2.2.1, (x.I (d 67 (by omega) (by omega))).trans K.2.2.2.1, (x.I (d 68 (by omega) (by omega))).trans K.2.2.2.2⟩
theorem KL.fr {h h' : jH} {D E : Nat → Nat → Prop} (x : jX D E h h') : ∀ (cs : List Cz) {i sz : Nat}, KL h i sz cs → (∀ a j, 64 ≤ a → a ≤ 68 → i ≤ j → ¬ D a j) → KL h' i sz cs
  | [], _, _, _, _ => True.intro
  | c :: cs, i, sz, K, d => ⟨K.1.fr x (fun a h1 h2 => d a i h1 h2 (Nat.le_refl _)), KL.fr x cs K.2 (fun a j h1 h2 h3 => d a j h1 h2 (by omega))⟩
def dR (i : Nat) : Nat → Nat → Prop := fun a j => (64 ≤ a ∧ a ≤ 68 ∧ i ≤ j) ∨ (a = 62 ∧ j = 7)
theorem hC_s7 {h : jH} {ct vt : Nat → Nat} {t l sz : Nat} {code : Nat → Int32} {x : Int32} : j_sI (hC h ct vt t l sz code) 62 7 x = hC (j_sI h 62 7 x) ct vt t l sz code := by
  refine heq_of (by rfl) (by rfl) ?_
  intro b i
  by_cases e1 : b = 62
  · subst e1
    by_cases e2 : i = 7
    · subst e2
      rw [I_sIe, hC_62 (by omega), I_sIe]
    · rw [I_sIk e2]
      by_cases e3 : i = 6
      · subst e3; rw [hC_6, hC_6]
      · rw [hC_62 e3, hC_62 e3, I_sIk e2]
  · rw [I_sIn e1]
    unfold hC
    by_cases h3 : b = 63
    · subst h3; rw [I_wIe, I_wIe]
    · by_cases h0 : b = 60
      · subst h0
        rw [I_wIn h3, I_wIn e1, I_wIe, I_wIn h3, I_wIn e1, I_wIe, I_sIn e1]
      · rw [I_wIn h3, I_wIn e1, I_wIn h0, I_wIn h3, I_wIn e1, I_wIn h0, I_sIn e1]
set_option maxRecDepth 100000 in
theorem gC_402 : ∀ c, c < 356 → gC c ≠ 402 := by decide +kernel
theorem CT.end {h : jH} {T : Tk} {ct vt pl : Nat → Nat} {n : Nat} (C : CT h T ct vt pl n) {t : Nat} (ht : t ≤ n) : (ct t = 402) = (t = n) := by
  apply propext
  constructor
  · intro e
    rcases Nat.lt_or_ge t n with q | q
    · rw [C.2.2.2.2.1 t q] at e
      exact absurd e (gC_402 _ (C.2.2.2.2.2.1 t))
    · omega
  · intro e
    rw [e]
    exact C.2.2.2.1
theorem C_clause {F : Nat × Nat} (hF : FF F) {h : jH} {T : Tk} {ct vt pl : Nat → Nat} {n : Nat} {od : Bool} (S : ShP h) (Q : ShQ h) (C : CT h T ct vt pl n) (O : j_I h 60 11 = nI (ft_z od)) {i : Nat} (hi : i < 12) {t l sz : Nat} {code : Nat → Int32} (ht : t ≤ n) (hl : l ≤ 50) (hsz : sz ≤ t) : Ck h ct vt pl i sz code (if od then m_P_readsOrder F 60 (nI i) (hC h ct vt t l sz code) else m_P_readsLaw F 60 (nI i) (hC h ct vt t l sz code)) (h_one T od (true, t, l)) := by
  cases od
  · exact C_lawc hF S Q C O hi ht hl hsz
  · exact C_orderc hF S Q C O hi ht hl hsz
theorem C_47 {F : Nat × Nat} (hF : FF F) {T : Tk} {ct vt pl : Nat → Nat} {n : Nat} {od : Bool} : ∀ f g i (h : jH) t l sz (code : Nat → Int32) (cl : List Cz), ShP h → ShQ h → CT h T ct vt pl n → j_I h 60 11 = nI (ft_z od) → i < 12 → t ≤ n → l ≤ 50 → sz ≤ t → n < t + f → n < t + g → ((h_fin n (h_xl T od f (i + 1) ((h_one T od (true, t, l)).1, cl ++ [(h_one T od (true, t, l)).2])).1).1 = true → ∃ h1 cs l', (h_xl T od f (i + 1) ((h_one T od (true, t, l)).1, cl ++ [(h_one T od (true, t, l)).2])).2 = cl ++ cs ∧ jX (dR i) jN h h1 ∧ KL h1 i sz cs ∧ j_I h1 62 7 = nI (i + cs.length) ∧ i + cs.length ≤ 12 ∧ sz + (czL sz cs).length ≤ n ∧ m_P_reads_47 F (g + 1) 60 (nI (ft_z od)) (nI i) (hC h ct vt t l sz code) = some (some (.int (nI 1)), hC h1 ct vt n l' (sz + (czL sz cs).length) (cput code sz (czL sz cs)))) ∧ ((h_fin n (h_xl T od f (i + 1) ((h_one T od (true, t, l)).1, cl ++ [(h_one T od (true, t, l)).2])).1).1 = false → ∃ h1 l' sz' code', jX (dR i) jN h h1 ∧ m_P_reads_47 F (g + 1) 60 (nI (ft_z od)) (nI i) (hC h ct vt t l sz code) = some (some (.int (nI 0)), j_sI (hC h1 ct vt (h_fin n (h_xl T od f (i + 1) ((h_one T od (true, t, l)).1, cl ++ [(h_one T od (true, t, l)).2])).1).2.1 l' sz' code') 60 2 (nI (pl (h_fin n (h_xl T od f (i + 1) ((h_one T od (true, t, l)).1, cl ++ [(h_one T od (true, t, l)).2])).1).2.1))))
  | 0, g, i, h, t, l, sz, code, cl, S, Q, C, O, hi, ht, hl, hsz, h1, h2 => absurd h1 (by omega)
  | f + 1, 0, i, h, t, l, sz, code, cl, S, Q, C, O, hi, ht, hl, hsz, h1, h2 => absurd h2 (by omega)
  | f + 1, g + 1, i, h, t, l, sz, code, cl, S, Q, C, O, hi, ht, hl, hsz, g1, g2 => by
    have hn := C.2.1
    have hT := C.2.2.1
    obtain ⟨c1, c2⟩ := C_clause hF S Q C O hi (t := t) (l := l) (sz := sz) (code := code) ht hl hsz
    have k1 := h_one_ok (od := od) hT (s := (true, t, l)) ht ⟨by show l ≤ 51; omega, fun _ => hl⟩
    -- the loop up to the clause's end
    have e47 : m_P_reads_47 F (g + 1 + 1) 60 (nI (ft_z od)) (nI i) (hC h ct vt t l sz code) = jbI (if od then m_P_readsOrder F 60 (nI i) (hC h ct vt t l sz code) else m_P_readsLaw F 60 (nI i) (hC h ct vt t l sz code)) fun r12 h11 => if r12 = (nI 0) then (some (some (.int (nI 0)), h11)) else m_P_reads_78 F (m_P_reads_47 F (g + 1)) 60 (nI (ft_z od)) (nI i) h11 := by
      rw [q_P_reads_47]
      cases od <;> simp (disch := first | exact sR_rfl _ _ rfl | omega) only [ft_lit, ft_m1, ft_m2, ft_m3, ft_m5, ft_m6, ft_cl, ft_lt, ft_le, ft_eq, ft_mlt, ft_ltm, ft_mltm, ft_meq, ft_eqm, ft_meqm, ft_add, ft_mul, ft_sub, ft_nm, ft_m1p, ft_and, ft_or, ft_31, ft_shl, ft_shr, ft_bz, ft_z0, ft_z1, ft_z01, ft_bb, ft_zt, ft_zf, ft_or0, ft_rv, ft_rvr, ft_rf, ft_rfn, ft_bI, ft_bJ, ft_bV, ft_bR, ft_bRn, ft_isr, ft_isn, ft_ifn, ft_ifr, ft_ov, ft_ovn, ft_in, k_sI, n_sI, R_sI, J_sI, c_sI, z_sI, k_sJ, n_sJ, R_sJ, I_sJ, c_sJ, z_sJ, k_sR, n_sR, I_sR, J_sR, c_sR, z_sR, k_wI, n_wI, R_wI, J_wI, I_wIe, k_wJ, n_wJ, R_wJ, I_wJ, J_wJe, I_wIn, J_wJn, I_sIe, J_sJe, R_sRe, I_sIn, I_sIk, J_sJn, J_sJk, R_sRn, R_sRk, eq_self, if_true, if_false, ↓reduceIte, cond_true, cond_false, ↓cond_eq_ite, and_true, true_and, and_false, false_and, or_true, true_or, or_false, false_or, not_true_eq_false, not_false_eq_true, ft_ltT, ft_ltF, ft_eqT, ft_eqF, Bool.false_eq_true, Bool.true_eq_false, Bool.not_true, Bool.not_false, Bool.and_true, Bool.true_and, Bool.and_false, Bool.false_and, decide_true, decide_false, Nat.reduceAdd, Nat.reduceMul, Nat.reduceSub, Nat.reduceEqDiff, Nat.reduceLT, Nat.zero_add, Nat.add_zero, Nat.reduceDiv, Nat.reduceMod, S.1, S.2.1, S.2.2.1, S.2.2.2.1, S.2.2.2.2.1, S.2.2.2.2.2.1, S.2.2.2.2.2.2.1, S.2.2.2.2.2.2.2.1, S.2.2.2.2.2.2.2.2.1, S.2.2.2.2.2.2.2.2.2.1, S.2.2.2.2.2.2.2.2.2.2.1, S.2.2.2.2.2.2.2.2.2.2.2.1, S.2.2.2.2.2.2.2.2.2.2.2.2.1, S.2.2.2.2.2.2.2.2.2.2.2.2.2.1, S.2.2.2.2.2.2.2.2.2.2.2.2.2.2, ↓sp_3 S, ↓sp_4 S, ↓sp_5 S, ↓sp_6 S, ↓sp_0 S, hC_k]
    rw [e47]
    clear e47
    generalize (if od then m_P_readsOrder F 60 (nI i) (hC h ct vt t l sz code) else m_P_readsLaw F 60 (nI i) (hC h ct vt t l sz code)) = mm at c1 c2 ⊢
    generalize hz : h_one T od (true, t, l) = z at c1 c2 k1 ⊢
    obtain ⟨⟨zb, zt, zl⟩, zc⟩ := z
    simp only at c1 c2 ⊢
    have up : ∀ h1, jX (dK i) jN h h1 → jX (dR i) jN h h1 := fun h1 x => x.up (fun a j q => by unfold dK at q; unfold dR; omega) (fun a j q => q)
    cases zb
    · obtain ⟨h1, l', sz', code', x1, e1⟩ := c2 rfl
      have hx : h_xl T od (f + 1) (i + 1) ((false, zt, zl), cl ++ [zc]) = ((false, zt, zl), cl ++ [zc]) := by unfold h_xl; rw [if_neg (by simp [h_tk])]
      rw [hx]
      have hfn : h_fin n (false, zt, zl) = (false, zt, zl) := by unfold h_fin; rw [if_neg (by simp)]
      simp only [hfn]
      refine ⟨fun ok => (nomatch ok), fun _ => ⟨h1, l', sz', code', up h1 x1, ?_⟩⟩
      rw [bI_of e1]
      simp (disch := first | exact sR_rfl _ _ rfl | omega) only [ft_lit, ft_m1, ft_m2, ft_m3, ft_m5, ft_m6, ft_cl, ft_lt, ft_le, ft_eq, ft_mlt, ft_ltm, ft_mltm, ft_meq, ft_eqm, ft_meqm, ft_add, ft_mul, ft_sub, ft_nm, ft_m1p, ft_and, ft_or, ft_31, ft_shl, ft_shr, ft_bz, ft_z0, ft_z1, ft_z01, ft_bb, ft_zt, ft_zf, ft_or0, ft_rv, ft_rvr, ft_rf, ft_rfn, ft_bI, ft_bJ, ft_bV, ft_bR, ft_bRn, ft_isr, ft_isn, ft_ifn, ft_ifr, ft_ov, ft_ovn, ft_in, k_sI, n_sI, R_sI, J_sI, c_sI, z_sI, k_sJ, n_sJ, R_sJ, I_sJ, c_sJ, z_sJ, k_sR, n_sR, I_sR, J_sR, c_sR, z_sR, k_wI, n_wI, R_wI, J_wI, I_wIe, k_wJ, n_wJ, R_wJ, I_wJ, J_wJe, I_wIn, J_wJn, I_sIe, J_sJe, R_sRe, I_sIn, I_sIk, J_sJn, J_sJk, R_sRn, R_sRk, eq_self, if_true, if_false, ↓reduceIte, cond_true, cond_false, ↓cond_eq_ite, and_true, true_and, and_false, false_and, or_true, true_or, or_false, false_or, not_true_eq_false, not_false_eq_true, ft_ltT, ft_ltF, ft_eqT, ft_eqF, Bool.false_eq_true, Bool.true_eq_false, Bool.not_true, Bool.not_false, Bool.and_true, Bool.true_and, Bool.and_false, Bool.false_and, decide_true, decide_false, Nat.reduceAdd, Nat.reduceMul, Nat.reduceSub, Nat.reduceEqDiff, Nat.reduceLT, Nat.zero_add, Nat.add_zero, Nat.reduceDiv, Nat.reduceMod]
    · obtain ⟨⟨h1, x1, kz, e1⟩, hle⟩ := c1 rfl
      have hzt : zt ≤ n := k1.1.1
      have hgt : t < zt := (k1.1.2 rfl).2
      have hzl : zl ≤ 50 := k1.2.2 rfl
      have b6 := (C.2.2.2.2.2.2.1 zt).1
      generalize hsz2 : sz + (czC zc sz).length = sz2 at e1 hle
      have X2 : jX (dR i) jN h (j_sI h1 62 7 (nI (i + 1))) := (up h1 x1).sI (by unfold dR; omega)
      generalize hh2 : j_sI h1 62 7 (nI (i + 1)) = h2 at X2
      have kz2 : KZ h2 i zc sz := by
        rw [← hh2]
        exact kz.fr (jX.rf.sI (D := fun a j => a = 62 ∧ j = 7) (E := jN) ⟨rfl, rfl⟩) (fun a q1 q2 q3 => by omega)
      have S2 : ShP h2 := by rw [← hh2]; exact ⟨(x1.k 60).trans S.1, (x1.R id).trans S.2.1, (x1.R id).trans S.2.2.1, (x1.R id).trans S.2.2.2.1, (x1.R id).trans S.2.2.2.2.1, (x1.k 62).trans S.2.2.2.2.2.1, (x1.R id).trans S.2.2.2.2.2.2.1, (x1.k 63).trans S.2.2.2.2.2.2.2.1, (x1.n 63).trans S.2.2.2.2.2.2.2.2.1, (x1.k 69).trans S.2.2.2.2.2.2.2.2.2.1, (x1.n 69).trans S.2.2.2.2.2.2.2.2.2.2.1, (x1.k 70).trans S.2.2.2.2.2.2.2.2.2.2.2.1, (x1.n 70).trans S.2.2.2.2.2.2.2.2.2.2.2.2.1, (x1.k 71).trans S.2.2.2.2.2.2.2.2.2.2.2.2.2.1, (x1.n 71).trans S.2.2.2.2.2.2.2.2.2.2.2.2.2.2⟩
      have S1 : ShP h1 := by rw [← hh2] at S2; exact S2
      have Q2 : ShQ h2 := by rw [← hh2]; exact ⟨(x1.R id).trans Q.1, (x1.R id).trans Q.2.1, (x1.R id).trans Q.2.2.1, (x1.R id).trans Q.2.2.2.1, (x1.R id).trans Q.2.2.2.2.1, (x1.k 64).trans Q.2.2.2.2.2.1, (x1.n 64).trans Q.2.2.2.2.2.2.1, (x1.k 65).trans Q.2.2.2.2.2.2.2.1, (x1.n 65).trans Q.2.2.2.2.2.2.2.2.1, (x1.k 66).trans Q.2.2.2.2.2.2.2.2.2.1, (x1.n 66).trans Q.2.2.2.2.2.2.2.2.2.2.1, (x1.k 67).trans Q.2.2.2.2.2.2.2.2.2.2.2.1, (x1.n 67).trans Q.2.2.2.2.2.2.2.2.2.2.2.2.1, (x1.k 68).trans Q.2.2.2.2.2.2.2.2.2.2.2.2.2.1, (x1.n 68).trans Q.2.2.2.2.2.2.2.2.2.2.2.2.2.2⟩
      have C2 := C.fr X2 (fun a i q => by unfold dR at q; omega)
      have O2 : j_I h2 60 11 = nI (ft_z od) := (X2.I (by unfold dR; omega)).trans O
      have c59 := C.eq hzt 59 159 (by decide)
      have cend := C.end hzt
      have heq : j_sI (hC h1 ct vt zt zl sz2 (cput code sz (czC zc sz))) 62 7 (nI (i + 1)) = hC h2 ct vt zt zl sz2 (cput code sz (czC zc sz)) := by
        rw [hC_s7, hh2]
      have f7 : j_I h2 62 7 = nI (i + 1) := by rw [← hh2, I_sIe]
      rw [bI_of e1]
      simp only [ft_eq (show 1 < 2147483648 by omega) (show 0 < 2147483648 by omega), Nat.reduceEqDiff, if_false]
      unfold h_xl
      by_cases q : T.1 zt = 159
      · have hlt : zt < n := by
          have : zt ≠ n := fun z => by rw [z, hT] at q; omega
          omega
        have q1 : h_tk T 159 (true, zt, zl) = true := by unfold h_tk; simp [q]
        have a0 : h_adv (true, zt, zl) = (true, zt + 1, zl) := rfl
        simp only [q1, if_true, a0]
        have go := C_goTo_b (F := F) S2 C2 (l := zl) (sz := sz2) (code := cput code sz (czC zc sz)) hlt
        have hne : ¬ zt = n := by omega
        have e78 : m_P_reads_78 F (m_P_reads_47 F (g + 1)) 60 (nI (ft_z od)) (nI i) (hC h1 ct vt zt zl sz2 (cput code sz (czC zc sz))) = m_P_reads_47 F (g + 1) 60 (nI (ft_z od)) (nI (i + 1)) (hC h2 ct vt (zt + 1) zl sz2 (cput code sz (czC zc sz))) := by
          rw [q_P_reads_78]
          simp (disch := first | exact sR_rfl _ _ rfl | omega) only [ft_lit, ft_m1, ft_m2, ft_m3, ft_m5, ft_m6, ft_cl, ft_lt, ft_le, ft_eq, ft_mlt, ft_ltm, ft_mltm, ft_meq, ft_eqm, ft_meqm, ft_add, ft_mul, ft_sub, ft_nm, ft_m1p, ft_and, ft_or, ft_31, ft_shl, ft_shr, ft_bz, ft_z0, ft_z1, ft_z01, ft_bb, ft_zt, ft_zf, ft_or0, ft_rv, ft_rvr, ft_rf, ft_rfn, ft_bI, ft_bJ, ft_bV, ft_bR, ft_bRn, ft_isr, ft_isn, ft_ifn, ft_ifr, ft_ov, ft_ovn, ft_in, k_sI, n_sI, R_sI, J_sI, c_sI, z_sI, k_sJ, n_sJ, R_sJ, I_sJ, c_sJ, z_sJ, k_sR, n_sR, I_sR, J_sR, c_sR, z_sR, k_wI, n_wI, R_wI, J_wI, I_wIe, k_wJ, n_wJ, R_wJ, I_wJ, J_wJe, I_wIn, J_wJn, I_sIe, J_sJe, R_sRe, I_sIn, I_sIk, J_sJn, J_sJk, R_sRn, R_sRk, eq_self, if_true, if_false, ↓reduceIte, cond_true, cond_false, ↓cond_eq_ite, and_true, true_and, and_false, false_and, or_true, true_or, or_false, false_or, not_true_eq_false, not_false_eq_true, ft_ltT, ft_ltF, ft_eqT, ft_eqF, Bool.false_eq_true, Bool.true_eq_false, Bool.not_true, Bool.not_false, Bool.and_true, Bool.true_and, Bool.and_false, Bool.false_and, decide_true, decide_false, Nat.reduceAdd, Nat.reduceMul, Nat.reduceSub, Nat.reduceEqDiff, Nat.reduceLT, Nat.zero_add, Nat.add_zero, Nat.reduceDiv, Nat.reduceMod, S1.1, S1.2.1, S1.2.2.1, S1.2.2.2.1, S1.2.2.2.2.1, S1.2.2.2.2.2.1, S1.2.2.2.2.2.2.1, S1.2.2.2.2.2.2.2.1, S1.2.2.2.2.2.2.2.2.1, S1.2.2.2.2.2.2.2.2.2.1, S1.2.2.2.2.2.2.2.2.2.2.1, S1.2.2.2.2.2.2.2.2.2.2.2.1, S1.2.2.2.2.2.2.2.2.2.2.2.2.1, S1.2.2.2.2.2.2.2.2.2.2.2.2.2.1, S1.2.2.2.2.2.2.2.2.2.2.2.2.2.2, ↓sp_3 S1, ↓sp_4 S1, ↓sp_5 S1, ↓sp_6 S1, ↓sp_0 S1, S2.1, S2.2.1, S2.2.2.1, S2.2.2.2.1, S2.2.2.2.2.1, S2.2.2.2.2.2.1, S2.2.2.2.2.2.2.1, S2.2.2.2.2.2.2.2.1, S2.2.2.2.2.2.2.2.2.1, S2.2.2.2.2.2.2.2.2.2.1, S2.2.2.2.2.2.2.2.2.2.2.1, S2.2.2.2.2.2.2.2.2.2.2.2.1, S2.2.2.2.2.2.2.2.2.2.2.2.2.1, S2.2.2.2.2.2.2.2.2.2.2.2.2.2.1, S2.2.2.2.2.2.2.2.2.2.2.2.2.2.2, ↓sp_3 S2, ↓sp_4 S2, ↓sp_5 S2, ↓sp_6 S2, ↓sp_0 S2, hC_k, hC_8, heq, cend, hne, c59, q, ↓go]
        rw [e78]
        by_cases q2 : i + 1 = 12
        · rw [if_pos q2]
          have hfn : h_fin n (h_flt (true, zt + 1, zl)) = (false, zt + 1, zl) := by unfold h_fin h_flt; rw [if_neg (by simp)]
          simp only [hfn]
          have fa := C_fails_b (F := F) S2 C2 (t := zt + 1) (l := zl) (sz := sz2) (code := cput code sz (czC zc sz)) hlt
          refine ⟨fun ok => (nomatch ok), fun _ => ⟨h2, zl, sz2, cput code sz (czC zc sz), X2, ?_⟩⟩
          rw [q_P_reads_47]
          simp (disch := first | exact sR_rfl _ _ rfl | omega) only [ft_lit, ft_m1, ft_m2, ft_m3, ft_m5, ft_m6, ft_cl, ft_lt, ft_le, ft_eq, ft_mlt, ft_ltm, ft_mltm, ft_meq, ft_eqm, ft_meqm, ft_add, ft_mul, ft_sub, ft_nm, ft_m1p, ft_and, ft_or, ft_31, ft_shl, ft_shr, ft_bz, ft_z0, ft_z1, ft_z01, ft_bb, ft_zt, ft_zf, ft_or0, ft_rv, ft_rvr, ft_rf, ft_rfn, ft_bI, ft_bJ, ft_bV, ft_bR, ft_bRn, ft_isr, ft_isn, ft_ifn, ft_ifr, ft_ov, ft_ovn, ft_in, k_sI, n_sI, R_sI, J_sI, c_sI, z_sI, k_sJ, n_sJ, R_sJ, I_sJ, c_sJ, z_sJ, k_sR, n_sR, I_sR, J_sR, c_sR, z_sR, k_wI, n_wI, R_wI, J_wI, I_wIe, k_wJ, n_wJ, R_wJ, I_wJ, J_wJe, I_wIn, J_wJn, I_sIe, J_sJe, R_sRe, I_sIn, I_sIk, J_sJn, J_sJk, R_sRn, R_sRk, eq_self, if_true, if_false, ↓reduceIte, cond_true, cond_false, ↓cond_eq_ite, and_true, true_and, and_false, false_and, or_true, true_or, or_false, false_or, not_true_eq_false, not_false_eq_true, ft_ltT, ft_ltF, ft_eqT, ft_eqF, Bool.false_eq_true, Bool.true_eq_false, Bool.not_true, Bool.not_false, Bool.and_true, Bool.true_and, Bool.and_false, Bool.false_and, decide_true, decide_false, Nat.reduceAdd, Nat.reduceMul, Nat.reduceSub, Nat.reduceEqDiff, Nat.reduceLT, Nat.zero_add, Nat.add_zero, Nat.reduceDiv, Nat.reduceMod, S2.1, S2.2.1, S2.2.2.1, S2.2.2.2.1, S2.2.2.2.2.1, S2.2.2.2.2.2.1, S2.2.2.2.2.2.2.1, S2.2.2.2.2.2.2.2.1, S2.2.2.2.2.2.2.2.2.1, S2.2.2.2.2.2.2.2.2.2.1, S2.2.2.2.2.2.2.2.2.2.2.1, S2.2.2.2.2.2.2.2.2.2.2.2.1, S2.2.2.2.2.2.2.2.2.2.2.2.2.1, S2.2.2.2.2.2.2.2.2.2.2.2.2.2.1, S2.2.2.2.2.2.2.2.2.2.2.2.2.2.2, ↓sp_3 S2, ↓sp_4 S2, ↓sp_5 S2, ↓sp_6 S2, ↓sp_0 S2, hC_k, ↓fa]
        · simp only [q2, if_false]
          obtain ⟨j1, j2⟩ := C_47 hF f g (i + 1) h2 (zt + 1) zl sz2 (cput code sz (czC zc sz)) (cl ++ [zc]) S2 Q2 C2 O2 (by omega) hlt hzl (by omega) (by omega) (by omega)
          have upp : ∀ h3, jX (dR (i + 1)) jN h2 h3 → jX (dR i) jN h h3 := fun h3 x => X2.t (x.up (fun a j q => by unfold dR at q ⊢; omega) (fun a j q => q))
          refine ⟨fun ok => ?_, fun ok => ?_⟩
          · obtain ⟨h3, cs, l', i1, i2, i3, i4, i5, i6, i7⟩ := j1 ok
            refine ⟨h3, zc :: cs, l', ?_, upp h3 i2, ⟨?_, ?_⟩, ?_, ?_, ?_, ?_⟩
            · rw [i1]; simp
            · exact kz2.fr i2 (fun a q1 q2 q3 => by unfold dR at q3; omega)
            · rw [hsz2]; exact i3
            · rw [i4]; simp only [List.length_cons]; congr 1; omega
            · simp only [List.length_cons]; omega
            · simp only [czL, List.length_append]
              rw [hsz2]
              omega
            · rw [i7]
              simp only [czL]
              rw [hsz2]
              have hl1 : sz2 + (czL sz2 cs).length = sz + (czC zc sz ++ czL sz2 cs).length := by rw [List.length_append]; omega
              rw [hl1, ← hsz2, cput_app]
          · obtain ⟨h3, l', sz', code', i1, i2⟩ := j2 ok
            exact ⟨h3, l', sz', code', upp h3 i1, i2⟩
      · have q1 : h_tk T 159 (true, zt, zl) = false := by unfold h_tk; simp [q]
        simp only [q1, Bool.false_eq_true, if_false]
        by_cases q2 : zt = n
        · have hfn : h_fin n (true, zt, zl) = (true, zt, zl) := by unfold h_fin; rw [if_neg (by simp; omega)]
          simp only [hfn]
          refine ⟨fun _ => ⟨h2, [zc], zl, rfl, X2, ⟨kz2, True.intro⟩, f7, by simp only [List.length_cons, List.length_nil]; omega, ?_, ?_⟩, fun ok => (nomatch ok)⟩
          · simp only [czL, List.append_nil]
            omega
          · have cT : (ct zt = 402) = True := by rw [cend]; simp [q2]
            simp only [czL, List.append_nil]
            rw [hsz2]
            have hq : hC h2 ct vt n zl sz2 (cput code sz (czC zc sz)) = hC h2 ct vt zt zl sz2 (cput code sz (czC zc sz)) := by rw [q2]
            rw [hq, q_P_reads_78]
            simp (disch := first | exact sR_rfl _ _ rfl | omega) only [ft_lit, ft_m1, ft_m2, ft_m3, ft_m5, ft_m6, ft_cl, ft_lt, ft_le, ft_eq, ft_mlt, ft_ltm, ft_mltm, ft_meq, ft_eqm, ft_meqm, ft_add, ft_mul, ft_sub, ft_nm, ft_m1p, ft_and, ft_or, ft_31, ft_shl, ft_shr, ft_bz, ft_z0, ft_z1, ft_z01, ft_bb, ft_zt, ft_zf, ft_or0, ft_rv, ft_rvr, ft_rf, ft_rfn, ft_bI, ft_bJ, ft_bV, ft_bR, ft_bRn, ft_isr, ft_isn, ft_ifn, ft_ifr, ft_ov, ft_ovn, ft_in, k_sI, n_sI, R_sI, J_sI, c_sI, z_sI, k_sJ, n_sJ, R_sJ, I_sJ, c_sJ, z_sJ, k_sR, n_sR, I_sR, J_sR, c_sR, z_sR, k_wI, n_wI, R_wI, J_wI, I_wIe, k_wJ, n_wJ, R_wJ, I_wJ, J_wJe, I_wIn, J_wJn, I_sIe, J_sJe, R_sRe, I_sIn, I_sIk, J_sJn, J_sJk, R_sRn, R_sRk, eq_self, if_true, if_false, ↓reduceIte, cond_true, cond_false, ↓cond_eq_ite, and_true, true_and, and_false, false_and, or_true, true_or, or_false, false_or, not_true_eq_false, not_false_eq_true, ft_ltT, ft_ltF, ft_eqT, ft_eqF, Bool.false_eq_true, Bool.true_eq_false, Bool.not_true, Bool.not_false, Bool.and_true, Bool.true_and, Bool.and_false, Bool.false_and, decide_true, decide_false, Nat.reduceAdd, Nat.reduceMul, Nat.reduceSub, Nat.reduceEqDiff, Nat.reduceLT, Nat.zero_add, Nat.add_zero, Nat.reduceDiv, Nat.reduceMod, S1.1, S1.2.1, S1.2.2.1, S1.2.2.2.1, S1.2.2.2.2.1, S1.2.2.2.2.2.1, S1.2.2.2.2.2.2.1, S1.2.2.2.2.2.2.2.1, S1.2.2.2.2.2.2.2.2.1, S1.2.2.2.2.2.2.2.2.2.1, S1.2.2.2.2.2.2.2.2.2.2.1, S1.2.2.2.2.2.2.2.2.2.2.2.1, S1.2.2.2.2.2.2.2.2.2.2.2.2.1, S1.2.2.2.2.2.2.2.2.2.2.2.2.2.1, S1.2.2.2.2.2.2.2.2.2.2.2.2.2.2, ↓sp_3 S1, ↓sp_4 S1, ↓sp_5 S1, ↓sp_6 S1, ↓sp_0 S1, S2.1, S2.2.1, S2.2.2.1, S2.2.2.2.1, S2.2.2.2.2.1, S2.2.2.2.2.2.1, S2.2.2.2.2.2.2.1, S2.2.2.2.2.2.2.2.1, S2.2.2.2.2.2.2.2.2.1, S2.2.2.2.2.2.2.2.2.2.1, S2.2.2.2.2.2.2.2.2.2.2.1, S2.2.2.2.2.2.2.2.2.2.2.2.1, S2.2.2.2.2.2.2.2.2.2.2.2.2.1, S2.2.2.2.2.2.2.2.2.2.2.2.2.2.1, S2.2.2.2.2.2.2.2.2.2.2.2.2.2.2, ↓sp_3 S2, ↓sp_4 S2, ↓sp_5 S2, ↓sp_6 S2, ↓sp_0 S2, hC_k, hC_8, heq, cT]
        · have hfn : h_fin n (true, zt, zl) = (false, zt, zl) := by unfold h_fin h_flt; rw [if_pos (by simp; omega)]
          simp only [hfn]
          have fa := C_fails_b (F := F) S2 C2 (t := zt) (l := zl) (sz := sz2) (code := cput code sz (czC zc sz)) hzt
          refine ⟨fun ok => (nomatch ok), fun _ => ⟨h2, zl, sz2, cput code sz (czC zc sz), X2, ?_⟩⟩
          rw [q_P_reads_78]
          simp (disch := first | exact sR_rfl _ _ rfl | omega) only [ft_lit, ft_m1, ft_m2, ft_m3, ft_m5, ft_m6, ft_cl, ft_lt, ft_le, ft_eq, ft_mlt, ft_ltm, ft_mltm, ft_meq, ft_eqm, ft_meqm, ft_add, ft_mul, ft_sub, ft_nm, ft_m1p, ft_and, ft_or, ft_31, ft_shl, ft_shr, ft_bz, ft_z0, ft_z1, ft_z01, ft_bb, ft_zt, ft_zf, ft_or0, ft_rv, ft_rvr, ft_rf, ft_rfn, ft_bI, ft_bJ, ft_bV, ft_bR, ft_bRn, ft_isr, ft_isn, ft_ifn, ft_ifr, ft_ov, ft_ovn, ft_in, k_sI, n_sI, R_sI, J_sI, c_sI, z_sI, k_sJ, n_sJ, R_sJ, I_sJ, c_sJ, z_sJ, k_sR, n_sR, I_sR, J_sR, c_sR, z_sR, k_wI, n_wI, R_wI, J_wI, I_wIe, k_wJ, n_wJ, R_wJ, I_wJ, J_wJe, I_wIn, J_wJn, I_sIe, J_sJe, R_sRe, I_sIn, I_sIk, J_sJn, J_sJk, R_sRn, R_sRk, eq_self, if_true, if_false, ↓reduceIte, cond_true, cond_false, ↓cond_eq_ite, and_true, true_and, and_false, false_and, or_true, true_or, or_false, false_or, not_true_eq_false, not_false_eq_true, ft_ltT, ft_ltF, ft_eqT, ft_eqF, Bool.false_eq_true, Bool.true_eq_false, Bool.not_true, Bool.not_false, Bool.and_true, Bool.true_and, Bool.and_false, Bool.false_and, decide_true, decide_false, Nat.reduceAdd, Nat.reduceMul, Nat.reduceSub, Nat.reduceEqDiff, Nat.reduceLT, Nat.zero_add, Nat.add_zero, Nat.reduceDiv, Nat.reduceMod, S1.1, S1.2.1, S1.2.2.1, S1.2.2.2.1, S1.2.2.2.2.1, S1.2.2.2.2.2.1, S1.2.2.2.2.2.2.1, S1.2.2.2.2.2.2.2.1, S1.2.2.2.2.2.2.2.2.1, S1.2.2.2.2.2.2.2.2.2.1, S1.2.2.2.2.2.2.2.2.2.2.1, S1.2.2.2.2.2.2.2.2.2.2.2.1, S1.2.2.2.2.2.2.2.2.2.2.2.2.1, S1.2.2.2.2.2.2.2.2.2.2.2.2.2.1, S1.2.2.2.2.2.2.2.2.2.2.2.2.2.2, ↓sp_3 S1, ↓sp_4 S1, ↓sp_5 S1, ↓sp_6 S1, ↓sp_0 S1, S2.1, S2.2.1, S2.2.2.1, S2.2.2.2.1, S2.2.2.2.2.1, S2.2.2.2.2.2.1, S2.2.2.2.2.2.2.1, S2.2.2.2.2.2.2.2.1, S2.2.2.2.2.2.2.2.2.1, S2.2.2.2.2.2.2.2.2.2.1, S2.2.2.2.2.2.2.2.2.2.2.1, S2.2.2.2.2.2.2.2.2.2.2.2.1, S2.2.2.2.2.2.2.2.2.2.2.2.2.1, S2.2.2.2.2.2.2.2.2.2.2.2.2.2.1, S2.2.2.2.2.2.2.2.2.2.2.2.2.2.2, ↓sp_3 S2, ↓sp_4 S2, ↓sp_5 S2, ↓sp_6 S2, ↓sp_0 S2, hC_k, hC_8, heq, cend, q2, c59, q, ↓fa]
