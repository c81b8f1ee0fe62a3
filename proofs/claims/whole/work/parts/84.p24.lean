/-! ALL STAYS WHERE SOMETHING IS LAID ANEW -/
theorem TX.B {h h' : jH} {p : Nat} {od : Bool} {cs : List Cz} (X : TX h p od cs) (b : jB h h') (c : p + 6 < j_c h) : TX h' p od cs := by
  obtain ⟨na, nb, ⟨A, ha, hb⟩, K, h6, h7, hl, hz, hc, g, g2⟩ := X
  have bk : ∀ a, a < j_c h → j_k h' a = j_k h a := fun a q => (b.2 a q).1.1
  have bn : ∀ a, a < j_c h → j_n h' a = j_n h a := fun a q => (b.2 a q).1.2
  have bI : ∀ a i, a < j_c h → j_I h' a i = j_I h a i := fun a i q => ((b.2 a q).2 i).1
  have bR : ∀ a i, a < j_c h → j_R h' a i = j_R h a i := fun a i q => ((b.2 a q).2 i).2.2
  refine ⟨na, nb, ⟨?_, ha, hb⟩, KLp.fr (fun j i hj => bI _ _ (by omega)) K, by rw [bI _ _ (by omega)]; exact h6, by rw [bI _ _ (by omega)]; exact h7, hl, hz, fun i hi => by rw [bI _ _ (by omega)]; exact hc i hi, g, g2⟩
  unfold TA at A ⊢
  simp (disch := omega) only [bk, bn, bR]
  exact A
theorem LA.B {h h' : jH} {o : Nat} (A : LA h o) (b : jB h h') (c : o + 11 < j_c h) : LA h' o := by
  have bk : ∀ a, a < j_c h → j_k h' a = j_k h a := fun a q => (b.2 a q).1.1
  have bn : ∀ a, a < j_c h → j_n h' a = j_n h a := fun a q => (b.2 a q).1.2
  have bR : ∀ a i, a < j_c h → j_R h' a i = j_R h a i := fun a i q => ((b.2 a q).2 i).2.2
  unfold LA at A ⊢
  simp (disch := omega) only [bk, bn, bR]
  exact A
theorem LI.B {h h' : jH} {o : Nat} {k : Nat → Nat} (I : LI h o k) (b : jB h h') (c : o + 11 < j_c h) : LI h' o k := by
  have bI : ∀ a i, a < j_c h → j_I h' a i = j_I h a i := fun a i q => ((b.2 a q).2 i).1
  have bJ : ∀ a i, a < j_c h → j_J h' a i = j_J h a i := fun a i q => ((b.2 a q).2 i).2.1
  unfold LI at I ⊢
  simp (disch := omega) only [bI, bJ]
  exact I
theorem FT.B {h h' : jH} {t : Nat} (f : FT h t) (b : jB h h') (c : 110 < j_c h) : FT h' t := ⟨f.1, Nat.lt_of_lt_of_le f.2.1 b.1, fun x g => by rw [((b.2 41 (by omega)).2 x).2.2]; exact f.2.2 x g⟩
theorem LL.B {h h' : jH} {o : Nat} {k : Nat → Nat} (L : LL h o k) (b : jB h h') (c : o + 11 < j_c h) (c2 : 110 < j_c h) : LL h' o k := by
  obtain ⟨A, I, W1, W2⟩ := L
  have bR : ∀ a i, a < j_c h → j_R h' a i = j_R h a i := fun a i q => ((b.2 a q).2 i).2.2
  refine ⟨A.B b c, I.B b c, fun j hj => ?_, fun j t ht => ?_⟩
  · obtain ⟨t, h1, X⟩ := W1 j hj
    have f := (W2 j t h1).1
    exact ⟨t, by rw [bR _ _ c]; exact h1, X.B b f.2.1⟩
  · rw [bR _ _ c] at ht
    have f := (W2 j t ht).1
    exact ⟨f.B b c2, by rw [(b.2 t (by have := f.2.1; omega)).1.1]; exact (W2 j t ht).2⟩
theorem CI.B {h h' : jH} {k : Nat → Nat} {im : Nat → Option (Nat → Nat)} {u : List Ue} {tp : Nat → Nat} {tl : Nat} {sc : Sc} {kd : Nat → Nat} (C : CI h k im u tp tl sc kd) (b : jB h h') : CI h' k im u tp tl sc kd := by
  obtain ⟨c1, c2, c3, c4, c5, c6, c7, c8, c9⟩ := C
  have bk : ∀ a, a < j_c h → j_k h' a = j_k h a := fun a q => (b.2 a q).1.1
  have bn : ∀ a, a < j_c h → j_n h' a = j_n h a := fun a q => (b.2 a q).1.2
  have bI : ∀ a i, a < j_c h → j_I h' a i = j_I h a i := fun a i q => ((b.2 a q).2 i).1
  have bJ : ∀ a i, a < j_c h → j_J h' a i = j_J h a i := fun a i q => ((b.2 a q).2 i).2.1
  have bR : ∀ a i, a < j_c h → j_R h' a i = j_R h a i := fun a i q => ((b.2 a q).2 i).2.2
  have r41 : ∀ i, j_R h' 41 i = j_R h 41 i := fun i => bR 41 i (by omega)
  refine ⟨?_, Nat.lt_of_lt_of_le c2 b.1, c3.B b (by omega) c2, ⟨fun x => by rw [r41]; exact c4.1 x, fun x g kk h1 h2 => ?_, fun x y g g' h0 h1 h2 => ?_⟩, ?_, ?_, ?_, ?_, ?_⟩
  · unfold ShF at c1 ⊢
    simp (disch := omega) only [bk, bn, bR]
    exact c1
  · rw [r41] at h1
    obtain ⟨g1, g2, g3⟩ := c4.2.1 x g kk h1 h2
    exact ⟨g1, Nat.lt_of_lt_of_le g2 b.1, g3.B b g2 c2⟩
  · rw [r41] at h1 h2
    exact c4.2.2 x y g g' h0 h1 h2
  · unfold CU CE at c5 ⊢
    simp (disch := omega) only [bI, bJ]
    exact c5
  · unfold TP at c6 ⊢
    simp (disch := omega) only [bI]
    exact c6
  · unfold CS at c7 ⊢
    simp (disch := omega) only [bI]
    exact c7
  · unfold CD at c8 ⊢
    simp (disch := omega) only [bI]
    exact c8
  · unfold CT0 at c9 ⊢
    simp (disch := omega) only [bk, bn, bI]
    exact c9
/-- a law more -/
def lyT (k : Nat → Nat) (T : Tk) (n j : Nat) : Nat → (Nat → Nat)
  | 0 => va_up k (181 + j) n
  | m + 1 => va_up (va_up (lyT k T n j m) (188 + 400 * j + m) (T.1 m)) (2988 + 400 * j + m) (T.2 m)
theorem M_lays_16 {F : Nat × Nat} {k : Nat → Nat} {T : Tk} {n j : Nat} (hn : n ≤ 400) (hj : j ≤ 6) : ∀ d m f h, m + d = n → d < f → ShM h → j_I h 85 18 = nI n → (∀ i, i < n → j_I h 94 i = nI (T.1 i) ∧ j_I h 95 i = nI (T.2 i)) → KM h (lyT k T n j m) → ∃ h', m_M_lays_16 F f 85 (nI j) (nI m) h = some (none, h') ∧ jX d87 jN h h' ∧ KM h' (lyT k T n j n)
  | 0, m, f + 1, h, e, _, S, N, V, K => by
    have : m = n := by omega
    subst this
    refine ⟨h, ?_, jX.rf, K⟩
    rw [q_M_lays_16, if_pos (sm_k85 S), N, if_neg (by rw [ft_lt (by omega) (by omega)]; omega)]
  | d + 1, m, f + 1, h, e, hf, S, N, V, K => by
    obtain ⟨v1, v2⟩ := V m (by omega)
    have x0 : jX d87 jN h (j_sI (j_sI h 87 (188 + 400 * j + m) (nI (T.1 m))) 87 (2988 + 400 * j + m) (nI (T.2 m))) := (jX.rf.sI (D := d87) rfl).sI rfl
    obtain ⟨h', e1, x1, K1⟩ := M_lays_16 (F := F) (k := k) (T := T) hn hj d (m + 1) f _ (by omega) (by omega) (S.fr x0 (fun _ _ z => z)) (by rw [I_sIn (by omega), I_sIn (by omega)]; exact N) (fun i hi => by rw [I_sIn (by omega), I_sIn (by omega), I_sIn (by omega), I_sIn (by omega)]; exact V i hi) ((K.set (by omega)).set (by omega))
    refine ⟨h', ?_, x0.t x1, K1⟩
    rw [← e1, q_M_lays_16]
    simp (disch := first | exact sR_rfl _ _ rfl | omega) only [ft_lit, ft_m1, ft_m2, ft_m3, ft_m5, ft_m6, ft_cl, ft_lt, ft_le, ft_eq, ft_mlt, ft_ltm, ft_mltm, ft_meq, ft_eqm, ft_meqm, ft_add, ft_mul, ft_sub, ft_nm, ft_m1p, ft_and, ft_or, ft_31, ft_shl, ft_shr, ft_bz, ft_z0, ft_z1, ft_z01, ft_bb, ft_zt, ft_zf, ft_or0, ft_rv, ft_rvr, ft_rf, ft_rfn, ft_bI, ft_bJ, ft_bV, ft_bR, ft_bRn, ft_isr, ft_isn, ft_ifn, ft_ifr, ft_ov, ft_ovn, ft_in, k_sI, n_sI, R_sI, J_sI, c_sI, z_sI, k_sJ, n_sJ, R_sJ, I_sJ, c_sJ, z_sJ, k_sR, n_sR, I_sR, J_sR, c_sR, z_sR, k_wI, n_wI, R_wI, J_wI, I_wIe, k_wJ, n_wJ, R_wJ, I_wJ, J_wJe, I_wIn, J_wJn, I_sIe, J_sJe, R_sRe, I_sIn, I_sIk, J_sJn, J_sJk, R_sRn, R_sRk, eq_self, if_true, if_false, ↓reduceIte, cond_true, cond_false, ↓cond_eq_ite, and_true, true_and, and_false, false_and, or_true, true_or, or_false, false_or, not_true_eq_false, not_false_eq_true, ft_ltT, ft_ltF, ft_eqT, ft_eqF, Bool.false_eq_true, Bool.true_eq_false, Bool.not_true, Bool.not_false, Bool.and_true, Bool.true_and, Bool.and_false, Bool.false_and, decide_true, decide_false, Nat.reduceAdd, Nat.reduceMul, Nat.reduceSub, Nat.reduceEqDiff, Nat.reduceLT, Nat.zero_add, Nat.add_zero, Nat.reduceDiv, Nat.reduceMod, sm_k85 S, sm_R85_1 S, ↓sm_v85_1 S, sm_R85_2 S, ↓sm_v85_2 S, sm_R85_3 S, ↓sm_v85_3 S, sm_R85_4 S, ↓sm_v85_4 S, sm_R85_5 S, ↓sm_v85_5 S, sm_R85_7 S, ↓sm_v85_7 S, sm_R85_11 S, ↓sm_v85_11 S, sm_R85_12 S, ↓sm_v85_12 S, sm_R85_15 S, ↓sm_v85_15 S, sm_R85_16 S, ↓sm_v85_16 S, sm_R85_17 S, ↓sm_v85_17 S, sm_R85_26 S, ↓sm_v85_26 S, sm_R85_29 S, ↓sm_v85_29 S, sm_R85_30 S, ↓sm_v85_30 S, sm_R85_32 S, ↓sm_v85_32 S, sm_R85_33 S, ↓sm_v85_33 S, sm_R85_34 S, ↓sm_v85_34 S, sm_R85_35 S, ↓sm_v85_35 S, sm_R85_36 S, ↓sm_v85_36 S, sm_R85_37 S, ↓sm_v85_37 S, sm_R85_38 S, ↓sm_v85_38 S, sm_R85_40 S, ↓sm_v85_40 S, sm_R85_41 S, ↓sm_v85_41 S, sm_R85_48 S, ↓sm_v85_48 S, sm_R85_49 S, ↓sm_v85_49 S, sm_k86 S, sm_n86 S, sm_k87 S, sm_n87 S, sm_k88 S, sm_n88 S, sm_k89 S, sm_n89 S, sm_k90 S, sm_n90 S, sm_k91 S, sm_n91 S, sm_k92 S, sm_n92 S, sm_k93 S, sm_n93 S, sm_k94 S, sm_n94 S, sm_k95 S, sm_n95 S, sm_k96 S, sm_n96 S, sm_k97 S, sm_n97 S, sm_k98 S, sm_n98 S, sm_k99 S, sm_n99 S, sm_k100 S, sm_n100 S, sm_k101 S, sm_n101 S, sm_k102 S, sm_n102 S, sm_k103 S, sm_n103 S, sm_k104 S, sm_n104 S, sm_k105 S, sm_n105 S, sm_k106 S, sm_n106 S, sm_k107 S, sm_n107 S, sm_k108 S, sm_n108 S, sm_k109 S, sm_n109 S, sm_k110 S, sm_n110 S, N, v1, v2]
theorem lyT_o {k : Nat → Nat} {T : Tk} {n j i : Nat} : ∀ m, i ≠ 181 + j → ¬ (188 + 400 * j ≤ i ∧ i < 188 + 400 * j + m) → ¬ (2988 + 400 * j ≤ i ∧ i < 2988 + 400 * j + m) → lyT k T n j m i = k i
  | 0, h1, h2, h3 => va_n h1
  | m + 1, h1, h2, h3 => by
    show va_up (va_up (lyT k T n j m) _ _) _ _ i = _
    rw [va_n (by omega), va_n (by omega)]
    exact lyT_o m h1 (by omega) (by omega)
theorem lyT_n {k : Nat → Nat} {T : Tk} {n j : Nat} (hj : j ≤ 6) : ∀ m, m ≤ 400 → lyT k T n j m (181 + j) = n
  | 0, _ => va_e
  | m + 1, h => by
    show va_up (va_up (lyT k T n j m) _ _) _ _ _ = _
    rw [va_n (by omega), va_n (by omega)]
    exact lyT_n hj m (by omega)
theorem lyT_1 {k : Nat → Nat} {T : Tk} {n j : Nat} (hj : j ≤ 6) : ∀ m i, m ≤ 400 → i < m → lyT k T n j m (188 + (400 * j + i)) = T.1 i ∧ lyT k T n j m (2988 + (400 * j + i)) = T.2 i
  | 0, i, _, h => absurd h (by omega)
  | m + 1, i, hm, h => by
    show va_up (va_up (lyT k T n j m) _ _) _ _ _ = _ ∧ va_up (va_up (lyT k T n j m) _ _) _ _ _ = _
    by_cases q : i = m
    · subst q
      refine ⟨?_, ?_⟩
      · rw [va_n (by omega)]
        have : 188 + (400 * j + i) = 188 + 400 * j + i := by omega
        rw [this, va_e]
      · have : 2988 + (400 * j + i) = 2988 + 400 * j + i := by omega
        rw [this, va_e]
    · rw [va_n (by omega), va_n (by omega), va_n (by omega), va_n (by omega)]
      exact lyT_1 hj m i (by omega) (by omega)
