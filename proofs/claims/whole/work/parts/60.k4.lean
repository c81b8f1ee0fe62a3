/-! TOKENS: the class's loop -/
theorem kcons (A : Nat → Int32) (c x : Nat) (d : List Nat) : cput (va_up A c (nI x)) (c + 1) d = cput A c (x :: d) := by
  rw [cput_one]
  exact cput_app A c [x] d
def tzP (L : Tz) (tl : Nat) : List Nat := L.map (fun q => q.1) ++ [tl]
def tzC (L : Tz) : List Nat := L.map (fun q => gC q.2.1) ++ [402]
def tzV (L : Tz) : List Nat := L.map (fun q => q.2.2.2) ++ [0]
def tzM (L : Tz) : List Nat := L.map (fun q => q.2.1) ++ [0]
def tzW (L : Tz) : List Nat := L.map (fun q => q.2.2.1) ++ [0]
theorem gC_s (b : Nat) : gC (100 + b) = b := by unfold gC; rw [if_pos (by omega)]; omega
theorem gC_n : gC 50 = 401 := by decide
theorem C_f4 {F : Nat × Nat} (hF : FF F) {h : jH} (S : ShF h) {tp : Nat → Nat} {tl : Nat} (P : TP h tp tl) : ∀ d i c f (A B C : Nat → Int32), tl < i + d → i ≤ tl → c ≤ i → d ≤ f → m_P_findTokens_4 F f 60 (nI c) (nI i) (hK h A B C) = some (none, hK h (cput A c (tzP (tz tp tl d i) tl)) (cput B c (tzC (tz tp tl d i))) (cput C c (tzV (tz tp tl d i))))
  | 0, i, c, f, A, B, C, h1, h2, h3, h4 => absurd h1 (by omega)
  | d + 1, i, c, 0, A, B, C, h1, h2, h3, h4 => absurd h4 (by omega)
  | d + 1, i, c, f + 1, A, B, C, hd, hi, hc, hf => by
    have h1 := P.2.1
    have h2 := P.1
    have hF1 := hF.1
    unfold tz
    by_cases w : i < tl
    · have h3 := P.2.2 i w
      have h4 := h3.1
      have h5 := h3.2
      have il := C_isL_b (F := F) (h := hK h A B C) h5
      have id := C_isD_b (F := F) (h := hK h A B C) h5
      rw [if_pos w]
      cases wl : kL (tp i) with
      | true =>
        rw [wl] at il
        rw [if_pos rfl]
        have q := rn_le kL tp (tl - (i + 1)) (i + 1)
        have ih := C_f4 hF S P d (rn kL tp (tl - (i + 1)) (i + 1)) (c + 1) f (va_up A c (nI i)) (va_up B c (nI (gC (mWc (tby tp i (rn kL tp (tl - (i + 1)) (i + 1))))))) (va_up C c (nI 0)) (by omega) (by omega) (by omega) (by omega)
        rw [← C_f32 hF S P (m_P_findTokens_4 F f) (by omega) (tl - (i + 1)) (i + 1) F.1 (by omega) (by omega) (by omega), kcons, kcons, kcons] at ih
        refine Eq.trans ?_ ih
        rw [q_P_findTokens_4]
        simp (disch := first | exact sR_rfl _ _ rfl | omega) only [ft_lit, ft_m1, ft_m2, ft_m3, ft_m5, ft_m6, ft_cl, ft_lt, ft_le, ft_eq, ft_mlt, ft_ltm, ft_mltm, ft_meq, ft_eqm, ft_meqm, ft_add, ft_mul, ft_sub, ft_nm, ft_m1p, ft_and, ft_or, ft_31, ft_shl, ft_shr, ft_bz, ft_z0, ft_z1, ft_z01, ft_bb, ft_zt, ft_zf, ft_or0, ft_rv, ft_rvr, ft_rf, ft_rfn, ft_bI, ft_bJ, ft_bV, ft_bR, ft_bRn, ft_isr, ft_isn, ft_ifn, ft_ifr, ft_ov, ft_ovn, ft_in, k_sI, n_sI, R_sI, J_sI, c_sI, z_sI, k_sJ, n_sJ, R_sJ, I_sJ, c_sJ, z_sJ, k_sR, n_sR, I_sR, J_sR, c_sR, z_sR, k_wI, n_wI, R_wI, J_wI, I_wIe, k_wJ, n_wJ, R_wJ, I_wJ, J_wJe, I_wIn, J_wJn, I_sIe, J_sJe, R_sRe, I_sIn, I_sIk, J_sJn, J_sJk, R_sRn, R_sRk, eq_self, if_true, if_false, ↓reduceIte, cond_true, cond_false, ↓cond_eq_ite, and_true, true_and, and_false, false_and, or_true, true_or, or_false, false_or, not_true_eq_false, not_false_eq_true, ft_ltT, ft_ltF, ft_eqT, ft_eqF, Bool.false_eq_true, Bool.true_eq_false, Bool.not_true, Bool.not_false, Bool.and_true, Bool.true_and, Bool.and_false, Bool.false_and, decide_true, decide_false, Nat.reduceAdd, Nat.reduceMul, Nat.reduceSub, Nat.reduceEqDiff, Nat.reduceLT, Nat.zero_add, Nat.add_zero, Nat.reduceDiv, Nat.reduceMod, hK_k, hK_n, hK_R, hK_I, h2, sf_k60 S, sf_R60_0 S, ↓sf_v60_0 S, sf_k61 S, sf_n61 S, h4, ↓il]
      | false =>
        rw [wl] at il
        rw [if_neg (by decide)]
        cases wd : kD (tp i) with
        | true =>
          rw [wd] at id
          rw [if_pos rfl]
          have q := rn_le kD tp (tl - (i + 1)) (i + 1)
          have ih := C_f4 hF S P d (rn kD tp (tl - (i + 1)) (i + 1)) (c + 1) f (va_up A c (nI i)) (va_up B c (nI 401)) (va_up C c (nI (nV 1000 tp (rn kD tp (tl - (i + 1)) (i + 1) - i) i 0))) (by omega) (by omega) (by omega) (by omega)
          rw [← C_f85 hF S P (m_P_findTokens_4 F f) (by omega) (tl - (i + 1)) (i + 1) F.1 (by omega) (by omega) (by omega) (fun x a b => by rw [show x = i by omega]; exact wd), kcons, kcons, kcons] at ih
          refine Eq.trans ?_ ih
          rw [q_P_findTokens_4]
          simp (disch := first | exact sR_rfl _ _ rfl | omega) only [ft_lit, ft_m1, ft_m2, ft_m3, ft_m5, ft_m6, ft_cl, ft_lt, ft_le, ft_eq, ft_mlt, ft_ltm, ft_mltm, ft_meq, ft_eqm, ft_meqm, ft_add, ft_mul, ft_sub, ft_nm, ft_m1p, ft_and, ft_or, ft_31, ft_shl, ft_shr, ft_bz, ft_z0, ft_z1, ft_z01, ft_bb, ft_zt, ft_zf, ft_or0, ft_rv, ft_rvr, ft_rf, ft_rfn, ft_bI, ft_bJ, ft_bV, ft_bR, ft_bRn, ft_isr, ft_isn, ft_ifn, ft_ifr, ft_ov, ft_ovn, ft_in, k_sI, n_sI, R_sI, J_sI, c_sI, z_sI, k_sJ, n_sJ, R_sJ, I_sJ, c_sJ, z_sJ, k_sR, n_sR, I_sR, J_sR, c_sR, z_sR, k_wI, n_wI, R_wI, J_wI, I_wIe, k_wJ, n_wJ, R_wJ, I_wJ, J_wJe, I_wIn, J_wJn, I_sIe, J_sJe, R_sRe, I_sIn, I_sIk, J_sJn, J_sJk, R_sRn, R_sRk, eq_self, if_true, if_false, ↓reduceIte, cond_true, cond_false, ↓cond_eq_ite, and_true, true_and, and_false, false_and, or_true, true_or, or_false, false_or, not_true_eq_false, not_false_eq_true, ft_ltT, ft_ltF, ft_eqT, ft_eqF, Bool.false_eq_true, Bool.true_eq_false, Bool.not_true, Bool.not_false, Bool.and_true, Bool.true_and, Bool.and_false, Bool.false_and, decide_true, decide_false, Nat.reduceAdd, Nat.reduceMul, Nat.reduceSub, Nat.reduceEqDiff, Nat.reduceLT, Nat.zero_add, Nat.add_zero, Nat.reduceDiv, Nat.reduceMod, hK_k, hK_n, hK_R, hK_I, h2, sf_k60 S, sf_R60_0 S, ↓sf_v60_0 S, sf_k61 S, sf_n61 S, h4, ↓il, ↓id]
        | false =>
          rw [wd] at id
          rw [if_neg (by decide)]
          by_cases ws : tp i = 32
          · rw [if_pos ws]
            have ih := C_f4 hF S P d (i + 1) c f A B C (by omega) (by omega) (by omega) (by omega)
            refine Eq.trans ?_ ih
            rw [q_P_findTokens_4]
            rw [ws] at il id h4
            simp (disch := first | exact sR_rfl _ _ rfl | omega) only [ft_lit, ft_m1, ft_m2, ft_m3, ft_m5, ft_m6, ft_cl, ft_lt, ft_le, ft_eq, ft_mlt, ft_ltm, ft_mltm, ft_meq, ft_eqm, ft_meqm, ft_add, ft_mul, ft_sub, ft_nm, ft_m1p, ft_and, ft_or, ft_31, ft_shl, ft_shr, ft_bz, ft_z0, ft_z1, ft_z01, ft_bb, ft_zt, ft_zf, ft_or0, ft_rv, ft_rvr, ft_rf, ft_rfn, ft_bI, ft_bJ, ft_bV, ft_bR, ft_bRn, ft_isr, ft_isn, ft_ifn, ft_ifr, ft_ov, ft_ovn, ft_in, k_sI, n_sI, R_sI, J_sI, c_sI, z_sI, k_sJ, n_sJ, R_sJ, I_sJ, c_sJ, z_sJ, k_sR, n_sR, I_sR, J_sR, c_sR, z_sR, k_wI, n_wI, R_wI, J_wI, I_wIe, k_wJ, n_wJ, R_wJ, I_wJ, J_wJe, I_wIn, J_wJn, I_sIe, J_sJe, R_sRe, I_sIn, I_sIk, J_sJn, J_sJk, R_sRn, R_sRk, eq_self, if_true, if_false, ↓reduceIte, cond_true, cond_false, ↓cond_eq_ite, and_true, true_and, and_false, false_and, or_true, true_or, or_false, false_or, not_true_eq_false, not_false_eq_true, ft_ltT, ft_ltF, ft_eqT, ft_eqF, Bool.false_eq_true, Bool.true_eq_false, Bool.not_true, Bool.not_false, Bool.and_true, Bool.true_and, Bool.and_false, Bool.false_and, decide_true, decide_false, Nat.reduceAdd, Nat.reduceMul, Nat.reduceSub, Nat.reduceEqDiff, Nat.reduceLT, Nat.zero_add, Nat.add_zero, Nat.reduceDiv, Nat.reduceMod, hK_k, hK_n, hK_R, hK_I, h2, sf_k60 S, sf_R60_0 S, ↓sf_v60_0 S, sf_k61 S, sf_n61 S, h4, ↓il, ↓id]
          · rw [if_neg ws]
            have ih := C_f4 hF S P d (i + 1) (c + 1) f (va_up A c (nI i)) (va_up B c (nI (tp i))) (va_up C c (nI 0)) (by omega) (by omega) (by omega) (by omega)
            rw [kcons, kcons, kcons] at ih
            have e4 : tzC ((i, 100 + tp i, 0, 0) :: tz tp tl d (i + 1)) = tp i :: tzC (tz tp tl d (i + 1)) := by unfold tzC; rw [List.map_cons, gC_s]; rfl
            rw [e4]
            have pt := C_put_b (F := F) S.P (A := A) (B := B) (C := C) (c := c) (by omega) (nI i) (nI (tp i)) (nI 0)
            refine Eq.trans ?_ ih
            rw [q_P_findTokens_4]
            simp (disch := first | exact sR_rfl _ _ rfl | omega) only [ft_lit, ft_m1, ft_m2, ft_m3, ft_m5, ft_m6, ft_cl, ft_lt, ft_le, ft_eq, ft_mlt, ft_ltm, ft_mltm, ft_meq, ft_eqm, ft_meqm, ft_add, ft_mul, ft_sub, ft_nm, ft_m1p, ft_and, ft_or, ft_31, ft_shl, ft_shr, ft_bz, ft_z0, ft_z1, ft_z01, ft_bb, ft_zt, ft_zf, ft_or0, ft_rv, ft_rvr, ft_rf, ft_rfn, ft_bI, ft_bJ, ft_bV, ft_bR, ft_bRn, ft_isr, ft_isn, ft_ifn, ft_ifr, ft_ov, ft_ovn, ft_in, k_sI, n_sI, R_sI, J_sI, c_sI, z_sI, k_sJ, n_sJ, R_sJ, I_sJ, c_sJ, z_sJ, k_sR, n_sR, I_sR, J_sR, c_sR, z_sR, k_wI, n_wI, R_wI, J_wI, I_wIe, k_wJ, n_wJ, R_wJ, I_wJ, J_wJe, I_wIn, J_wJn, I_sIe, J_sJe, R_sRe, I_sIn, I_sIk, J_sJn, J_sJk, R_sRn, R_sRk, eq_self, if_true, if_false, ↓reduceIte, cond_true, cond_false, ↓cond_eq_ite, and_true, true_and, and_false, false_and, or_true, true_or, or_false, false_or, not_true_eq_false, not_false_eq_true, ft_ltT, ft_ltF, ft_eqT, ft_eqF, Bool.false_eq_true, Bool.true_eq_false, Bool.not_true, Bool.not_false, Bool.and_true, Bool.true_and, Bool.and_false, Bool.false_and, decide_true, decide_false, Nat.reduceAdd, Nat.reduceMul, Nat.reduceSub, Nat.reduceEqDiff, Nat.reduceLT, Nat.zero_add, Nat.add_zero, Nat.reduceDiv, Nat.reduceMod, hK_k, hK_n, hK_R, hK_I, h2, sf_k60 S, sf_R60_0 S, ↓sf_v60_0 S, sf_k61 S, sf_n61 S, h4, ↓il, ↓id, ↓pt]
    · have e : i = tl := by omega
      subst e
      rw [if_neg w]
      have pt := C_put_b (F := F) S.P (A := A) (B := B) (C := C) (c := c) (by omega) (nI i) (nI 402) (nI 0)
      rw [cput_one, cput_one, cput_one] at pt
      rw [q_P_findTokens_4]
      simp (disch := first | exact sR_rfl _ _ rfl | omega) only [ft_lit, ft_m1, ft_m2, ft_m3, ft_m5, ft_m6, ft_cl, ft_lt, ft_le, ft_eq, ft_mlt, ft_ltm, ft_mltm, ft_meq, ft_eqm, ft_meqm, ft_add, ft_mul, ft_sub, ft_nm, ft_m1p, ft_and, ft_or, ft_31, ft_shl, ft_shr, ft_bz, ft_z0, ft_z1, ft_z01, ft_bb, ft_zt, ft_zf, ft_or0, ft_rv, ft_rvr, ft_rf, ft_rfn, ft_bI, ft_bJ, ft_bV, ft_bR, ft_bRn, ft_isr, ft_isn, ft_ifn, ft_ifr, ft_ov, ft_ovn, ft_in, k_sI, n_sI, R_sI, J_sI, c_sI, z_sI, k_sJ, n_sJ, R_sJ, I_sJ, c_sJ, z_sJ, k_sR, n_sR, I_sR, J_sR, c_sR, z_sR, k_wI, n_wI, R_wI, J_wI, I_wIe, k_wJ, n_wJ, R_wJ, I_wJ, J_wJe, I_wIn, J_wJn, I_sIe, J_sJe, R_sRe, I_sIn, I_sIk, J_sJn, J_sJk, R_sRn, R_sRk, eq_self, if_true, if_false, ↓reduceIte, cond_true, cond_false, ↓cond_eq_ite, and_true, true_and, and_false, false_and, or_true, true_or, or_false, false_or, not_true_eq_false, not_false_eq_true, ft_ltT, ft_ltF, ft_eqT, ft_eqF, Bool.false_eq_true, Bool.true_eq_false, Bool.not_true, Bool.not_false, Bool.and_true, Bool.true_and, Bool.and_false, Bool.false_and, decide_true, decide_false, Nat.reduceAdd, Nat.reduceMul, Nat.reduceSub, Nat.reduceEqDiff, Nat.reduceLT, Nat.zero_add, Nat.add_zero, Nat.reduceDiv, Nat.reduceMod, hK_k, hK_n, hK_R, hK_I, h2, sf_k60 S, sf_R60_0 S, ↓sf_v60_0 S, sf_k61 S, sf_n61 S, ↓pt]
      rfl
