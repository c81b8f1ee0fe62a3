/-! CALL: image, done -/
def d88 (x : Nat) : Nat → Nat → Prop := fun a i => (a = 88 ∧ 5788 * x ≤ i ∧ i < 5788 * x + 5788) ∨ (a = 89 ∧ i = x)
theorem M_image_17 {F : Nat × Nat} {x : Nat} (hx : x < 2) : ∀ d m f h, m + d = 5788 → d < f → ShM h → (∀ i, i < m → j_I h 88 (5788 * x + i) = j_I h 87 i) → ∃ h1, m_M_image_17 F f 85 (nI x) (nI m) h = m_M_good F 85 (nI 0) h1 ∧ jX (d88 x) jN h h1 ∧ j_I h1 89 x = nI 1 ∧ ∀ i, i < 5788 → j_I h1 88 (5788 * x + i) = j_I h 87 i
  | 0, m, f + 1, h, e, _, S, U => by
    have : m = 5788 := by omega
    subst this
    have x0 : jX (d88 x) jN h (j_sI h 89 x (nI 1)) := jX.rf.sI (by unfold d88; omega)
    have S1 := S.fr x0 (fun _ _ z => z)
    refine ⟨j_sI h 89 x (nI 1), ?_, x0, I_sIe, fun i hi => by rw [I_sIn (by omega)]; exact U i hi⟩
    have b3 := bI_eta (M_good (F := F) S1 (nI 0))
    have z1 : (nI 1 = nI 0 ∨ nI 1 = nI 1) = True := by simp
    rw [M_good (F := F) S1, ← b3, q_M_image_17]
    simp (disch := first | exact sR_rfl _ _ rfl | omega) only [ft_lit, ft_m1, ft_m2, ft_m3, ft_m5, ft_m6, ft_cl, ft_lt, ft_le, ft_eq, ft_mlt, ft_ltm, ft_mltm, ft_meq, ft_eqm, ft_meqm, ft_add, ft_mul, ft_sub, ft_nm, ft_m1p, ft_and, ft_or, ft_31, ft_shl, ft_shr, ft_bz, ft_z0, ft_z1, ft_z01, ft_bb, ft_zt, ft_zf, ft_or0, ft_rv, ft_rvr, ft_rf, ft_rfn, ft_bI, ft_bJ, ft_bV, ft_bR, ft_bRn, ft_isr, ft_isn, ft_ifn, ft_ifr, ft_ov, ft_ovn, ft_in, k_sI, n_sI, R_sI, J_sI, c_sI, z_sI, k_sJ, n_sJ, R_sJ, I_sJ, c_sJ, z_sJ, k_sR, n_sR, I_sR, J_sR, c_sR, z_sR, k_wI, n_wI, R_wI, J_wI, I_wIe, k_wJ, n_wJ, R_wJ, I_wJ, J_wJe, I_wIn, J_wJn, I_sIe, J_sJe, R_sRe, I_sIn, I_sIk, J_sJn, J_sJk, R_sRn, R_sRk, eq_self, if_true, if_false, ↓reduceIte, cond_true, cond_false, ↓cond_eq_ite, and_true, true_and, and_false, false_and, or_true, true_or, or_false, false_or, not_true_eq_false, not_false_eq_true, ft_ltT, ft_ltF, ft_eqT, ft_eqF, Bool.false_eq_true, Bool.true_eq_false, Bool.not_true, Bool.not_false, Bool.and_true, Bool.true_and, Bool.and_false, Bool.false_and, decide_true, decide_false, Nat.reduceAdd, Nat.reduceMul, Nat.reduceSub, Nat.reduceEqDiff, Nat.reduceLT, Nat.zero_add, Nat.add_zero, Nat.reduceDiv, Nat.reduceMod, sm_k85 S, sm_R85_1 S, ↓sm_v85_1 S, sm_R85_2 S, ↓sm_v85_2 S, sm_R85_3 S, ↓sm_v85_3 S, sm_R85_4 S, ↓sm_v85_4 S, sm_R85_5 S, ↓sm_v85_5 S, sm_R85_7 S, ↓sm_v85_7 S, sm_R85_11 S, ↓sm_v85_11 S, sm_R85_12 S, ↓sm_v85_12 S, sm_R85_15 S, ↓sm_v85_15 S, sm_R85_16 S, ↓sm_v85_16 S, sm_R85_17 S, ↓sm_v85_17 S, sm_R85_26 S, ↓sm_v85_26 S, sm_R85_29 S, ↓sm_v85_29 S, sm_R85_30 S, ↓sm_v85_30 S, sm_R85_32 S, ↓sm_v85_32 S, sm_R85_33 S, ↓sm_v85_33 S, sm_R85_34 S, ↓sm_v85_34 S, sm_R85_35 S, ↓sm_v85_35 S, sm_R85_36 S, ↓sm_v85_36 S, sm_R85_37 S, ↓sm_v85_37 S, sm_R85_38 S, ↓sm_v85_38 S, sm_R85_40 S, ↓sm_v85_40 S, sm_R85_41 S, ↓sm_v85_41 S, sm_R85_48 S, ↓sm_v85_48 S, sm_R85_49 S, ↓sm_v85_49 S, sm_k86 S, sm_n86 S, sm_k87 S, sm_n87 S, sm_k88 S, sm_n88 S, sm_k89 S, sm_n89 S, sm_k90 S, sm_n90 S, sm_k91 S, sm_n91 S, sm_k92 S, sm_n92 S, sm_k93 S, sm_n93 S, sm_k94 S, sm_n94 S, sm_k95 S, sm_n95 S, sm_k96 S, sm_n96 S, sm_k97 S, sm_n97 S, sm_k98 S, sm_n98 S, sm_k99 S, sm_n99 S, sm_k100 S, sm_n100 S, sm_k101 S, sm_n101 S, sm_k102 S, sm_n102 S, sm_k103 S, sm_n103 S, sm_k104 S, sm_n104 S, sm_k105 S, sm_n105 S, sm_k106 S, sm_n106 S, sm_k107 S, sm_n107 S, sm_k108 S, sm_n108 S, sm_k109 S, sm_n109 S, sm_k110 S, sm_n110 S, or_true]
  | d + 1, m, f + 1, h, e, hf, S, U => by
    have x0 : jX (d88 x) jN h (j_sI h 88 (5788 * x + m) (j_I h 87 m)) := jX.rf.sI (by unfold d88; omega)
    obtain ⟨h1, e1, x1, p1, p2⟩ := M_image_17 (F := F) hx d (m + 1) f (j_sI h 88 (5788 * x + m) (j_I h 87 m)) (by omega) (by omega) (S.fr x0 (fun _ _ z => z)) (fun i hi => by
      rw [I_sIn (a := 88) (b := 87) (by omega)]
      by_cases q : i = m
      · rw [q, I_sIe]
      · rw [I_sIk (by omega)]; exact U i (by omega))
    refine ⟨h1, ?_, x0.t x1, p1, fun i hi => by rw [p2 i hi, I_sIn (by omega)]⟩
    rw [← e1, q_M_image_17]
    simp (disch := first | exact sR_rfl _ _ rfl | omega) only [ft_lit, ft_m1, ft_m2, ft_m3, ft_m5, ft_m6, ft_cl, ft_lt, ft_le, ft_eq, ft_mlt, ft_ltm, ft_mltm, ft_meq, ft_eqm, ft_meqm, ft_add, ft_mul, ft_sub, ft_nm, ft_m1p, ft_and, ft_or, ft_31, ft_shl, ft_shr, ft_bz, ft_z0, ft_z1, ft_z01, ft_bb, ft_zt, ft_zf, ft_or0, ft_rv, ft_rvr, ft_rf, ft_rfn, ft_bI, ft_bJ, ft_bV, ft_bR, ft_bRn, ft_isr, ft_isn, ft_ifn, ft_ifr, ft_ov, ft_ovn, ft_in, k_sI, n_sI, R_sI, J_sI, c_sI, z_sI, k_sJ, n_sJ, R_sJ, I_sJ, c_sJ, z_sJ, k_sR, n_sR, I_sR, J_sR, c_sR, z_sR, k_wI, n_wI, R_wI, J_wI, I_wIe, k_wJ, n_wJ, R_wJ, I_wJ, J_wJe, I_wIn, J_wJn, I_sIe, J_sJe, R_sRe, I_sIn, I_sIk, J_sJn, J_sJk, R_sRn, R_sRk, eq_self, if_true, if_false, ↓reduceIte, cond_true, cond_false, ↓cond_eq_ite, and_true, true_and, and_false, false_and, or_true, true_or, or_false, false_or, not_true_eq_false, not_false_eq_true, ft_ltT, ft_ltF, ft_eqT, ft_eqF, Bool.false_eq_true, Bool.true_eq_false, Bool.not_true, Bool.not_false, Bool.and_true, Bool.true_and, Bool.and_false, Bool.false_and, decide_true, decide_false, Nat.reduceAdd, Nat.reduceMul, Nat.reduceSub, Nat.reduceEqDiff, Nat.reduceLT, Nat.zero_add, Nat.add_zero, Nat.reduceDiv, Nat.reduceMod, sm_k85 S, sm_R85_1 S, ↓sm_v85_1 S, sm_R85_2 S, ↓sm_v85_2 S, sm_R85_3 S, ↓sm_v85_3 S, sm_R85_4 S, ↓sm_v85_4 S, sm_R85_5 S, ↓sm_v85_5 S, sm_R85_7 S, ↓sm_v85_7 S, sm_R85_11 S, ↓sm_v85_11 S, sm_R85_12 S, ↓sm_v85_12 S, sm_R85_15 S, ↓sm_v85_15 S, sm_R85_16 S, ↓sm_v85_16 S, sm_R85_17 S, ↓sm_v85_17 S, sm_R85_26 S, ↓sm_v85_26 S, sm_R85_29 S, ↓sm_v85_29 S, sm_R85_30 S, ↓sm_v85_30 S, sm_R85_32 S, ↓sm_v85_32 S, sm_R85_33 S, ↓sm_v85_33 S, sm_R85_34 S, ↓sm_v85_34 S, sm_R85_35 S, ↓sm_v85_35 S, sm_R85_36 S, ↓sm_v85_36 S, sm_R85_37 S, ↓sm_v85_37 S, sm_R85_38 S, ↓sm_v85_38 S, sm_R85_40 S, ↓sm_v85_40 S, sm_R85_41 S, ↓sm_v85_41 S, sm_R85_48 S, ↓sm_v85_48 S, sm_R85_49 S, ↓sm_v85_49 S, sm_k86 S, sm_n86 S, sm_k87 S, sm_n87 S, sm_k88 S, sm_n88 S, sm_k89 S, sm_n89 S, sm_k90 S, sm_n90 S, sm_k91 S, sm_n91 S, sm_k92 S, sm_n92 S, sm_k93 S, sm_n93 S, sm_k94 S, sm_n94 S, sm_k95 S, sm_n95 S, sm_k96 S, sm_n96 S, sm_k97 S, sm_n97 S, sm_k98 S, sm_n98 S, sm_k99 S, sm_n99 S, sm_k100 S, sm_n100 S, sm_k101 S, sm_n101 S, sm_k102 S, sm_n102 S, sm_k103 S, sm_n103 S, sm_k104 S, sm_n104 S, sm_k105 S, sm_n105 S, sm_k106 S, sm_n106 S, sm_k107 S, sm_n107 S, sm_k108 S, sm_n108 S, sm_k109 S, sm_n109 S, sm_k110 S, sm_n110 S]
theorem C_imgA {F : Nat × Nat} {h h' : jH} {x g : Nat} (S : ShF h) (S' : ShF h') (hx : x < 2) (hg : j_R h 41 x = some g) (kg : j_k h g = 12) (e : m_L_copyFrom F g 5 h = some (none, h')) : m_F_image F 4 (nI x) h = m_F_accept F 4 (nI 0) h' := by
  have hg' : j_R h 41 (nI x).toNatClampNeg = some g := by rw [ft_cl (by omega)]; exact hg
  have inn : j_in h 41 (nI x) := by rw [ft_in (by omega), sf_n41 S]; omega
  rw [q_F_image, if_neg (by rw [ft_lt (by omega) (by omega)]; omega), if_pos (by rw [ft_lt (by omega) (by omega)]; omega), if_pos (sf_k4 S), sf_v4_3 S (sR_rfl _ _ rfl), if_pos ⟨Or.inr (sf_k41 S), inn⟩, hg', ft_rf, ft_ifr, if_pos (sf_k4 S), sf_v4_3 S (sR_rfl _ _ rfl), if_pos ⟨Or.inr (sf_k41 S), inn⟩, if_pos (sf_k4 S), hg', ft_rv, sf_v4_0 S (sR_rfl _ _ rfl), if_pos kg, bV_of e, if_pos (sf_k4 S'), bI_eta (C_accept S' _), C_accept S']
theorem C_imgB {F : Nat × Nat} {h h5 h' : jH} {x : Nat} (S : ShF h) (S5 : ShF h5) (S' : ShF h') (hx : x < 2) (hg : j_R h 41 x = none) (e5 : m_L_new F (j_c h) (j_new h 12 15) = some (none, h5)) (k5 : j_k h5 (j_c h) = 12) (e : m_L_copyFrom F (j_c h) 5 (j_sR h5 41 (nI x).toNatClampNeg (some (j_c h))) = some (none, h')) : m_F_image F 4 (nI x) h = m_F_accept F 4 (nI 0) h' := by
  have hg' : j_R h 41 (nI x).toNatClampNeg = none := by rw [ft_cl (by omega)]; exact hg
  have inn : j_in h 41 (nI x) := by rw [ft_in (by omega), sf_n41 S]; omega
  have inn5 : j_in h5 41 (nI x) := by rw [ft_in (by omega), sf_n41 S5]; omega
  have kb : (j_k h5 (j_c h) == 12) = true := by rw [k5]; rfl
  have R43 : j_R (j_sR h5 41 (nI x).toNatClampNeg (some (j_c h))) 4 3 = some 41 := by rw [R_sRn (by omega)]; exact sf_R4_3 S5
  have R40 : j_R (j_sR h5 41 (nI x).toNatClampNeg (some (j_c h))) 4 0 = some 5 := by rw [R_sRn (by omega)]; exact sf_R4_0 S5
  have k4 : j_k (j_sR h5 41 (nI x).toNatClampNeg (some (j_c h))) 4 = 10 := sf_k4 S5
  have rg : j_R (j_sR h5 41 (nI x).toNatClampNeg (some (j_c h))) 41 (nI x).toNatClampNeg = some (j_c h) := R_sRe
  rw [q_F_image, if_neg (by rw [ft_lt (by omega) (by omega)]; omega), if_pos (by rw [ft_lt (by omega) (by omega)]; omega), if_pos (sf_k4 S), sf_v4_3 S (sR_rfl _ _ rfl), if_pos ⟨Or.inr (sf_k41 S), inn⟩, hg', ft_rfn, ft_ifn, if_pos (sf_k4 S)]
  show jbV (m_L_new F (j_c h) (j_new h 12 15)) _ = _
  rw [bV_of e5, sf_v4_3 S (sR_rfl _ _ rfl), if_pos ⟨Or.inr ⟨sf_k41 S5, kb⟩, inn5⟩]
  show (if j_k (j_sR h5 41 (nI x).toNatClampNeg (some (j_c h))) 4 = 10 then _ else _) = _
  rw [if_pos k4, R43, ft_rv, if_pos (show (j_k (j_sR h5 41 (nI x).toNatClampNeg (some (j_c h))) 41 = 4 ∨ j_k (j_sR h5 41 (nI x).toNatClampNeg (some (j_c h))) 41 = 5) ∧ j_in (j_sR h5 41 (nI x).toNatClampNeg (some (j_c h))) 41 (nI x) from ⟨Or.inr (sf_k41 S5), inn5⟩), if_pos k4, rg, ft_rv, R40, ft_rv, if_pos (show j_k (j_sR h5 41 (nI x).toNatClampNeg (some (j_c h))) (j_c h) = 12 from k5), bV_of e, if_pos (sf_k4 S'), bI_eta (C_accept S' _), C_accept S']
theorem K_image {F : Nat × Nat} (hF : FF F) {s : St} (w : WJ s) (a : Int32) : Alk (m_M_image F 85 a) (m_F_image F 4 a) s := by
  obtain ⟨k, im, u, tp, tl, sc, kd⟩ := s
  have w' : WS k im u := w
  have W := w'.1
  have hF1 := hF.1
  rcases rngQ a (lo := 0) (hi := 1) (by omega) (by omega) with ⟨x, h1, h2, rfl⟩ | q
  · refine ⟨(nI 0), (k, imU im x k, u, tp, tl, gdC sc, kd), ⟨W, fun y kk e => ?_, w'.2.2⟩, Mst.pre (s1 := (k, imU im x k, u, tp, tl, sc, kd)) (fun h M => ?_) (M_gd (F := F) _), Cst.preY (s1 := (k, imU im x k, u, tp, tl, sc, kd)) (fun h C => ?_) (C_gd0 (F := F) _)⟩
    · have e' : imU im x k y = some kk := e
      unfold imU at e'
      by_cases q : y = x
      · rw [if_pos q] at e'
        injection e' with e'
        rw [← e']; exact W
      · rw [if_neg q] at e'; exact w'.2.1 y kk e'
    · have M' : MI h k im u tp tl sc kd := M
      obtain ⟨m1, m2, m3, m4, m5, m6, m7, m8, m9⟩ := id M'
      obtain ⟨h1', e1, x1, p1, p2⟩ := M_image_17 (F := F) (x := x) (by omega) 5788 0 F.1 h rfl (by omega) m1 (fun i hi => absurd hi (by omega))
      have n : ∀ a i, a ≠ 88 → a ≠ 89 → j_I h1' a i = j_I h a i := fun a i q1 q2 => x1.I (fun z => by unfold d88 at z; omega)
      have M1 : MI h1' k (imU im x k) u tp tl sc kd := by
        refine ⟨m1.fr x1 (fun _ _ z => z), ?_, ?_, ?_, fun y hy => ?_, ?_, ?_, ?_, ?_⟩
        · unfold WM at m2 ⊢
          simp (disch := omega) only [n]
          exact m2
        · unfold SB at m3 ⊢
          simp (disch := omega) only [n]
          exact m3
        · unfold KM at m4 ⊢
          simp (disch := omega) only [n]
          exact m4
        · unfold imU
          by_cases q : y = x
          · rw [if_pos q, q]
            refine ⟨p1, fun kk e => ?_⟩
            injection e with e
            subst e
            exact ⟨fun i h1 h2 => by rw [p2 i h1]; exact m4.1 i h1 h2, by rw [p2 180 (by omega)]; exact m4.2⟩
          · rw [if_neg q]
            obtain ⟨a1, a2⟩ := m5 y hy
            refine ⟨by rw [x1.I (fun z => by unfold d88 at z; omega)]; exact a1, fun kk e => ?_⟩
            obtain ⟨b1, b2⟩ := a2 kk e
            exact ⟨fun i h1 h2 => by rw [x1.I (fun z => by unfold d88 at z; omega)]; exact b1 i h1 h2, by rw [x1.I (fun z => by unfold d88 at z; omega)]; exact b2⟩
        · unfold MU at m6 ⊢
          simp (disch := omega) only [n]
          exact m6
        · unfold MT TQ at m7 ⊢
          simp (disch := omega) only [n]
          exact m7
        · unfold MS at m8 ⊢
          simp (disch := omega) only [n]
          exact m8
        · unfold MD at m9 ⊢
          simp (disch := omega) only [n]
          exact m9
      refine ⟨h1', ?_, M1, x1.up (fun a i d => by unfold d88 at d; unfold dMM; omega) (fun _ _ z => z)⟩
      rw [← e1, q_M_image, bI_of (lie1 h1 h2 (by omega)), if_neg (by decide)]
    · have C' : CI h k im u tp tl sc kd := C
      obtain ⟨c1, c2, c3, c4, c5, c6, c7, c8, c9⟩ := id C'
      cases hr : j_R h 41 x with
      | some g =>
        have im1 : im x ≠ none := fun z => by rw [(c4.1 x).mpr z] at hr; cases hr
        obtain ⟨kk, hk⟩ : ∃ kk, im x = some kk := by
          cases q : im x with
          | none => exact absurd q im1
          | some kk => exact ⟨kk, rfl⟩
        obtain ⟨g1, g2, Lg⟩ := c4.2.1 x g kk hr hk
        obtain ⟨h', e, C2, xx⟩ := C_img (F := F) hF (im := im) W c1 c2 c3 Lg.1 g1 g2 hr Lg.2.2.2 (fun y _ => c4.1 y) (fun y g' kk _ => c4.2.1 y g' kk) (fun y z a b => c4.2.2 y z a b) c5 c6 c7 c8 c9
        exact ⟨h', C_imgA c1 C2.1 (by omega) hr Lg.1.1 e, C2, jY.of xx (fun a i d => by unfold dO at d; omega) (fun a i d => by unfold eO at d; omega)⟩
      | none =>
        obtain ⟨h5, e5, B5, cc5, z5, A5, r5⟩ := L_new (F := F) (h := h)
        have C5 := C'.B B5
        obtain ⟨d1, d2, d3, d4, d5, d6, d7, d8, d9⟩ := id C5
        have x7 : jX jN (fun a i => a = 41 ∧ i = x) h5 (j_sR h5 41 x (some (j_c h))) := jX.rf.sR ⟨rfl, rfl⟩
        have hr5 : j_R h5 41 x = none := by rw [((B5.2 41 (by omega)).2 x).2.2]; exact hr
        have ftx : ∀ t, FT h t → FT (j_sR h5 41 x (some (j_c h))) t := fun t f => ⟨f.1, by show t + 6 < j_c h5; have := f.2.1; omega, fun y g hg => by
          by_cases q : y = x
          · rw [q, R_sRe] at hg
            injection hg with hg
            have := f.2.1
            exact Or.inl (by omega)
          · rw [R_sRk q, ((B5.2 41 (by omega)).2 y).2.2] at hg
            exact f.2.2 y g hg⟩
        have LLx : ∀ o kk, LL h o kk → o + 11 < j_c h → (o = 5 ∨ 110 < o) → LL (j_sR h5 41 x (some (j_c h))) o kk := fun o kk L ho ho2 => by
          have L5 := L.B B5 ho c2
          obtain ⟨A, I, V1, V2⟩ := L5
          refine ⟨A.fr x7 (fun i z => by omega), I.fr x7 (fun j i hj z => z), fun j hj => ?_, fun j t ht => ?_⟩
          · obtain ⟨t, q1, X⟩ := V1 j hj
            have f := (V2 j t q1).1.1
            exact ⟨t, by rw [x7.R (fun z => by omega)]; exact q1, X.fr x7 (fun j i hj z => z) (fun i z => by omega)⟩
          · rw [x7.R (fun z => by omega)] at ht
            have hto : j_R h (o + 11) j = some t := by rw [← ((B5.2 (o + 11) ho).2 j).2.2]; exact ht
            exact ⟨ftx t (L.2.2.2 j t hto).1, by rw [x7.k]; exact (V2 j t ht).2⟩
        have rr : ∀ y, y ≠ x → j_R (j_sR h5 41 x (some (j_c h))) 41 y = j_R h 41 y := fun y q => by rw [R_sRk q]; exact ((B5.2 41 (by omega)).2 y).2.2
        have bnd : ∀ y g, j_R h 41 y = some g → g + 11 < j_c h := fun y g q => by
          cases hi : im y with
          | none => rw [(c4.1 y).mpr hi] at q; cases q
          | some kk => exact (c4.2.1 y g kk q hi).2.1
        obtain ⟨h', e, C2, xx⟩ := C_img (F := F) hF (im := im) (h := j_sR h5 41 x (some (j_c h))) (g := j_c h) (x := x) W (d1.fr2 x7 (fun a i z => by omega)) d2 (LLx 5 k c3 (by omega) (Or.inl rfl)) (A5.fr x7 (fun i z => by omega)) c2 (by show j_c h + 11 < j_c h5; omega) R_sRe (fun j t q => by
          rw [x7.R (fun z => by omega), r5] at q; cases q) (fun y q => by rw [rr y q]; exact c4.1 y) (fun y g' kk q h1 h2 => by
          rw [rr y q] at h1
          obtain ⟨a1, a2, a3⟩ := c4.2.1 y g' kk h1 h2
          exact ⟨a1, by show g' + 11 < j_c h5; omega, LLx g' kk a3 a2 (Or.inr a1)⟩) (fun y z a b ne h1 h2 => by
          by_cases qy : y = x
          · have qz : z ≠ x := fun w => ne (by rw [qy, w])
            rw [qy, R_sRe] at h1
            injection h1 with h1
            rw [rr z qz] at h2
            have := bnd z b h2
            exact Or.inr (by omega)
          · rw [rr y qy] at h1
            by_cases qz : z = x
            · rw [qz, R_sRe] at h2
              injection h2 with h2
              have := bnd y a h1
              exact Or.inl (by omega)
            · rw [rr z qz] at h2
              exact c4.2.2 y z a b ne h1 h2) (d5.fr x7 (fun a i q1 q2 z => z)) (d6.fr x7 (fun z => z) (fun i z => z)) (by
          have n : ∀ a i, j_I (j_sR h5 41 x (some (j_c h))) a i = j_I h5 a i := fun a i => rfl
          unfold CS at d7 ⊢
          simp only [n]
          exact d7) (d8.fr x7 (fun a i q1 q2 z => z)) (d9.fr x7 (fun a i q z => z))
        have cx : (nI x).toNatClampNeg = x := ft_cl (by omega)
        refine ⟨h', C_imgB c1 d1 C2.1 (by omega) hr e5 A5.1 (by rw [cx]; exact e), C2, ?_⟩
        refine ⟨fun a ha => ?_, fun a i q1 q2 => ?_, by rw [xx.2.1]; show j_c h ≤ j_c h5; omega, by rw [xx.2.1]; show j_c h5 ≤ _; omega, by rw [xx.2.2.1]; show j_z h5 ≤ _; omega⟩
        · rw [xx.k, xx.n]; exact (B5.2 a ha).1
        · have ha : a < j_c h := by omega
          have b := (B5.2 a ha).2 i
          rw [xx.I (fun z => by unfold dO at z; omega), xx.J (fun z => by unfold dO at z; omega), xx.R (fun z => by unfold eO at z; omega)]
          exact ⟨b.1, b.2.1, by rw [R_sRn (by omega)]; exact b.2.2⟩
  · refine ⟨(mI 0), (k, im, u, tp, tl, rfC sc 0, kd), w, Mst.eta (m2 := m_M_refuses F 85 (mI 0)) (fun h M => ?_) (M_ref (by omega)), Cst.eta (m2 := m_F_refuse F 4 (mI 0)) (fun h C => ?_) (C_ref (by omega))⟩
    · have S := (show MI h k im u tp tl sc kd from M).1
      rw [q_M_image, bI_of (lie0 q), if_pos rfl, if_pos (sm_k85 S)]
    · have S := (show CI h k im u tp tl sc kd from C).1
      rw [q_F_image]
      rcases q with q | ⟨q1, q2, q3⟩
      · rw [if_pos (of_eq_true q), if_pos (sf_k4 S)]
      · replace q3 : (a < nI 2) = False := q3
        rw [if_neg (by rw [q1]; exact fun z => z), if_neg (by rw [q3]; exact fun z => z), if_pos (sf_k4 S)]
