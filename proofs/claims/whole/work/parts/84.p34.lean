/-! DAYS, DONE -/
theorem F_draw {F : Nat × Nat} {h : jH} {la : Nat} (hl : la < 2000000) : m_F_nextDraw F (iL la) h = some (some (.long (iL (drN la : Nat))), h) := by
  rw [q_F_nextDraw, dr_c hl]
theorem F_draw_b {F : Nat × Nat} {h : jH} {la : Nat} (hl : la < 2000000) (ff : Int64 → jH → Option jO) : jbJ (m_F_nextDraw F (iL la) h) ff = ff ((iL (drN la : Nat))) (h) := bJ_of (F_draw (F := F) (h := h) (la := la) (hl := hl)) ff
theorem F_days_65 {F : Nat × Nat} (hF : FF F) {n m : Nat} (hn : n ≤ 60) (hm : 0 < m) (hm4 : m ≤ 4) : ∀ d t f h (k : Nat → Nat) (la all : Nat), t + d = n → d < f → ShF h → CT0 h → j_I h 5 2 = nI m → LQ h 17 k → WK k → k 177 = m → la < 2000000 → ∃ h', m_F_days_65 F f 4 (nI n) (iL la) (nI all) (nI t) h = m_F_accept F 4 (nI (dyL d (k, la, all)).2.2) h' ∧ jX dPp jN h h' ∧ LQ h' 17 (dyL d (k, la, all)).1
  | 0, t, f + 1, h, k, la, all, e, _, S, T, N, L, W, km', hl => by
    refine ⟨h, ?_, jX.rf, L⟩
    rw [q_F_days_65, if_neg (by rw [ft_lt (by omega) (by omega)]; omega), if_pos (sf_k4 S), bI_eta (C_accept S _), C_accept S]
    rfl
  | d + 1, t, f + 1, h, k, la, all, e, hf, S, T, N, L, W, km', hl => by
    have hF1 := hF.1
    have bn := W.min
    have t0 : j_I h 27 0 = nI (k 104) := L.2.1.2.2.2.2.2.2.1
    have t3 := T.2.1.1
    have w2 : (j_k h 27 = 0 ∨ j_k h 27 = 6) ∧ j_in h 27 (nI 0) := ⟨Or.inl (sf_k27 S), by rw [ft_in (by omega), sf_n27 S]; omega⟩
    have w3 : (j_k h 0 = 0 ∨ j_k h 0 = 6) ∧ j_in h 0 (nI 0) := ⟨Or.inr T.1.1, by rw [ft_in (by omega), T.1.2.1]; omega⟩
    by_cases c : k 104 < 999
    · have z : dyL (d + 1) (k, la, all) = dyL d (dyK k (drN la % k 177) (drN (drN la) % 4 + 1), drN (drN la), all + (dyA k (drN la % k 177) (drN (drN la) % 4 + 1)).2) := by
        show (if k 104 < 999 then _ else _) = _
        rw [if_pos c]
      rw [z]
      have b1 := drN_lt la
      have b2 := drN_lt (drN la)
      have hw : drN la % m < m := Nat.mod_lt _ hm
      have hwk : drN la % k 177 < k 177 := by rw [km']; exact hw
      have hw4 : drN la % k 177 < 4 := by rw [km']; omega
      have hy : drN (drN la) % 4 < 4 := Nat.mod_lt _ (by omega)
      obtain ⟨h1, e1, x1, L1⟩ := F_stepP (F := F) hF S L W (w := drN la % k 177) (y := drN (drN la) % 4 + 1) hwk (by omega) (by omega)
      have S1 := S.fr x1 (fun _ _ z => z)
      have W1 := dyA_W W (w := drN la % k 177) (y := drN (drN la) % 4 + 1) hw4
      have o1 : ∀ i, 104 ≤ i → (dyA k (drN la % k 177) (drN (drN la) % 4 + 1)).1 i = k i := fun i hi => dyA_o hw4 hi
      obtain ⟨h2, e2, x2, I2⟩ := F_joinP_2 (F := F) hF S1 L1 W1 (w := drN la % k 177) (by rw [o1 177 (by omega)]; exact hwk) (k 177) 0 F.1 (by rw [o1 177 (by omega)]; omega) (by omega) rfl
      rw [o1 177 (by omega)] at I2
      have S2 := S1.fr x2 (fun _ _ z => z)
      have mo : ∀ i, 104 ≤ i → mtK (dyA k (drN la % k 177) (drN (drN la) % 4 + 1)).1 (drN la % k 177) (mtS (dyA k (drN la % k 177) (drN (drN la) % 4 + 1)).1 (drN la % k 177) (k 177)) i = k i := fun i hi => by rw [mtK_o hw4 (mt4 (by omega)) hi]; exact o1 i hi
      have i104 : j_I h2 27 0 = nI (k 104) := by
        have := I2.2.2.2.2.2.2.1
        rw [mo 104 (by omega)] at this
        exact this
      have x3 : jX dPp jN h2 (j_sI h2 27 0 (nI (k 104 + 1))) := jX.rf.sI (by unfold dPp; omega)
      have I3 := I2.min (x := k 104 + 1) (by rw [mo 177 (by omega)]; omega) (by rw [mo 178 (by omega)]; exact W.glm)
      have L3 : LQ (j_sI h2 27 0 (nI (k 104 + 1))) 17 (dyK k (drN la % k 177) (drN (drN la) % 4 + 1)) := (L1.k (x2.t x3) (fun a i q z => by unfold dPp at z; omega) I3 (by
        show dyK k (drN la % k 177) (drN (drN la) % 4 + 1) 179 = _
        rw [dyK_o W hw4 (by omega), o1 179 (by omega)]) (fun i hi => by
        show dyK k (drN la % k 177) (drN (drN la) % 4 + 1) i = _
        rw [dyK_o W hw4 (by omega), o1 i (by omega)]))
      have xa := (x1.t x2).t x3
      have S3 := S.fr xa (fun _ _ z => z)
      obtain ⟨h4, e4, x4, L4⟩ := F_days_65 (F := F) hF hn hm hm4 d (t + 1) f (j_sI h2 27 0 (nI (k 104 + 1))) (dyK k (drN la % k 177) (drN (drN la) % 4 + 1)) (drN (drN la)) (all + (dyA k (drN la % k 177) (drN (drN la) % 4 + 1)).2) (by omega) (by omega) S3 (T.fr xa (fun a i q z => by unfold dPp at z; omega)) (by rw [xa.I (by unfold dPp; omega)]; exact N) L3 (dyK_W W hw4 c) (by rw [dyK_o W hw4 (by omega)]; exact km') (by omega)
      refine ⟨h4, ?_, xa.t x4, L4⟩
      have nm : (nI m).toInt64 = iL (m : Nat) := nI_L (by omega)
      have nz : ¬ (nI m).toInt64 = 0 := by
        rw [nm, iL_0, iL_eq (by omega) (by omega) (by omega) (by omega)]; omega
      have w21 : (iL (drN la : Nat) - iL (drN la : Nat) / (nI m).toInt64 * (nI m).toInt64).toInt32 = nI (drN la % k 177) := by
        rw [nm, iL_md (by omega) (by omega), iL_I, iI_n, km']
      have w24 : (iL (drN (drN la) : Nat) - iL (drN (drN la) : Nat) / (4 : Int64) * (4 : Int64)).toInt32 + nI 1 = nI (drN (drN la) % 4 + 1) := by
        have e4 : (4 : Int64) = iL ((4 : Nat) : Int) := iL_c4
        rw [e4, iL_md (by omega) (by omega), iL_I, iI_n, ft_add]
      have jp : m_F_joinOnPaper F 4 (nI (drN la % k 177)) h1 = some (none, h2) := e2
      rw [← e4, q_F_days_65, if_pos (by rw [ft_lt (by omega) (by omega)]; omega), if_pos (sf_k4 S), sf_v4_1 S (sR_rfl _ _ rfl), if_pos (sf_k17 S), sf_v17_11 S (sR_rfl _ _ rfl), if_pos w2, if_pos w3, if_pos (show j_I h 27 (nI 0).toNatClampNeg < j_I h 0 (nI 0).toNatClampNeg by rw [ft_cl (by omega), t0, t3, ft_lt (by omega) (by omega)]; exact c), bJ_of (F_draw hl), if_pos (sf_k4 S), sf_v4_0 S (sR_rfl _ _ rfl), if_pos (sf_k5 S), if_neg (show ¬ (j_I h 5 2).toInt64 = 0 by rw [N]; exact nz), N, w21]
      show jbJ (m_F_nextDraw F (iL (drN la : Nat)) h) _ = _
      rw [bJ_of (F_draw (by omega)), w24]
      show (if j_k h 4 = 10 then jbI (m_F_stepOnPaper F 4 (nI (drN la % k 177)) (nI (drN (drN la) % 4 + 1)) h) _ else none) = _
      rw [if_pos (sf_k4 S), bI_of e1, ft_add]
      show (if j_k h1 4 = 10 then jbV (m_F_joinOnPaper F 4 (nI (drN la % k 177)) h1) _ else none) = _
      rw [if_pos (sf_k4 S1), bV_of jp]
      simp (disch := first | exact sR_rfl _ _ rfl | omega) only [ft_lit, ft_m1, ft_m2, ft_m3, ft_m5, ft_m6, ft_cl, ft_lt, ft_le, ft_eq, ft_mlt, ft_ltm, ft_mltm, ft_meq, ft_eqm, ft_meqm, ft_add, ft_mul, ft_sub, ft_nm, ft_m1p, ft_and, ft_or, ft_31, ft_shl, ft_shr, ft_bz, ft_z0, ft_z1, ft_z01, ft_bb, ft_zt, ft_zf, ft_or0, ft_rv, ft_rvr, ft_rf, ft_rfn, ft_bI, ft_bJ, ft_bV, ft_bR, ft_bRn, ft_isr, ft_isn, ft_ifn, ft_ifr, ft_ov, ft_ovn, ft_in, k_sI, n_sI, R_sI, J_sI, c_sI, z_sI, k_sJ, n_sJ, R_sJ, I_sJ, c_sJ, z_sJ, k_sR, n_sR, I_sR, J_sR, c_sR, z_sR, k_wI, n_wI, R_wI, J_wI, I_wIe, k_wJ, n_wJ, R_wJ, I_wJ, J_wJe, I_wIn, J_wJn, I_sIe, J_sJe, R_sRe, I_sIn, I_sIk, J_sJn, J_sJk, R_sRn, R_sRk, eq_self, if_true, if_false, ↓reduceIte, cond_true, cond_false, ↓cond_eq_ite, and_true, true_and, and_false, false_and, or_true, true_or, or_false, false_or, not_true_eq_false, not_false_eq_true, ft_ltT, ft_ltF, ft_eqT, ft_eqF, Bool.false_eq_true, Bool.true_eq_false, Bool.not_true, Bool.not_false, Bool.and_true, Bool.true_and, Bool.and_false, Bool.false_and, decide_true, decide_false, Nat.reduceAdd, Nat.reduceMul, Nat.reduceSub, Nat.reduceEqDiff, Nat.reduceLT, Nat.zero_add, Nat.add_zero, Nat.reduceDiv, Nat.reduceMod, sf_k4 S2, sf_R4_0 S2, ↓sf_v4_0 S2, sf_R4_1 S2, ↓sf_v4_1 S2, sf_R4_2 S2, ↓sf_v4_2 S2, sf_R4_3 S2, ↓sf_v4_3 S2, sf_R4_4 S2, ↓sf_v4_4 S2, sf_R4_5 S2, ↓sf_v4_5 S2, sf_R4_6 S2, ↓sf_v4_6 S2, sf_R4_7 S2, ↓sf_v4_7 S2, sf_R4_8 S2, ↓sf_v4_8 S2, sf_R4_9 S2, ↓sf_v4_9 S2, sf_R4_10 S2, ↓sf_v4_10 S2, sf_R4_11 S2, ↓sf_v4_11 S2, sf_R4_12 S2, ↓sf_v4_12 S2, sf_k5 S2, sf_R5_0 S2, ↓sf_v5_0 S2, sf_R5_1 S2, ↓sf_v5_1 S2, sf_R5_3 S2, ↓sf_v5_3 S2, sf_R5_4 S2, ↓sf_v5_4 S2, sf_R5_5 S2, ↓sf_v5_5 S2, sf_R5_6 S2, ↓sf_v5_6 S2, sf_R5_7 S2, ↓sf_v5_7 S2, sf_R5_9 S2, ↓sf_v5_9 S2, sf_R5_10 S2, ↓sf_v5_10 S2, sf_R5_11 S2, ↓sf_v5_11 S2, sf_R5_12 S2, ↓sf_v5_12 S2, sf_k17 S2, sf_R17_0 S2, ↓sf_v17_0 S2, sf_R17_1 S2, ↓sf_v17_1 S2, sf_R17_3 S2, ↓sf_v17_3 S2, sf_R17_4 S2, ↓sf_v17_4 S2, sf_R17_5 S2, ↓sf_v17_5 S2, sf_R17_6 S2, ↓sf_v17_6 S2, sf_R17_7 S2, ↓sf_v17_7 S2, sf_R17_9 S2, ↓sf_v17_9 S2, sf_R17_10 S2, ↓sf_v17_10 S2, sf_R17_11 S2, ↓sf_v17_11 S2, sf_R17_12 S2, ↓sf_v17_12 S2, sf_k29 S2, sf_R29_0 S2, ↓sf_v29_0 S2, sf_R29_1 S2, ↓sf_v29_1 S2, sf_R29_3 S2, ↓sf_v29_3 S2, sf_R29_4 S2, ↓sf_v29_4 S2, sf_R29_5 S2, ↓sf_v29_5 S2, sf_R29_6 S2, ↓sf_v29_6 S2, sf_R29_7 S2, ↓sf_v29_7 S2, sf_R29_9 S2, ↓sf_v29_9 S2, sf_R29_10 S2, ↓sf_v29_10 S2, sf_R29_11 S2, ↓sf_v29_11 S2, sf_R29_12 S2, ↓sf_v29_12 S2, sf_k41 S2, sf_n41 S2, sf_k42 S2, sf_R42_0 S2, ↓sf_v42_0 S2, sf_R42_1 S2, ↓sf_v42_1 S2, sf_R42_2 S2, ↓sf_v42_2 S2, sf_R42_3 S2, ↓sf_v42_3 S2, sf_R42_4 S2, ↓sf_v42_4 S2, sf_R42_5 S2, ↓sf_v42_5 S2, sf_R42_6 S2, ↓sf_v42_6 S2, sf_R42_7 S2, ↓sf_v42_7 S2, sf_k51 S2, sf_R51_0 S2, ↓sf_v51_0 S2, sf_R51_1 S2, ↓sf_v51_1 S2, sf_R51_2 S2, ↓sf_v51_2 S2, sf_R51_3 S2, ↓sf_v51_3 S2, sf_R51_4 S2, ↓sf_v51_4 S2, sf_R51_5 S2, ↓sf_v51_5 S2, sf_R51_6 S2, ↓sf_v51_6 S2, sf_R51_7 S2, ↓sf_v51_7 S2, sf_k60 S2, sf_R60_0 S2, ↓sf_v60_0 S2, sf_R60_3 S2, ↓sf_v60_3 S2, sf_R60_4 S2, ↓sf_v60_4 S2, sf_R60_5 S2, ↓sf_v60_5 S2, sf_R60_6 S2, ↓sf_v60_6 S2, sf_k72 S2, sf_R72_0 S2, ↓sf_v72_0 S2, sf_R72_1 S2, ↓sf_v72_1 S2, sf_k75 S2, sf_R75_0 S2, ↓sf_v75_0 S2, sf_R75_1 S2, ↓sf_v75_1 S2, sf_R75_2 S2, ↓sf_v75_2 S2, sf_R75_3 S2, ↓sf_v75_3 S2, sf_R75_4 S2, ↓sf_v75_4 S2, sf_k81 S2, sf_n81 S2, sf_k82 S2, sf_n82 S2, sf_k83 S2, sf_n83 S2, sf_k84 S2, sf_n84 S2, sf_k6 S2, sf_n6 S2, sf_k7 S2, sf_n7 S2, sf_k8 S2, sf_n8 S2, sf_k9 S2, sf_n9 S2, sf_k10 S2, sf_n10 S2, sf_k11 S2, sf_n11 S2, sf_k12 S2, sf_n12 S2, sf_k13 S2, sf_n13 S2, sf_k14 S2, sf_n14 S2, sf_k15 S2, sf_n15 S2, sf_k16 S2, sf_n16 S2, sf_k18 S2, sf_n18 S2, sf_k19 S2, sf_n19 S2, sf_k20 S2, sf_n20 S2, sf_k21 S2, sf_n21 S2, sf_k22 S2, sf_n22 S2, sf_k23 S2, sf_n23 S2, sf_k24 S2, sf_n24 S2, sf_k25 S2, sf_n25 S2, sf_k26 S2, sf_n26 S2, sf_k27 S2, sf_n27 S2, sf_k28 S2, sf_n28 S2, sf_k30 S2, sf_n30 S2, sf_k31 S2, sf_n31 S2, sf_k32 S2, sf_n32 S2, sf_k33 S2, sf_n33 S2, sf_k34 S2, sf_n34 S2, sf_k35 S2, sf_n35 S2, sf_k36 S2, sf_n36 S2, sf_k37 S2, sf_n37 S2, sf_k38 S2, sf_n38 S2, sf_k39 S2, sf_n39 S2, sf_k40 S2, sf_n40 S2, sf_k43 S2, sf_n43 S2, sf_k44 S2, sf_n44 S2, sf_k45 S2, sf_n45 S2, sf_k46 S2, sf_n46 S2, sf_k47 S2, sf_n47 S2, sf_k48 S2, sf_n48 S2, sf_k49 S2, sf_n49 S2, sf_k50 S2, sf_n50 S2, sf_k52 S2, sf_n52 S2, sf_k53 S2, sf_n53 S2, sf_k54 S2, sf_n54 S2, sf_k55 S2, sf_n55 S2, sf_k56 S2, sf_n56 S2, sf_k57 S2, sf_n57 S2, sf_k58 S2, sf_n58 S2, sf_k59 S2, sf_n59 S2, sf_k61 S2, sf_n61 S2, sf_k62 S2, sf_R62_0 S2, ↓sf_v62_0 S2, sf_R62_1 S2, ↓sf_v62_1 S2, sf_R62_2 S2, ↓sf_v62_2 S2, sf_R62_3 S2, ↓sf_v62_3 S2, sf_R62_4 S2, ↓sf_v62_4 S2, sf_R62_5 S2, ↓sf_v62_5 S2, sf_k69 S2, sf_n69 S2, sf_k70 S2, sf_n70 S2, sf_k71 S2, sf_n71 S2, sf_k73 S2, sf_n73 S2, sf_k74 S2, sf_n74 S2, sf_k76 S2, sf_n76 S2, sf_k77 S2, sf_n77 S2, sf_k78 S2, sf_n78 S2, sf_k79 S2, sf_n79 S2, sf_k80 S2, sf_n80 S2, sf_k63 S2, sf_n63 S2, sf_k64 S2, sf_n64 S2, sf_k65 S2, sf_n65 S2, sf_k66 S2, sf_n66 S2, sf_k67 S2, sf_n67 S2, sf_k68 S2, sf_n68 S2, i104]
    · have z : dyL (d + 1) (k, la, all) = (k, la, all) := by
        show (if k 104 < 999 then _ else _) = _
        rw [if_neg c]
      rw [z]
      refine ⟨h, ?_, jX.rf, L⟩
      rw [q_F_days_65, if_pos (by rw [ft_lt (by omega) (by omega)]; omega), if_pos (sf_k4 S), sf_v4_1 S (sR_rfl _ _ rfl), if_pos (sf_k17 S), sf_v17_11 S (sR_rfl _ _ rfl), if_pos w2, if_pos w3, if_neg (show ¬ j_I h 27 (nI 0).toNatClampNeg < j_I h 0 (nI 0).toNatClampNeg by rw [ft_cl (by omega), t0, t3, ft_lt (by omega) (by omega)]; exact c), if_pos (sf_k4 S), bI_eta (C_accept S _), C_accept S]
theorem K_days {F : Nat × Nat} (hF : FF F) {s : St} (w : WJ s) (a b : Int32) : Alk (m_M_days F 85 a b) (m_F_days F 4 a b) s := by
  obtain ⟨k, im, u, tp, tl, sc, kd⟩ := s
  have w' : WS k im u := w
  have W := w'.1
  have bm := W.many
  have hF1 := hF.1
  rcases rngQ a (lo := 0) (hi := 1000000) (by omega) (by omega) with ⟨sd, h1, h2, rfl⟩ | q
  · rcases rngQ b (lo := 1) (hi := 60) (by omega) (by omega) with ⟨n, h3, h4, rfl⟩ | q
    · by_cases c0 : k 177 = 0
      · refine ⟨(mI 2), (k, im, u, tp, tl, rfC sc 2, kd), w, Mst.eta (m2 := m_M_refuses F 85 (mI 2)) (fun h M => ?_) (M_ref (by omega)), Cst.eta (m2 := m_F_refuse F 4 (mI 2)) (fun h C => ?_) (C_ref (by omega))⟩
        · have M' : MI h k im u tp tl sc kd := M
          have S := M'.1
          have bmn := M_many (F := F) S M'.2.2.2.1
          rw [c0] at bmn
          rw [q_M_days, bI_of (lie1 h1 h2 (by omega)), if_neg (by decide), bI_of (lie1 h3 h4 (by omega)), if_neg (by decide), if_pos (sm_k85 S), bI_of bmn, if_pos rfl, if_pos (sm_k85 S)]
        · have C' : CI h k im u tp tl sc kd := C
          have S := C'.1
          have i2 : j_I h 5 2 = nI (k 177) := C'.2.2.1.2.1.2.2.1
          rw [c0] at i2
          rw [q_F_days, if_neg (by rw [ft_lt (by omega) (by omega)]; omega), if_neg (by rw [ft_lt (by omega) (by omega)]; omega), if_neg (by rw [ft_lt (by omega) (by omega)]; omega), if_neg (by rw [ft_lt (by omega) (by omega)]; omega), if_pos (sf_k4 S), sf_v4_0 S (sR_rfl _ _ rfl), if_pos (sf_k5 S), i2, if_pos rfl, if_pos (sf_k4 S)]
      · obtain ⟨lo, lW⟩ := dyL_o n (k, sd, 0) W (by show 0 < k 177; omega)
        refine ⟨(nI (dyL n (k, sd, 0)).2.2), (k, im, u, tp, tl, gdC sc, (dyL n (k, sd, 0)).1), w, M_daysOk hF W h2 h3 h4 (by omega), Cst.pre3 (s1 := (k, im, u, tp, tl, sc, (dyL n (k, sd, 0)).1)) (fun h C => ?_) (C_gd (F := F) _)⟩
        have C' : CI h k im u tp tl sc kd := C
        have S := C'.1
        obtain ⟨c1, c2, c3, c4, c5, c6, c7, c8, c9⟩ := id C'
        have i2 : j_I h 5 2 = nI (k 177) := c3.2.1.2.2.1
        obtain ⟨h1', e1, x1, I1, r1⟩ := U_copy (F := F) hF (LA_paper S) c3.1 c3.2.1 W (Or.inr (by omega)) (fun t i q => (c3.2.2.2 i t q).2)
        have S1 := S.fr2 x1 (fun a i z => by unfold eO at z; omega)
        have L1 : LQ h1' 17 k := ⟨LA_paper S1, I1, fun j hj => by
          obtain ⟨t, q1, X⟩ := c3.2.2.1 j hj
          have f := (c3.2.2.2 j t q1).1.1
          have bt := W.told
          exact ⟨t, by rw [r1 j (by omega)]; exact q1, f, X.fr x1 (fun j i hj z => by unfold dO at z; omega) (fun i z => by unfold eO at z; omega)⟩⟩
        have T1 := c9.fr x1 (fun a i q z => by unfold dO at z; omega)
        have N1 : j_I h1' 5 2 = nI (k 177) := by rw [x1.I (fun z => by unfold dO at z; omega)]; exact i2
        obtain ⟨h2', e2, x2, L2⟩ := F_days_65 (F := F) hF h4 (m := k 177) (by omega) bm n 0 F.1 h1' k sd 0 (by omega) (by omega) S1 T1 N1 L1 W rfl (by omega)
        have xx : jX (fun a i => (17 ≤ a ∧ a ≤ 27) ∨ a = 73 ∨ a = 74) (eO 17) h h2' := (x1.up (fun a i d => by unfold dO at d; omega) (fun _ _ z => z)).t (x2.up (fun a i d => d) (fun _ _ z => nomatch (show False from z)))
        have C2 : CI h2' k im u tp tl sc (dyL n (k, sd, 0)).1 := by
          refine ⟨S.fr2 xx (fun a i z => by unfold eO at z; omega), by rw [xx.2.1]; exact c2, c3.fr xx (fun a i q z => by omega) (fun a i q z => by unfold eO at z; omega), c4.fr xx (fun a i q z => by omega) (fun a i q z => by unfold eO at z; omega), c5.fr xx (fun a i q1 q2 z => by omega), c6.fr xx (fun z => by omega) (fun i z => by omega), ?_, ⟨L2.2.1.2.2.1, by rw [lo 177 (by omega)]; exact bm, fun v hv => ⟨(L2.2.1.2.2.2.1 v hv).1, (L2.2.1.2.2.2.1 v hv).2.2.2.1⟩⟩, c9.fr xx (fun a i q z => by omega)⟩
          have nn : ∀ a i, (a = 4 ∨ a = 84 ∨ a = 60) → j_I h2' a i = j_I h a i := fun a i q => xx.I (fun z => by omega)
          unfold CS at c7 ⊢
          simp (disch := omega) only [nn]
          exact c7
        refine ⟨h2', ?_, C2, xx.up (fun a i d => by omega) (fun a i d => by unfold eO at d; omega)⟩
        have sl : (nI sd).toInt64 = iL (sd : Nat) := nI_L (by omega)
        rw [← e2, q_F_days, if_neg (by rw [ft_lt (by omega) (by omega)]; omega), if_neg (by rw [ft_lt (by omega) (by omega)]; omega), if_neg (by rw [ft_lt (by omega) (by omega)]; omega), if_neg (by rw [ft_lt (by omega) (by omega)]; omega), if_pos (sf_k4 S), sf_v4_0 S (sR_rfl _ _ rfl), if_pos (sf_k5 S), if_neg (show ¬ j_I h 5 2 = nI 0 by rw [i2, ft_eq (by omega) (by omega)]; exact c0), if_pos (sf_k4 S), if_pos (sf_k4 S), sf_v4_1 S (sR_rfl _ _ rfl), sf_v4_0 S (sR_rfl _ _ rfl), if_pos (sf_k17 S), bV_of e1, sl]
    · refine ⟨(mI 0), (k, im, u, tp, tl, rfC sc 0, kd), w, Mst.eta (m2 := m_M_refuses F 85 (mI 0)) (fun h M => ?_) (M_ref (by omega)), Cst.eta (m2 := m_F_refuse F 4 (mI 0)) (fun h C => ?_) (C_ref (by omega))⟩
      · have S := (show MI h k im u tp tl sc kd from M).1
        rw [q_M_days, bI_of (lie1 h1 h2 (by omega)), if_neg (by decide), bI_of (lie0 q), if_pos rfl, if_pos (sm_k85 S)]
      · have S := (show CI h k im u tp tl sc kd from C).1
        rw [q_F_days, if_neg (by rw [ft_lt (by omega) (by omega)]; omega), if_neg (by rw [ft_lt (by omega) (by omega)]; omega)]
        rcases q with q | ⟨q1, q2, q3⟩
        · rw [if_pos (of_eq_true q), if_pos (sf_k4 S)]
        · rw [if_neg (by rw [q1]; exact fun z => z), if_pos (of_eq_true q2), if_pos (sf_k4 S)]
  · refine ⟨(mI 0), (k, im, u, tp, tl, rfC sc 0, kd), w, Mst.eta (m2 := m_M_refuses F 85 (mI 0)) (fun h M => ?_) (M_ref (by omega)), Cst.eta (m2 := m_F_refuse F 4 (mI 0)) (fun h C => ?_) (C_ref (by omega))⟩
    · have S := (show MI h k im u tp tl sc kd from M).1
      rw [q_M_days, bI_of (lie0 q), if_pos rfl, if_pos (sm_k85 S)]
    · have S := (show CI h k im u tp tl sc kd from C).1
      rw [q_F_days]
      rcases q with q | ⟨q1, q2, q3⟩
      · rw [if_pos (of_eq_true q), if_pos (sf_k4 S)]
      · rw [if_neg (by rw [q1]; exact fun z => z), if_pos (of_eq_true q2), if_pos (sf_k4 S)]
