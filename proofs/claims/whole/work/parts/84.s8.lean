/-! ORDERS: WHAT A DEED TAKES -/
def Rfs (m c : jH → Option jO) (s : St) : Prop := ∃ q, q < 3 ∧ Mst1 m s (.int (mI q)) s ∧ Cst1 c s (.int (mI q)) s
theorem bd_n {n : Nat} (hn : n < 1000) : ¬ bd (nI n) := fun b => by
  rcases b with b | b
  · rw [ft_lt (by omega) (by omega)] at b; omega
  · rw [ft_lt (by omega) (by omega)] at b; omega
theorem Rf_step {F : Nat × Nat} {s : St} (w : WJ s) {a b : Int32} (hb : bd a ∨ bd b) : Rfs (m_M_stepsKept F 85 a b) (m_F_tryStep F 4 a b) s := by
  obtain ⟨k, im, u, tp, tl, sc, kd⟩ := s
  have w' : WS k im u := w
  have W := w'.1
  rcases wayQ b with ⟨y, hy1, hy2, rfl⟩ | q
  · obtain ⟨q1, q2⟩ := bd_wk (F := F) W (hb.resolve_right (bd_n (by omega)))
    refine ⟨1, by omega, Mst1.id (fun h M => ?_), Cst1.id (fun h C => ?_)⟩
    · have M' : MI h k im u tp tl sc kd := M
      have S := M'.1
      rw [q_M_stepsKept, bI_of (way1 hy1 hy2).1, if_neg (by decide), if_pos (sm_k85 S), bI_of (q1 h S M'.2.2.2.1), if_pos rfl]
    · have C' : CI h k im u tp tl sc kd := C
      have S := C'.1
      have L := C'.2.2.1
      have b2 := bI_of (q2 h 5 L.1 L.2.1)
      rw [q_F_tryStep, bI_of (way1 hy1 hy2).2, if_neg (by decide)]
      simp (disch := first | exact sR_rfl _ _ rfl | omega) only [ft_lit, ft_m1, ft_m2, ft_m3, ft_m5, ft_m6, ft_cl, ft_lt, ft_le, ft_eq, ft_mlt, ft_ltm, ft_mltm, ft_meq, ft_eqm, ft_meqm, ft_add, ft_mul, ft_sub, ft_nm, ft_m1p, ft_and, ft_or, ft_31, ft_shl, ft_shr, ft_bz, ft_z0, ft_z1, ft_z01, ft_bb, ft_zt, ft_zf, ft_or0, ft_rv, ft_rvr, ft_rf, ft_rfn, ft_bI, ft_bJ, ft_bV, ft_bR, ft_bRn, ft_isr, ft_isn, ft_ifn, ft_ifr, ft_ov, ft_ovn, ft_in, k_sI, n_sI, R_sI, J_sI, c_sI, z_sI, k_sJ, n_sJ, R_sJ, I_sJ, c_sJ, z_sJ, k_sR, n_sR, I_sR, J_sR, c_sR, z_sR, k_wI, n_wI, R_wI, J_wI, I_wIe, k_wJ, n_wJ, R_wJ, I_wJ, J_wJe, I_wIn, J_wJn, I_sIe, J_sJe, R_sRe, I_sIn, I_sIk, J_sJn, J_sJk, R_sRn, R_sRk, eq_self, if_true, if_false, ↓reduceIte, cond_true, cond_false, ↓cond_eq_ite, and_true, true_and, and_false, false_and, or_true, true_or, or_false, false_or, not_true_eq_false, not_false_eq_true, ft_ltT, ft_ltF, ft_eqT, ft_eqF, Bool.false_eq_true, Bool.true_eq_false, Bool.not_true, Bool.not_false, Bool.and_true, Bool.true_and, Bool.and_false, Bool.false_and, decide_true, decide_false, Nat.reduceAdd, Nat.reduceMul, Nat.reduceSub, Nat.reduceEqDiff, Nat.reduceLT, Nat.zero_add, Nat.add_zero, Nat.reduceDiv, Nat.reduceMod, sf_k4 S, sf_R4_0 S, ↓sf_v4_0 S, sf_R4_1 S, ↓sf_v4_1 S, sf_R4_2 S, ↓sf_v4_2 S, sf_R4_3 S, ↓sf_v4_3 S, sf_R4_4 S, ↓sf_v4_4 S, sf_R4_5 S, ↓sf_v4_5 S, sf_R4_6 S, ↓sf_v4_6 S, sf_R4_7 S, ↓sf_v4_7 S, sf_R4_8 S, ↓sf_v4_8 S, sf_R4_9 S, ↓sf_v4_9 S, sf_R4_10 S, ↓sf_v4_10 S, sf_R4_11 S, ↓sf_v4_11 S, sf_R4_12 S, ↓sf_v4_12 S, sf_k5 S, sf_R5_0 S, ↓sf_v5_0 S, sf_R5_1 S, ↓sf_v5_1 S, sf_R5_3 S, ↓sf_v5_3 S, sf_R5_4 S, ↓sf_v5_4 S, sf_R5_5 S, ↓sf_v5_5 S, sf_R5_6 S, ↓sf_v5_6 S, sf_R5_7 S, ↓sf_v5_7 S, sf_R5_9 S, ↓sf_v5_9 S, sf_R5_10 S, ↓sf_v5_10 S, sf_R5_11 S, ↓sf_v5_11 S, sf_R5_12 S, ↓sf_v5_12 S, sf_k17 S, sf_R17_0 S, ↓sf_v17_0 S, sf_R17_1 S, ↓sf_v17_1 S, sf_R17_3 S, ↓sf_v17_3 S, sf_R17_4 S, ↓sf_v17_4 S, sf_R17_5 S, ↓sf_v17_5 S, sf_R17_6 S, ↓sf_v17_6 S, sf_R17_7 S, ↓sf_v17_7 S, sf_R17_9 S, ↓sf_v17_9 S, sf_R17_10 S, ↓sf_v17_10 S, sf_R17_11 S, ↓sf_v17_11 S, sf_R17_12 S, ↓sf_v17_12 S, sf_k29 S, sf_R29_0 S, ↓sf_v29_0 S, sf_R29_1 S, ↓sf_v29_1 S, sf_R29_3 S, ↓sf_v29_3 S, sf_R29_4 S, ↓sf_v29_4 S, sf_R29_5 S, ↓sf_v29_5 S, sf_R29_6 S, ↓sf_v29_6 S, sf_R29_7 S, ↓sf_v29_7 S, sf_R29_9 S, ↓sf_v29_9 S, sf_R29_10 S, ↓sf_v29_10 S, sf_R29_11 S, ↓sf_v29_11 S, sf_R29_12 S, ↓sf_v29_12 S, sf_k41 S, sf_n41 S, sf_k42 S, sf_R42_0 S, ↓sf_v42_0 S, sf_R42_1 S, ↓sf_v42_1 S, sf_R42_2 S, ↓sf_v42_2 S, sf_R42_3 S, ↓sf_v42_3 S, sf_R42_4 S, ↓sf_v42_4 S, sf_R42_5 S, ↓sf_v42_5 S, sf_R42_6 S, ↓sf_v42_6 S, sf_R42_7 S, ↓sf_v42_7 S, sf_k51 S, sf_R51_0 S, ↓sf_v51_0 S, sf_R51_1 S, ↓sf_v51_1 S, sf_R51_2 S, ↓sf_v51_2 S, sf_R51_3 S, ↓sf_v51_3 S, sf_R51_4 S, ↓sf_v51_4 S, sf_R51_5 S, ↓sf_v51_5 S, sf_R51_6 S, ↓sf_v51_6 S, sf_R51_7 S, ↓sf_v51_7 S, sf_k60 S, sf_R60_0 S, ↓sf_v60_0 S, sf_R60_3 S, ↓sf_v60_3 S, sf_R60_4 S, ↓sf_v60_4 S, sf_R60_5 S, ↓sf_v60_5 S, sf_R60_6 S, ↓sf_v60_6 S, sf_k72 S, sf_R72_0 S, ↓sf_v72_0 S, sf_R72_1 S, ↓sf_v72_1 S, sf_k75 S, sf_R75_0 S, ↓sf_v75_0 S, sf_R75_1 S, ↓sf_v75_1 S, sf_R75_2 S, ↓sf_v75_2 S, sf_R75_3 S, ↓sf_v75_3 S, sf_R75_4 S, ↓sf_v75_4 S, sf_k81 S, sf_n81 S, sf_k82 S, sf_n82 S, sf_k83 S, sf_n83 S, sf_k84 S, sf_n84 S, sf_k6 S, sf_n6 S, sf_k7 S, sf_n7 S, sf_k8 S, sf_n8 S, sf_k9 S, sf_n9 S, sf_k10 S, sf_n10 S, sf_k11 S, sf_n11 S, sf_k12 S, sf_n12 S, sf_k13 S, sf_n13 S, sf_k14 S, sf_n14 S, sf_k15 S, sf_n15 S, sf_k16 S, sf_n16 S, sf_k18 S, sf_n18 S, sf_k19 S, sf_n19 S, sf_k20 S, sf_n20 S, sf_k21 S, sf_n21 S, sf_k22 S, sf_n22 S, sf_k23 S, sf_n23 S, sf_k24 S, sf_n24 S, sf_k25 S, sf_n25 S, sf_k26 S, sf_n26 S, sf_k27 S, sf_n27 S, sf_k28 S, sf_n28 S, sf_k30 S, sf_n30 S, sf_k31 S, sf_n31 S, sf_k32 S, sf_n32 S, sf_k33 S, sf_n33 S, sf_k34 S, sf_n34 S, sf_k35 S, sf_n35 S, sf_k36 S, sf_n36 S, sf_k37 S, sf_n37 S, sf_k38 S, sf_n38 S, sf_k39 S, sf_n39 S, sf_k40 S, sf_n40 S, sf_k43 S, sf_n43 S, sf_k44 S, sf_n44 S, sf_k45 S, sf_n45 S, sf_k46 S, sf_n46 S, sf_k47 S, sf_n47 S, sf_k48 S, sf_n48 S, sf_k49 S, sf_n49 S, sf_k50 S, sf_n50 S, sf_k52 S, sf_n52 S, sf_k53 S, sf_n53 S, sf_k54 S, sf_n54 S, sf_k55 S, sf_n55 S, sf_k56 S, sf_n56 S, sf_k57 S, sf_n57 S, sf_k58 S, sf_n58 S, sf_k59 S, sf_n59 S, sf_k61 S, sf_n61 S, sf_k62 S, sf_R62_0 S, ↓sf_v62_0 S, sf_R62_1 S, ↓sf_v62_1 S, sf_R62_2 S, ↓sf_v62_2 S, sf_R62_3 S, ↓sf_v62_3 S, sf_R62_4 S, ↓sf_v62_4 S, sf_R62_5 S, ↓sf_v62_5 S, sf_k69 S, sf_n69 S, sf_k70 S, sf_n70 S, sf_k71 S, sf_n71 S, sf_k73 S, sf_n73 S, sf_k74 S, sf_n74 S, sf_k76 S, sf_n76 S, sf_k77 S, sf_n77 S, sf_k78 S, sf_n78 S, sf_k79 S, sf_n79 S, sf_k80 S, sf_n80 S, sf_k63 S, sf_n63 S, sf_k64 S, sf_n64 S, sf_k65 S, sf_n65 S, sf_k66 S, sf_n66 S, sf_k67 S, sf_n67 S, sf_k68 S, sf_n68 S, ↓b2]
  · refine ⟨0, by omega, Mst1.id (fun h M => ?_), Cst1.id (fun h C => ?_)⟩
    · rw [q_M_stepsKept, bI_of (q F h).1, if_pos rfl]
    · rw [q_F_tryStep, bI_of (q F h).2, if_pos rfl]
theorem Rf_join {F : Nat × Nat} {s : St} (w : WJ s) {a b : Int32} (hb : bd a ∨ bd b) : Rfs (m_M_joinsKept F 85 a b) (m_F_tryJoin F 4 a b) s := by
  obtain ⟨k, im, u, tp, tl, sc, kd⟩ := s
  have w' : WS k im u := w
  have W := w'.1
  have bm := W.many
  by_cases c0 : a = b
  · refine ⟨0, by omega, Mst1.id (fun h M => ?_), Cst1.id (fun h C => ?_)⟩
    · rw [q_M_joinsKept, if_pos c0]
    · rw [q_F_tryJoin, if_pos c0]
  · rcases wkQ (F := F) W a with ⟨v, hv, rfl⟩ | ⟨q1, q2⟩
    · obtain ⟨q1, q2⟩ := bd_wk (F := F) W (hb.resolve_left (bd_n (by omega)))
      refine ⟨1, by omega, Mst1.id (fun h M => ?_), Cst1.id (fun h C => ?_)⟩
      · have M' : MI h k im u tp tl sc kd := M
        have S := M'.1
        have K := M'.2.2.2.1
        rw [q_M_joinsKept, if_neg c0, if_pos (sm_k85 S), bI_of (M_isW1 S K W hv), if_neg (by decide), if_pos (sm_k85 S), bI_of (q1 h S K), if_pos rfl]
      · have C' : CI h k im u tp tl sc kd := C
        have S := C'.1
        have L := C'.2.2.1
        have b1 := bI_of (U_hasW1 (F := F) L.1 L.2.1 W hv)
        have b2 := bI_of (q2 h 5 L.1 L.2.1)
        rw [q_F_tryJoin, if_neg c0]
        simp (disch := first | exact sR_rfl _ _ rfl | omega) only [ft_lit, ft_m1, ft_m2, ft_m3, ft_m5, ft_m6, ft_cl, ft_lt, ft_le, ft_eq, ft_mlt, ft_ltm, ft_mltm, ft_meq, ft_eqm, ft_meqm, ft_add, ft_mul, ft_sub, ft_nm, ft_m1p, ft_and, ft_or, ft_31, ft_shl, ft_shr, ft_bz, ft_z0, ft_z1, ft_z01, ft_bb, ft_zt, ft_zf, ft_or0, ft_rv, ft_rvr, ft_rf, ft_rfn, ft_bI, ft_bJ, ft_bV, ft_bR, ft_bRn, ft_isr, ft_isn, ft_ifn, ft_ifr, ft_ov, ft_ovn, ft_in, k_sI, n_sI, R_sI, J_sI, c_sI, z_sI, k_sJ, n_sJ, R_sJ, I_sJ, c_sJ, z_sJ, k_sR, n_sR, I_sR, J_sR, c_sR, z_sR, k_wI, n_wI, R_wI, J_wI, I_wIe, k_wJ, n_wJ, R_wJ, I_wJ, J_wJe, I_wIn, J_wJn, I_sIe, J_sJe, R_sRe, I_sIn, I_sIk, J_sJn, J_sJk, R_sRn, R_sRk, eq_self, if_true, if_false, ↓reduceIte, cond_true, cond_false, ↓cond_eq_ite, and_true, true_and, and_false, false_and, or_true, true_or, or_false, false_or, not_true_eq_false, not_false_eq_true, ft_ltT, ft_ltF, ft_eqT, ft_eqF, Bool.false_eq_true, Bool.true_eq_false, Bool.not_true, Bool.not_false, Bool.and_true, Bool.true_and, Bool.and_false, Bool.false_and, decide_true, decide_false, Nat.reduceAdd, Nat.reduceMul, Nat.reduceSub, Nat.reduceEqDiff, Nat.reduceLT, Nat.zero_add, Nat.add_zero, Nat.reduceDiv, Nat.reduceMod, sf_k4 S, sf_R4_0 S, ↓sf_v4_0 S, sf_R4_1 S, ↓sf_v4_1 S, sf_R4_2 S, ↓sf_v4_2 S, sf_R4_3 S, ↓sf_v4_3 S, sf_R4_4 S, ↓sf_v4_4 S, sf_R4_5 S, ↓sf_v4_5 S, sf_R4_6 S, ↓sf_v4_6 S, sf_R4_7 S, ↓sf_v4_7 S, sf_R4_8 S, ↓sf_v4_8 S, sf_R4_9 S, ↓sf_v4_9 S, sf_R4_10 S, ↓sf_v4_10 S, sf_R4_11 S, ↓sf_v4_11 S, sf_R4_12 S, ↓sf_v4_12 S, sf_k5 S, sf_R5_0 S, ↓sf_v5_0 S, sf_R5_1 S, ↓sf_v5_1 S, sf_R5_3 S, ↓sf_v5_3 S, sf_R5_4 S, ↓sf_v5_4 S, sf_R5_5 S, ↓sf_v5_5 S, sf_R5_6 S, ↓sf_v5_6 S, sf_R5_7 S, ↓sf_v5_7 S, sf_R5_9 S, ↓sf_v5_9 S, sf_R5_10 S, ↓sf_v5_10 S, sf_R5_11 S, ↓sf_v5_11 S, sf_R5_12 S, ↓sf_v5_12 S, sf_k17 S, sf_R17_0 S, ↓sf_v17_0 S, sf_R17_1 S, ↓sf_v17_1 S, sf_R17_3 S, ↓sf_v17_3 S, sf_R17_4 S, ↓sf_v17_4 S, sf_R17_5 S, ↓sf_v17_5 S, sf_R17_6 S, ↓sf_v17_6 S, sf_R17_7 S, ↓sf_v17_7 S, sf_R17_9 S, ↓sf_v17_9 S, sf_R17_10 S, ↓sf_v17_10 S, sf_R17_11 S, ↓sf_v17_11 S, sf_R17_12 S, ↓sf_v17_12 S, sf_k29 S, sf_R29_0 S, ↓sf_v29_0 S, sf_R29_1 S, ↓sf_v29_1 S, sf_R29_3 S, ↓sf_v29_3 S, sf_R29_4 S, ↓sf_v29_4 S, sf_R29_5 S, ↓sf_v29_5 S, sf_R29_6 S, ↓sf_v29_6 S, sf_R29_7 S, ↓sf_v29_7 S, sf_R29_9 S, ↓sf_v29_9 S, sf_R29_10 S, ↓sf_v29_10 S, sf_R29_11 S, ↓sf_v29_11 S, sf_R29_12 S, ↓sf_v29_12 S, sf_k41 S, sf_n41 S, sf_k42 S, sf_R42_0 S, ↓sf_v42_0 S, sf_R42_1 S, ↓sf_v42_1 S, sf_R42_2 S, ↓sf_v42_2 S, sf_R42_3 S, ↓sf_v42_3 S, sf_R42_4 S, ↓sf_v42_4 S, sf_R42_5 S, ↓sf_v42_5 S, sf_R42_6 S, ↓sf_v42_6 S, sf_R42_7 S, ↓sf_v42_7 S, sf_k51 S, sf_R51_0 S, ↓sf_v51_0 S, sf_R51_1 S, ↓sf_v51_1 S, sf_R51_2 S, ↓sf_v51_2 S, sf_R51_3 S, ↓sf_v51_3 S, sf_R51_4 S, ↓sf_v51_4 S, sf_R51_5 S, ↓sf_v51_5 S, sf_R51_6 S, ↓sf_v51_6 S, sf_R51_7 S, ↓sf_v51_7 S, sf_k60 S, sf_R60_0 S, ↓sf_v60_0 S, sf_R60_3 S, ↓sf_v60_3 S, sf_R60_4 S, ↓sf_v60_4 S, sf_R60_5 S, ↓sf_v60_5 S, sf_R60_6 S, ↓sf_v60_6 S, sf_k72 S, sf_R72_0 S, ↓sf_v72_0 S, sf_R72_1 S, ↓sf_v72_1 S, sf_k75 S, sf_R75_0 S, ↓sf_v75_0 S, sf_R75_1 S, ↓sf_v75_1 S, sf_R75_2 S, ↓sf_v75_2 S, sf_R75_3 S, ↓sf_v75_3 S, sf_R75_4 S, ↓sf_v75_4 S, sf_k81 S, sf_n81 S, sf_k82 S, sf_n82 S, sf_k83 S, sf_n83 S, sf_k84 S, sf_n84 S, sf_k6 S, sf_n6 S, sf_k7 S, sf_n7 S, sf_k8 S, sf_n8 S, sf_k9 S, sf_n9 S, sf_k10 S, sf_n10 S, sf_k11 S, sf_n11 S, sf_k12 S, sf_n12 S, sf_k13 S, sf_n13 S, sf_k14 S, sf_n14 S, sf_k15 S, sf_n15 S, sf_k16 S, sf_n16 S, sf_k18 S, sf_n18 S, sf_k19 S, sf_n19 S, sf_k20 S, sf_n20 S, sf_k21 S, sf_n21 S, sf_k22 S, sf_n22 S, sf_k23 S, sf_n23 S, sf_k24 S, sf_n24 S, sf_k25 S, sf_n25 S, sf_k26 S, sf_n26 S, sf_k27 S, sf_n27 S, sf_k28 S, sf_n28 S, sf_k30 S, sf_n30 S, sf_k31 S, sf_n31 S, sf_k32 S, sf_n32 S, sf_k33 S, sf_n33 S, sf_k34 S, sf_n34 S, sf_k35 S, sf_n35 S, sf_k36 S, sf_n36 S, sf_k37 S, sf_n37 S, sf_k38 S, sf_n38 S, sf_k39 S, sf_n39 S, sf_k40 S, sf_n40 S, sf_k43 S, sf_n43 S, sf_k44 S, sf_n44 S, sf_k45 S, sf_n45 S, sf_k46 S, sf_n46 S, sf_k47 S, sf_n47 S, sf_k48 S, sf_n48 S, sf_k49 S, sf_n49 S, sf_k50 S, sf_n50 S, sf_k52 S, sf_n52 S, sf_k53 S, sf_n53 S, sf_k54 S, sf_n54 S, sf_k55 S, sf_n55 S, sf_k56 S, sf_n56 S, sf_k57 S, sf_n57 S, sf_k58 S, sf_n58 S, sf_k59 S, sf_n59 S, sf_k61 S, sf_n61 S, sf_k62 S, sf_R62_0 S, ↓sf_v62_0 S, sf_R62_1 S, ↓sf_v62_1 S, sf_R62_2 S, ↓sf_v62_2 S, sf_R62_3 S, ↓sf_v62_3 S, sf_R62_4 S, ↓sf_v62_4 S, sf_R62_5 S, ↓sf_v62_5 S, sf_k69 S, sf_n69 S, sf_k70 S, sf_n70 S, sf_k71 S, sf_n71 S, sf_k73 S, sf_n73 S, sf_k74 S, sf_n74 S, sf_k76 S, sf_n76 S, sf_k77 S, sf_n77 S, sf_k78 S, sf_n78 S, sf_k79 S, sf_n79 S, sf_k80 S, sf_n80 S, sf_k63 S, sf_n63 S, sf_k64 S, sf_n64 S, sf_k65 S, sf_n65 S, sf_k66 S, sf_n66 S, sf_k67 S, sf_n67 S, sf_k68 S, sf_n68 S, ↓b1, ↓b2]
    · refine ⟨1, by omega, Mst1.id (fun h M => ?_), Cst1.id (fun h C => ?_)⟩
      · have M' : MI h k im u tp tl sc kd := M
        have S := M'.1
        rw [q_M_joinsKept, if_neg c0, if_pos (sm_k85 S), bI_of (q1 h S M'.2.2.2.1), if_pos rfl]
      · have C' : CI h k im u tp tl sc kd := C
        have S := C'.1
        have L := C'.2.2.1
        have b2 := bI_of (q2 h 5 L.1 L.2.1)
        rw [q_F_tryJoin, if_neg c0]
        simp (disch := first | exact sR_rfl _ _ rfl | omega) only [ft_lit, ft_m1, ft_m2, ft_m3, ft_m5, ft_m6, ft_cl, ft_lt, ft_le, ft_eq, ft_mlt, ft_ltm, ft_mltm, ft_meq, ft_eqm, ft_meqm, ft_add, ft_mul, ft_sub, ft_nm, ft_m1p, ft_and, ft_or, ft_31, ft_shl, ft_shr, ft_bz, ft_z0, ft_z1, ft_z01, ft_bb, ft_zt, ft_zf, ft_or0, ft_rv, ft_rvr, ft_rf, ft_rfn, ft_bI, ft_bJ, ft_bV, ft_bR, ft_bRn, ft_isr, ft_isn, ft_ifn, ft_ifr, ft_ov, ft_ovn, ft_in, k_sI, n_sI, R_sI, J_sI, c_sI, z_sI, k_sJ, n_sJ, R_sJ, I_sJ, c_sJ, z_sJ, k_sR, n_sR, I_sR, J_sR, c_sR, z_sR, k_wI, n_wI, R_wI, J_wI, I_wIe, k_wJ, n_wJ, R_wJ, I_wJ, J_wJe, I_wIn, J_wJn, I_sIe, J_sJe, R_sRe, I_sIn, I_sIk, J_sJn, J_sJk, R_sRn, R_sRk, eq_self, if_true, if_false, ↓reduceIte, cond_true, cond_false, ↓cond_eq_ite, and_true, true_and, and_false, false_and, or_true, true_or, or_false, false_or, not_true_eq_false, not_false_eq_true, ft_ltT, ft_ltF, ft_eqT, ft_eqF, Bool.false_eq_true, Bool.true_eq_false, Bool.not_true, Bool.not_false, Bool.and_true, Bool.true_and, Bool.and_false, Bool.false_and, decide_true, decide_false, Nat.reduceAdd, Nat.reduceMul, Nat.reduceSub, Nat.reduceEqDiff, Nat.reduceLT, Nat.zero_add, Nat.add_zero, Nat.reduceDiv, Nat.reduceMod, sf_k4 S, sf_R4_0 S, ↓sf_v4_0 S, sf_R4_1 S, ↓sf_v4_1 S, sf_R4_2 S, ↓sf_v4_2 S, sf_R4_3 S, ↓sf_v4_3 S, sf_R4_4 S, ↓sf_v4_4 S, sf_R4_5 S, ↓sf_v4_5 S, sf_R4_6 S, ↓sf_v4_6 S, sf_R4_7 S, ↓sf_v4_7 S, sf_R4_8 S, ↓sf_v4_8 S, sf_R4_9 S, ↓sf_v4_9 S, sf_R4_10 S, ↓sf_v4_10 S, sf_R4_11 S, ↓sf_v4_11 S, sf_R4_12 S, ↓sf_v4_12 S, sf_k5 S, sf_R5_0 S, ↓sf_v5_0 S, sf_R5_1 S, ↓sf_v5_1 S, sf_R5_3 S, ↓sf_v5_3 S, sf_R5_4 S, ↓sf_v5_4 S, sf_R5_5 S, ↓sf_v5_5 S, sf_R5_6 S, ↓sf_v5_6 S, sf_R5_7 S, ↓sf_v5_7 S, sf_R5_9 S, ↓sf_v5_9 S, sf_R5_10 S, ↓sf_v5_10 S, sf_R5_11 S, ↓sf_v5_11 S, sf_R5_12 S, ↓sf_v5_12 S, sf_k17 S, sf_R17_0 S, ↓sf_v17_0 S, sf_R17_1 S, ↓sf_v17_1 S, sf_R17_3 S, ↓sf_v17_3 S, sf_R17_4 S, ↓sf_v17_4 S, sf_R17_5 S, ↓sf_v17_5 S, sf_R17_6 S, ↓sf_v17_6 S, sf_R17_7 S, ↓sf_v17_7 S, sf_R17_9 S, ↓sf_v17_9 S, sf_R17_10 S, ↓sf_v17_10 S, sf_R17_11 S, ↓sf_v17_11 S, sf_R17_12 S, ↓sf_v17_12 S, sf_k29 S, sf_R29_0 S, ↓sf_v29_0 S, sf_R29_1 S, ↓sf_v29_1 S, sf_R29_3 S, ↓sf_v29_3 S, sf_R29_4 S, ↓sf_v29_4 S, sf_R29_5 S, ↓sf_v29_5 S, sf_R29_6 S, ↓sf_v29_6 S, sf_R29_7 S, ↓sf_v29_7 S, sf_R29_9 S, ↓sf_v29_9 S, sf_R29_10 S, ↓sf_v29_10 S, sf_R29_11 S, ↓sf_v29_11 S, sf_R29_12 S, ↓sf_v29_12 S, sf_k41 S, sf_n41 S, sf_k42 S, sf_R42_0 S, ↓sf_v42_0 S, sf_R42_1 S, ↓sf_v42_1 S, sf_R42_2 S, ↓sf_v42_2 S, sf_R42_3 S, ↓sf_v42_3 S, sf_R42_4 S, ↓sf_v42_4 S, sf_R42_5 S, ↓sf_v42_5 S, sf_R42_6 S, ↓sf_v42_6 S, sf_R42_7 S, ↓sf_v42_7 S, sf_k51 S, sf_R51_0 S, ↓sf_v51_0 S, sf_R51_1 S, ↓sf_v51_1 S, sf_R51_2 S, ↓sf_v51_2 S, sf_R51_3 S, ↓sf_v51_3 S, sf_R51_4 S, ↓sf_v51_4 S, sf_R51_5 S, ↓sf_v51_5 S, sf_R51_6 S, ↓sf_v51_6 S, sf_R51_7 S, ↓sf_v51_7 S, sf_k60 S, sf_R60_0 S, ↓sf_v60_0 S, sf_R60_3 S, ↓sf_v60_3 S, sf_R60_4 S, ↓sf_v60_4 S, sf_R60_5 S, ↓sf_v60_5 S, sf_R60_6 S, ↓sf_v60_6 S, sf_k72 S, sf_R72_0 S, ↓sf_v72_0 S, sf_R72_1 S, ↓sf_v72_1 S, sf_k75 S, sf_R75_0 S, ↓sf_v75_0 S, sf_R75_1 S, ↓sf_v75_1 S, sf_R75_2 S, ↓sf_v75_2 S, sf_R75_3 S, ↓sf_v75_3 S, sf_R75_4 S, ↓sf_v75_4 S, sf_k81 S, sf_n81 S, sf_k82 S, sf_n82 S, sf_k83 S, sf_n83 S, sf_k84 S, sf_n84 S, sf_k6 S, sf_n6 S, sf_k7 S, sf_n7 S, sf_k8 S, sf_n8 S, sf_k9 S, sf_n9 S, sf_k10 S, sf_n10 S, sf_k11 S, sf_n11 S, sf_k12 S, sf_n12 S, sf_k13 S, sf_n13 S, sf_k14 S, sf_n14 S, sf_k15 S, sf_n15 S, sf_k16 S, sf_n16 S, sf_k18 S, sf_n18 S, sf_k19 S, sf_n19 S, sf_k20 S, sf_n20 S, sf_k21 S, sf_n21 S, sf_k22 S, sf_n22 S, sf_k23 S, sf_n23 S, sf_k24 S, sf_n24 S, sf_k25 S, sf_n25 S, sf_k26 S, sf_n26 S, sf_k27 S, sf_n27 S, sf_k28 S, sf_n28 S, sf_k30 S, sf_n30 S, sf_k31 S, sf_n31 S, sf_k32 S, sf_n32 S, sf_k33 S, sf_n33 S, sf_k34 S, sf_n34 S, sf_k35 S, sf_n35 S, sf_k36 S, sf_n36 S, sf_k37 S, sf_n37 S, sf_k38 S, sf_n38 S, sf_k39 S, sf_n39 S, sf_k40 S, sf_n40 S, sf_k43 S, sf_n43 S, sf_k44 S, sf_n44 S, sf_k45 S, sf_n45 S, sf_k46 S, sf_n46 S, sf_k47 S, sf_n47 S, sf_k48 S, sf_n48 S, sf_k49 S, sf_n49 S, sf_k50 S, sf_n50 S, sf_k52 S, sf_n52 S, sf_k53 S, sf_n53 S, sf_k54 S, sf_n54 S, sf_k55 S, sf_n55 S, sf_k56 S, sf_n56 S, sf_k57 S, sf_n57 S, sf_k58 S, sf_n58 S, sf_k59 S, sf_n59 S, sf_k61 S, sf_n61 S, sf_k62 S, sf_R62_0 S, ↓sf_v62_0 S, sf_R62_1 S, ↓sf_v62_1 S, sf_R62_2 S, ↓sf_v62_2 S, sf_R62_3 S, ↓sf_v62_3 S, sf_R62_4 S, ↓sf_v62_4 S, sf_R62_5 S, ↓sf_v62_5 S, sf_k69 S, sf_n69 S, sf_k70 S, sf_n70 S, sf_k71 S, sf_n71 S, sf_k73 S, sf_n73 S, sf_k74 S, sf_n74 S, sf_k76 S, sf_n76 S, sf_k77 S, sf_n77 S, sf_k78 S, sf_n78 S, sf_k79 S, sf_n79 S, sf_k80 S, sf_n80 S, sf_k63 S, sf_n63 S, sf_k64 S, sf_n64 S, sf_k65 S, sf_n65 S, sf_k66 S, sf_n66 S, sf_k67 S, sf_n67 S, sf_k68 S, sf_n68 S, ↓b2]
theorem Rf_smear {F : Nat × Nat} {s : St} (w : WJ s) {a b : Int32} (hb : bd a ∨ bd b) : Rfs (m_M_smearsKept F 85 a b) (m_F_trySmear F 4 a b) s := by
  obtain ⟨k, im, u, tp, tl, sc, kd⟩ := s
  have w' : WS k im u := w
  have W := w'.1
  rcases celQ a with ⟨c, hc, rfl⟩ | q
  · obtain ⟨q1, q2⟩ := bd_wk (F := F) W (hb.resolve_left (bd_n (by omega)))
    refine ⟨1, by omega, Mst1.id (fun h M => ?_), Cst1.id (fun h C => ?_)⟩
    · have M' : MI h k im u tp tl sc kd := M
      have S := M'.1
      rw [q_M_smearsKept, bI_of (cel1 hc).1, if_neg (by decide), if_pos (sm_k85 S), bI_of (q1 h S M'.2.2.2.1), if_pos rfl]
    · have C' : CI h k im u tp tl sc kd := C
      have S := C'.1
      have L := C'.2.2.1
      have b2 := bI_of (q2 h 5 L.1 L.2.1)
      rw [q_F_trySmear, bI_of (cel1 hc).2, if_neg (by decide)]
      simp (disch := first | exact sR_rfl _ _ rfl | omega) only [ft_lit, ft_m1, ft_m2, ft_m3, ft_m5, ft_m6, ft_cl, ft_lt, ft_le, ft_eq, ft_mlt, ft_ltm, ft_mltm, ft_meq, ft_eqm, ft_meqm, ft_add, ft_mul, ft_sub, ft_nm, ft_m1p, ft_and, ft_or, ft_31, ft_shl, ft_shr, ft_bz, ft_z0, ft_z1, ft_z01, ft_bb, ft_zt, ft_zf, ft_or0, ft_rv, ft_rvr, ft_rf, ft_rfn, ft_bI, ft_bJ, ft_bV, ft_bR, ft_bRn, ft_isr, ft_isn, ft_ifn, ft_ifr, ft_ov, ft_ovn, ft_in, k_sI, n_sI, R_sI, J_sI, c_sI, z_sI, k_sJ, n_sJ, R_sJ, I_sJ, c_sJ, z_sJ, k_sR, n_sR, I_sR, J_sR, c_sR, z_sR, k_wI, n_wI, R_wI, J_wI, I_wIe, k_wJ, n_wJ, R_wJ, I_wJ, J_wJe, I_wIn, J_wJn, I_sIe, J_sJe, R_sRe, I_sIn, I_sIk, J_sJn, J_sJk, R_sRn, R_sRk, eq_self, if_true, if_false, ↓reduceIte, cond_true, cond_false, ↓cond_eq_ite, and_true, true_and, and_false, false_and, or_true, true_or, or_false, false_or, not_true_eq_false, not_false_eq_true, ft_ltT, ft_ltF, ft_eqT, ft_eqF, Bool.false_eq_true, Bool.true_eq_false, Bool.not_true, Bool.not_false, Bool.and_true, Bool.true_and, Bool.and_false, Bool.false_and, decide_true, decide_false, Nat.reduceAdd, Nat.reduceMul, Nat.reduceSub, Nat.reduceEqDiff, Nat.reduceLT, Nat.zero_add, Nat.add_zero, Nat.reduceDiv, Nat.reduceMod, sf_k4 S, sf_R4_0 S, ↓sf_v4_0 S, sf_R4_1 S, ↓sf_v4_1 S, sf_R4_2 S, ↓sf_v4_2 S, sf_R4_3 S, ↓sf_v4_3 S, sf_R4_4 S, ↓sf_v4_4 S, sf_R4_5 S, ↓sf_v4_5 S, sf_R4_6 S, ↓sf_v4_6 S, sf_R4_7 S, ↓sf_v4_7 S, sf_R4_8 S, ↓sf_v4_8 S, sf_R4_9 S, ↓sf_v4_9 S, sf_R4_10 S, ↓sf_v4_10 S, sf_R4_11 S, ↓sf_v4_11 S, sf_R4_12 S, ↓sf_v4_12 S, sf_k5 S, sf_R5_0 S, ↓sf_v5_0 S, sf_R5_1 S, ↓sf_v5_1 S, sf_R5_3 S, ↓sf_v5_3 S, sf_R5_4 S, ↓sf_v5_4 S, sf_R5_5 S, ↓sf_v5_5 S, sf_R5_6 S, ↓sf_v5_6 S, sf_R5_7 S, ↓sf_v5_7 S, sf_R5_9 S, ↓sf_v5_9 S, sf_R5_10 S, ↓sf_v5_10 S, sf_R5_11 S, ↓sf_v5_11 S, sf_R5_12 S, ↓sf_v5_12 S, sf_k17 S, sf_R17_0 S, ↓sf_v17_0 S, sf_R17_1 S, ↓sf_v17_1 S, sf_R17_3 S, ↓sf_v17_3 S, sf_R17_4 S, ↓sf_v17_4 S, sf_R17_5 S, ↓sf_v17_5 S, sf_R17_6 S, ↓sf_v17_6 S, sf_R17_7 S, ↓sf_v17_7 S, sf_R17_9 S, ↓sf_v17_9 S, sf_R17_10 S, ↓sf_v17_10 S, sf_R17_11 S, ↓sf_v17_11 S, sf_R17_12 S, ↓sf_v17_12 S, sf_k29 S, sf_R29_0 S, ↓sf_v29_0 S, sf_R29_1 S, ↓sf_v29_1 S, sf_R29_3 S, ↓sf_v29_3 S, sf_R29_4 S, ↓sf_v29_4 S, sf_R29_5 S, ↓sf_v29_5 S, sf_R29_6 S, ↓sf_v29_6 S, sf_R29_7 S, ↓sf_v29_7 S, sf_R29_9 S, ↓sf_v29_9 S, sf_R29_10 S, ↓sf_v29_10 S, sf_R29_11 S, ↓sf_v29_11 S, sf_R29_12 S, ↓sf_v29_12 S, sf_k41 S, sf_n41 S, sf_k42 S, sf_R42_0 S, ↓sf_v42_0 S, sf_R42_1 S, ↓sf_v42_1 S, sf_R42_2 S, ↓sf_v42_2 S, sf_R42_3 S, ↓sf_v42_3 S, sf_R42_4 S, ↓sf_v42_4 S, sf_R42_5 S, ↓sf_v42_5 S, sf_R42_6 S, ↓sf_v42_6 S, sf_R42_7 S, ↓sf_v42_7 S, sf_k51 S, sf_R51_0 S, ↓sf_v51_0 S, sf_R51_1 S, ↓sf_v51_1 S, sf_R51_2 S, ↓sf_v51_2 S, sf_R51_3 S, ↓sf_v51_3 S, sf_R51_4 S, ↓sf_v51_4 S, sf_R51_5 S, ↓sf_v51_5 S, sf_R51_6 S, ↓sf_v51_6 S, sf_R51_7 S, ↓sf_v51_7 S, sf_k60 S, sf_R60_0 S, ↓sf_v60_0 S, sf_R60_3 S, ↓sf_v60_3 S, sf_R60_4 S, ↓sf_v60_4 S, sf_R60_5 S, ↓sf_v60_5 S, sf_R60_6 S, ↓sf_v60_6 S, sf_k72 S, sf_R72_0 S, ↓sf_v72_0 S, sf_R72_1 S, ↓sf_v72_1 S, sf_k75 S, sf_R75_0 S, ↓sf_v75_0 S, sf_R75_1 S, ↓sf_v75_1 S, sf_R75_2 S, ↓sf_v75_2 S, sf_R75_3 S, ↓sf_v75_3 S, sf_R75_4 S, ↓sf_v75_4 S, sf_k81 S, sf_n81 S, sf_k82 S, sf_n82 S, sf_k83 S, sf_n83 S, sf_k84 S, sf_n84 S, sf_k6 S, sf_n6 S, sf_k7 S, sf_n7 S, sf_k8 S, sf_n8 S, sf_k9 S, sf_n9 S, sf_k10 S, sf_n10 S, sf_k11 S, sf_n11 S, sf_k12 S, sf_n12 S, sf_k13 S, sf_n13 S, sf_k14 S, sf_n14 S, sf_k15 S, sf_n15 S, sf_k16 S, sf_n16 S, sf_k18 S, sf_n18 S, sf_k19 S, sf_n19 S, sf_k20 S, sf_n20 S, sf_k21 S, sf_n21 S, sf_k22 S, sf_n22 S, sf_k23 S, sf_n23 S, sf_k24 S, sf_n24 S, sf_k25 S, sf_n25 S, sf_k26 S, sf_n26 S, sf_k27 S, sf_n27 S, sf_k28 S, sf_n28 S, sf_k30 S, sf_n30 S, sf_k31 S, sf_n31 S, sf_k32 S, sf_n32 S, sf_k33 S, sf_n33 S, sf_k34 S, sf_n34 S, sf_k35 S, sf_n35 S, sf_k36 S, sf_n36 S, sf_k37 S, sf_n37 S, sf_k38 S, sf_n38 S, sf_k39 S, sf_n39 S, sf_k40 S, sf_n40 S, sf_k43 S, sf_n43 S, sf_k44 S, sf_n44 S, sf_k45 S, sf_n45 S, sf_k46 S, sf_n46 S, sf_k47 S, sf_n47 S, sf_k48 S, sf_n48 S, sf_k49 S, sf_n49 S, sf_k50 S, sf_n50 S, sf_k52 S, sf_n52 S, sf_k53 S, sf_n53 S, sf_k54 S, sf_n54 S, sf_k55 S, sf_n55 S, sf_k56 S, sf_n56 S, sf_k57 S, sf_n57 S, sf_k58 S, sf_n58 S, sf_k59 S, sf_n59 S, sf_k61 S, sf_n61 S, sf_k62 S, sf_R62_0 S, ↓sf_v62_0 S, sf_R62_1 S, ↓sf_v62_1 S, sf_R62_2 S, ↓sf_v62_2 S, sf_R62_3 S, ↓sf_v62_3 S, sf_R62_4 S, ↓sf_v62_4 S, sf_R62_5 S, ↓sf_v62_5 S, sf_k69 S, sf_n69 S, sf_k70 S, sf_n70 S, sf_k71 S, sf_n71 S, sf_k73 S, sf_n73 S, sf_k74 S, sf_n74 S, sf_k76 S, sf_n76 S, sf_k77 S, sf_n77 S, sf_k78 S, sf_n78 S, sf_k79 S, sf_n79 S, sf_k80 S, sf_n80 S, sf_k63 S, sf_n63 S, sf_k64 S, sf_n64 S, sf_k65 S, sf_n65 S, sf_k66 S, sf_n66 S, sf_k67 S, sf_n67 S, sf_k68 S, sf_n68 S, ↓b2]
  · refine ⟨0, by omega, Mst1.id (fun h M => ?_), Cst1.id (fun h C => ?_)⟩
    · rw [q_M_smearsKept, bI_of (q F h).1, if_pos rfl]
    · rw [q_F_trySmear, bI_of (q F h).2, if_pos rfl]
/-! numbers of orders -/
def sml (x : Int) : Int32 := if x < 0 then mI 0 else if 1000000 < x then mI 0 else iI x
theorem iI_neg {x : Int} (h1 : -1000000000 ≤ x) (h2 : x < 0) : ∃ n, n < 2147483648 ∧ iI x = mI n := by
  refine ⟨(-x - 1).toNat, by omega, ?_⟩
  have e : iI x = iI ((0 : Nat) - ((-x).toNat : Int)) := by
    congr 1
    omega
  rw [e, ← iI_sub]
  unfold mI
  have e2 : (-x - 1).toNat + 1 = (-x).toNat := by omega
  rw [e2]
  show (nI 0) - nI _ = _
  rw [show nI 0 = (0 : Int32) from rfl, Int32.zero_sub]
theorem bd_i {x : Int} (h1 : -1000000000 ≤ x ∧ x ≤ 1000000000) (h2 : x < 0 ∨ 1000000 < x) : bd (iI x) ∧ bd (sml x) := by
  have b0 : bd (mI 0) := Or.inl (by rw [ft_mlt (by omega) (by omega)]; trivial)
  rcases h2 with h2 | h2
  · obtain ⟨n, hn, e⟩ := iI_neg h1.1 h2
    refine ⟨?_, ?_⟩
    · rw [e]
      exact Or.inl (by rw [ft_mlt hn (by omega)]; trivial)
    · unfold sml; rw [if_pos h2]; exact b0
  · refine ⟨?_, ?_⟩
    · have e : iI x = nI x.toNat := by
        rw [← iI_n]
        congr 1
        omega
      rw [e]
      exact Or.inr (by rw [ft_lt (by omega) (by omega)]; omega)
    · unfold sml; rw [if_neg (by omega), if_pos h2]; exact b0
theorem sml_e {x : Int} (h : ¬ (x < 0 ∨ 1000000 < x)) : sml x = iI x := by
  unfold sml
  rw [if_neg (fun z => h (Or.inl z)), if_neg (fun z => h (Or.inr z))]
theorem M_sml {F : Nat × Nat} {h : jH} {x : Int} (hx : -1000000000 ≤ x ∧ x ≤ 1000000000) : m_M_small F (iL x) h = some (some (.int (sml x)), h) := by
  have c1 := cmp_lt (a := x) (b := 0) (by omega) (by omega) (by omega) (by omega)
  have c2 := cmp_gt (a := x) (b := 1000000) (by omega) (by omega) (by omega) (by omega)
  have l6 : (1000000 : Int64) = iL 1000000 := by decide
  rw [q_M_small, iL_0, l6]
  unfold sml
  by_cases q1 : x < 0
  · rw [if_pos (by rw [c1]; exact q1), if_pos q1]
  · rw [if_neg (by rw [c1]; exact q1), if_neg q1]
    by_cases q2 : 1000000 < x
    · rw [if_pos (by rw [c2]; exact q2), if_pos q2]
    · rw [if_neg (by rw [c2]; exact q2), if_neg q2, iL_I]
theorem M_sml_b {F : Nat × Nat} {h : jH} {x : Int} (hx : -1000000000 ≤ x ∧ x ≤ 1000000000) (ff : Int32 → jH → Option jO) : jbI (m_M_small F (iL x) h) ff = ff ((sml x)) (h) := bI_of (M_sml (F := F) (h := h) (x := x) (hx := hx)) ff
theorem M_sma {F : Nat × Nat} {h : jH} (x : Int64) : ∃ r, m_M_small F x h = some (some (.int r), h) := by
  rw [q_M_small]
  split
  · exact ⟨_, rfl⟩
  · split
    · exact ⟨_, rfl⟩
    · exact ⟨_, rfl⟩
def mDe (F : Nat × Nat) (vb : Nat) (a b : Int32) (h : jH) : Option jO := if vb = 20 then m_M_stepsKept F 85 a b h else if vb = 22 then m_M_joinsKept F 85 a b h else if vb = 24 then m_M_smearsKept F 85 a b h else m_M_passesKept F 85 h
def De2 (m c : jH → Option jO) (s : St) : Prop := (∃ q q', q < 3 ∧ q' < 3 ∧ Mst1 m s (.int (mI q)) s ∧ Cst1 c s (.int (mI q')) s) ∨ ∃ n k' u', n < 1000 ∧ WS k' s.2.1 u' ∧ (∀ i, 105 ≤ i → k' i = s.1 i) ∧ Mst1 m s (.int (nI n)) (k', s.2.1, u', s.2.2.2) ∧ Cst1 c s (.int (nI n)) (k', s.2.1, u', s.2.2.2)
theorem De.to2 {m c : jH → Option jO} {s : St} (d : De m c s) : De2 m c s := by
  rcases d with ⟨q, h1, h2, h3⟩ | d
  · exact Or.inl ⟨q, q, h1, h1, h2, h3⟩
  · exact Or.inr d
theorem De_vb {F : Nat × Nat} (hF : FF F) {s : St} (w : WJ s) {vb : Nat} (hv : oVb vb) {x1 x2 : Int} (h1 : -1000000000 ≤ x1 ∧ x1 ≤ 1000000000) (h2 : -1000000000 ≤ x2 ∧ x2 ≤ 1000000000) : De2 (mDe F vb (sml x1) (sml x2)) (cDe F vb (iI x1) (iI x2)) s := by
  by_cases b1 : x1 < 0 ∨ 1000000 < x1
  · obtain ⟨c1, c2⟩ := bd_i h1 b1
    rcases hv with rfl | rfl | rfl | rfl
    · obtain ⟨q, a1, a2, _⟩ := Rf_step (F := F) w (b := sml x2) (Or.inl c2)
      obtain ⟨q', a3, _, a4⟩ := Rf_step (F := F) w (b := iI x2) (Or.inl c1)
      exact Or.inl ⟨q, q', a1, a3, a2, a4⟩
    · obtain ⟨q, a1, a2, _⟩ := Rf_join (F := F) w (b := sml x2) (Or.inl c2)
      obtain ⟨q', a3, _, a4⟩ := Rf_join (F := F) w (b := iI x2) (Or.inl c1)
      exact Or.inl ⟨q, q', a1, a3, a2, a4⟩
    · obtain ⟨q, a1, a2, _⟩ := Rf_smear (F := F) w (b := sml x2) (Or.inl c2)
      obtain ⟨q', a3, _, a4⟩ := Rf_smear (F := F) w (b := iI x2) (Or.inl c1)
      exact Or.inl ⟨q, q', a1, a3, a2, a4⟩
    · exact (De_pass hF w).to2
  · by_cases b2 : x2 < 0 ∨ 1000000 < x2
    · obtain ⟨c1, c2⟩ := bd_i h2 b2
      rcases hv with rfl | rfl | rfl | rfl
      · obtain ⟨q, a1, a2, _⟩ := Rf_step (F := F) w (a := sml x1) (Or.inr c2)
        obtain ⟨q', a3, _, a4⟩ := Rf_step (F := F) w (a := iI x1) (Or.inr c1)
        exact Or.inl ⟨q, q', a1, a3, a2, a4⟩
      · obtain ⟨q, a1, a2, _⟩ := Rf_join (F := F) w (a := sml x1) (Or.inr c2)
        obtain ⟨q', a3, _, a4⟩ := Rf_join (F := F) w (a := iI x1) (Or.inr c1)
        exact Or.inl ⟨q, q', a1, a3, a2, a4⟩
      · obtain ⟨q, a1, a2, _⟩ := Rf_smear (F := F) w (a := sml x1) (Or.inr c2)
        obtain ⟨q', a3, _, a4⟩ := Rf_smear (F := F) w (a := iI x1) (Or.inr c1)
        exact Or.inl ⟨q, q', a1, a3, a2, a4⟩
      · exact (De_pass hF w).to2
    · rw [sml_e b1, sml_e b2]
      rcases hv with rfl | rfl | rfl | rfl
      · exact (De_step hF w _ _).to2
      · exact (De_join hF w _ _).to2
      · exact (De_smear hF w _ _).to2
      · exact (De_pass hF w).to2
/-! the reference obeys -/
theorem M_ob {F : Nat × Nat} {h : jH} (S : ShM h) {vb : Nat} (hv : oVb vb) (f45 : j_I h 85 45 = nI vb) {x1 x2 : Int} (j1 : vb ≠ 26 → j_J h 109 0 = iL x1 ∧ -1000000000 ≤ x1 ∧ x1 ≤ 1000000000) (j2 : vb ≠ 26 → j_J h 109 1 = iL x2 ∧ -1000000000 ≤ x2 ∧ x2 ≤ 1000000000) : m_M_obeys F 85 h = if vb = 20 then m_M_obeys_79 F 85 (sml x1) (sml x2) h else jbI (mDe F vb (sml x1) (sml x2) h) (fun r h => some (some (.int r), h)) := by
  have c0 : (nI 0).toNatClampNeg = 0 := ft_cl (by omega)
  have c1 : (nI 1).toNatClampNeg = 1 := ft_cl (by omega)
  by_cases v26 : vb = 26
  · subst v26
    obtain ⟨r1, e1⟩ := M_sma (F := F) (h := h) (j_J h 109 0)
    obtain ⟨r2, e2⟩ := M_sma (F := F) (h := h) (j_J h 109 1)
    rw [← c0] at e1
    rw [← c1] at e2
    have b1 := bI_of e1
    have b2 := bI_of e2
    rw [if_neg (by decide), show mDe F 26 (sml x1) (sml x2) h = m_M_passesKept F 85 h from rfl, q_M_obeys]
    simp (disch := first | exact sR_rfl _ _ rfl | omega) only [ft_lit, ft_m1, ft_m2, ft_m3, ft_m5, ft_m6, ft_cl, ft_lt, ft_le, ft_eq, ft_mlt, ft_ltm, ft_mltm, ft_meq, ft_eqm, ft_meqm, ft_add, ft_mul, ft_sub, ft_nm, ft_m1p, ft_and, ft_or, ft_31, ft_shl, ft_shr, ft_bz, ft_z0, ft_z1, ft_z01, ft_bb, ft_zt, ft_zf, ft_or0, ft_rv, ft_rvr, ft_rf, ft_rfn, ft_bI, ft_bJ, ft_bV, ft_bR, ft_bRn, ft_isr, ft_isn, ft_ifn, ft_ifr, ft_ov, ft_ovn, ft_in, k_sI, n_sI, R_sI, J_sI, c_sI, z_sI, k_sJ, n_sJ, R_sJ, I_sJ, c_sJ, z_sJ, k_sR, n_sR, I_sR, J_sR, c_sR, z_sR, k_wI, n_wI, R_wI, J_wI, I_wIe, k_wJ, n_wJ, R_wJ, I_wJ, J_wJe, I_wIn, J_wJn, I_sIe, J_sJe, R_sRe, I_sIn, I_sIk, J_sJn, J_sJk, R_sRn, R_sRk, eq_self, if_true, if_false, ↓reduceIte, cond_true, cond_false, ↓cond_eq_ite, and_true, true_and, and_false, false_and, or_true, true_or, or_false, false_or, not_true_eq_false, not_false_eq_true, ft_ltT, ft_ltF, ft_eqT, ft_eqF, Bool.false_eq_true, Bool.true_eq_false, Bool.not_true, Bool.not_false, Bool.and_true, Bool.true_and, Bool.and_false, Bool.false_and, decide_true, decide_false, Nat.reduceAdd, Nat.reduceMul, Nat.reduceSub, Nat.reduceEqDiff, Nat.reduceLT, Nat.zero_add, Nat.add_zero, Nat.reduceDiv, Nat.reduceMod, sm_k85 S, sm_R85_1 S, ↓sm_v85_1 S, sm_R85_2 S, ↓sm_v85_2 S, sm_R85_3 S, ↓sm_v85_3 S, sm_R85_4 S, ↓sm_v85_4 S, sm_R85_5 S, ↓sm_v85_5 S, sm_R85_7 S, ↓sm_v85_7 S, sm_R85_11 S, ↓sm_v85_11 S, sm_R85_12 S, ↓sm_v85_12 S, sm_R85_15 S, ↓sm_v85_15 S, sm_R85_16 S, ↓sm_v85_16 S, sm_R85_17 S, ↓sm_v85_17 S, sm_R85_26 S, ↓sm_v85_26 S, sm_R85_29 S, ↓sm_v85_29 S, sm_R85_30 S, ↓sm_v85_30 S, sm_R85_32 S, ↓sm_v85_32 S, sm_R85_33 S, ↓sm_v85_33 S, sm_R85_34 S, ↓sm_v85_34 S, sm_R85_35 S, ↓sm_v85_35 S, sm_R85_36 S, ↓sm_v85_36 S, sm_R85_37 S, ↓sm_v85_37 S, sm_R85_38 S, ↓sm_v85_38 S, sm_R85_40 S, ↓sm_v85_40 S, sm_R85_41 S, ↓sm_v85_41 S, sm_R85_48 S, ↓sm_v85_48 S, sm_R85_49 S, ↓sm_v85_49 S, sm_k86 S, sm_n86 S, sm_k87 S, sm_n87 S, sm_k88 S, sm_n88 S, sm_k89 S, sm_n89 S, sm_k90 S, sm_n90 S, sm_k91 S, sm_n91 S, sm_k92 S, sm_n92 S, sm_k93 S, sm_n93 S, sm_k94 S, sm_n94 S, sm_k95 S, sm_n95 S, sm_k96 S, sm_n96 S, sm_k97 S, sm_n97 S, sm_k98 S, sm_n98 S, sm_k99 S, sm_n99 S, sm_k100 S, sm_n100 S, sm_k101 S, sm_n101 S, sm_k102 S, sm_n102 S, sm_k103 S, sm_n103 S, sm_k104 S, sm_n104 S, sm_k105 S, sm_n105 S, sm_k106 S, sm_n106 S, sm_k107 S, sm_n107 S, sm_k108 S, sm_n108 S, sm_k109 S, sm_n109 S, sm_k110 S, sm_n110 S, ↓b1, ↓b2, f45]
  · obtain ⟨e1, g1⟩ := j1 v26
    obtain ⟨e2, g2⟩ := j2 v26
    have s1 := M_sml (F := F) (h := h) g1
    have s2 := M_sml (F := F) (h := h) g2
    rw [← e1, ← c0] at s1
    rw [← e2, ← c1] at s2
    have b1 := bI_of s1
    have b2 := bI_of s2
    rcases hv with rfl | rfl | rfl | rfl
    · rw [if_pos rfl, q_M_obeys]
      simp (disch := first | exact sR_rfl _ _ rfl | omega) only [ft_lit, ft_m1, ft_m2, ft_m3, ft_m5, ft_m6, ft_cl, ft_lt, ft_le, ft_eq, ft_mlt, ft_ltm, ft_mltm, ft_meq, ft_eqm, ft_meqm, ft_add, ft_mul, ft_sub, ft_nm, ft_m1p, ft_and, ft_or, ft_31, ft_shl, ft_shr, ft_bz, ft_z0, ft_z1, ft_z01, ft_bb, ft_zt, ft_zf, ft_or0, ft_rv, ft_rvr, ft_rf, ft_rfn, ft_bI, ft_bJ, ft_bV, ft_bR, ft_bRn, ft_isr, ft_isn, ft_ifn, ft_ifr, ft_ov, ft_ovn, ft_in, k_sI, n_sI, R_sI, J_sI, c_sI, z_sI, k_sJ, n_sJ, R_sJ, I_sJ, c_sJ, z_sJ, k_sR, n_sR, I_sR, J_sR, c_sR, z_sR, k_wI, n_wI, R_wI, J_wI, I_wIe, k_wJ, n_wJ, R_wJ, I_wJ, J_wJe, I_wIn, J_wJn, I_sIe, J_sJe, R_sRe, I_sIn, I_sIk, J_sJn, J_sJk, R_sRn, R_sRk, eq_self, if_true, if_false, ↓reduceIte, cond_true, cond_false, ↓cond_eq_ite, and_true, true_and, and_false, false_and, or_true, true_or, or_false, false_or, not_true_eq_false, not_false_eq_true, ft_ltT, ft_ltF, ft_eqT, ft_eqF, Bool.false_eq_true, Bool.true_eq_false, Bool.not_true, Bool.not_false, Bool.and_true, Bool.true_and, Bool.and_false, Bool.false_and, decide_true, decide_false, Nat.reduceAdd, Nat.reduceMul, Nat.reduceSub, Nat.reduceEqDiff, Nat.reduceLT, Nat.zero_add, Nat.add_zero, Nat.reduceDiv, Nat.reduceMod, sm_k85 S, sm_R85_1 S, ↓sm_v85_1 S, sm_R85_2 S, ↓sm_v85_2 S, sm_R85_3 S, ↓sm_v85_3 S, sm_R85_4 S, ↓sm_v85_4 S, sm_R85_5 S, ↓sm_v85_5 S, sm_R85_7 S, ↓sm_v85_7 S, sm_R85_11 S, ↓sm_v85_11 S, sm_R85_12 S, ↓sm_v85_12 S, sm_R85_15 S, ↓sm_v85_15 S, sm_R85_16 S, ↓sm_v85_16 S, sm_R85_17 S, ↓sm_v85_17 S, sm_R85_26 S, ↓sm_v85_26 S, sm_R85_29 S, ↓sm_v85_29 S, sm_R85_30 S, ↓sm_v85_30 S, sm_R85_32 S, ↓sm_v85_32 S, sm_R85_33 S, ↓sm_v85_33 S, sm_R85_34 S, ↓sm_v85_34 S, sm_R85_35 S, ↓sm_v85_35 S, sm_R85_36 S, ↓sm_v85_36 S, sm_R85_37 S, ↓sm_v85_37 S, sm_R85_38 S, ↓sm_v85_38 S, sm_R85_40 S, ↓sm_v85_40 S, sm_R85_41 S, ↓sm_v85_41 S, sm_R85_48 S, ↓sm_v85_48 S, sm_R85_49 S, ↓sm_v85_49 S, sm_k86 S, sm_n86 S, sm_k87 S, sm_n87 S, sm_k88 S, sm_n88 S, sm_k89 S, sm_n89 S, sm_k90 S, sm_n90 S, sm_k91 S, sm_n91 S, sm_k92 S, sm_n92 S, sm_k93 S, sm_n93 S, sm_k94 S, sm_n94 S, sm_k95 S, sm_n95 S, sm_k96 S, sm_n96 S, sm_k97 S, sm_n97 S, sm_k98 S, sm_n98 S, sm_k99 S, sm_n99 S, sm_k100 S, sm_n100 S, sm_k101 S, sm_n101 S, sm_k102 S, sm_n102 S, sm_k103 S, sm_n103 S, sm_k104 S, sm_n104 S, sm_k105 S, sm_n105 S, sm_k106 S, sm_n106 S, sm_k107 S, sm_n107 S, sm_k108 S, sm_n108 S, sm_k109 S, sm_n109 S, sm_k110 S, sm_n110 S, ↓b1, ↓b2, f45]
    · rw [if_neg (by decide), show mDe F 22 (sml x1) (sml x2) h = m_M_joinsKept F 85 (sml x1) (sml x2) h from rfl, q_M_obeys]
      simp (disch := first | exact sR_rfl _ _ rfl | omega) only [ft_lit, ft_m1, ft_m2, ft_m3, ft_m5, ft_m6, ft_cl, ft_lt, ft_le, ft_eq, ft_mlt, ft_ltm, ft_mltm, ft_meq, ft_eqm, ft_meqm, ft_add, ft_mul, ft_sub, ft_nm, ft_m1p, ft_and, ft_or, ft_31, ft_shl, ft_shr, ft_bz, ft_z0, ft_z1, ft_z01, ft_bb, ft_zt, ft_zf, ft_or0, ft_rv, ft_rvr, ft_rf, ft_rfn, ft_bI, ft_bJ, ft_bV, ft_bR, ft_bRn, ft_isr, ft_isn, ft_ifn, ft_ifr, ft_ov, ft_ovn, ft_in, k_sI, n_sI, R_sI, J_sI, c_sI, z_sI, k_sJ, n_sJ, R_sJ, I_sJ, c_sJ, z_sJ, k_sR, n_sR, I_sR, J_sR, c_sR, z_sR, k_wI, n_wI, R_wI, J_wI, I_wIe, k_wJ, n_wJ, R_wJ, I_wJ, J_wJe, I_wIn, J_wJn, I_sIe, J_sJe, R_sRe, I_sIn, I_sIk, J_sJn, J_sJk, R_sRn, R_sRk, eq_self, if_true, if_false, ↓reduceIte, cond_true, cond_false, ↓cond_eq_ite, and_true, true_and, and_false, false_and, or_true, true_or, or_false, false_or, not_true_eq_false, not_false_eq_true, ft_ltT, ft_ltF, ft_eqT, ft_eqF, Bool.false_eq_true, Bool.true_eq_false, Bool.not_true, Bool.not_false, Bool.and_true, Bool.true_and, Bool.and_false, Bool.false_and, decide_true, decide_false, Nat.reduceAdd, Nat.reduceMul, Nat.reduceSub, Nat.reduceEqDiff, Nat.reduceLT, Nat.zero_add, Nat.add_zero, Nat.reduceDiv, Nat.reduceMod, sm_k85 S, sm_R85_1 S, ↓sm_v85_1 S, sm_R85_2 S, ↓sm_v85_2 S, sm_R85_3 S, ↓sm_v85_3 S, sm_R85_4 S, ↓sm_v85_4 S, sm_R85_5 S, ↓sm_v85_5 S, sm_R85_7 S, ↓sm_v85_7 S, sm_R85_11 S, ↓sm_v85_11 S, sm_R85_12 S, ↓sm_v85_12 S, sm_R85_15 S, ↓sm_v85_15 S, sm_R85_16 S, ↓sm_v85_16 S, sm_R85_17 S, ↓sm_v85_17 S, sm_R85_26 S, ↓sm_v85_26 S, sm_R85_29 S, ↓sm_v85_29 S, sm_R85_30 S, ↓sm_v85_30 S, sm_R85_32 S, ↓sm_v85_32 S, sm_R85_33 S, ↓sm_v85_33 S, sm_R85_34 S, ↓sm_v85_34 S, sm_R85_35 S, ↓sm_v85_35 S, sm_R85_36 S, ↓sm_v85_36 S, sm_R85_37 S, ↓sm_v85_37 S, sm_R85_38 S, ↓sm_v85_38 S, sm_R85_40 S, ↓sm_v85_40 S, sm_R85_41 S, ↓sm_v85_41 S, sm_R85_48 S, ↓sm_v85_48 S, sm_R85_49 S, ↓sm_v85_49 S, sm_k86 S, sm_n86 S, sm_k87 S, sm_n87 S, sm_k88 S, sm_n88 S, sm_k89 S, sm_n89 S, sm_k90 S, sm_n90 S, sm_k91 S, sm_n91 S, sm_k92 S, sm_n92 S, sm_k93 S, sm_n93 S, sm_k94 S, sm_n94 S, sm_k95 S, sm_n95 S, sm_k96 S, sm_n96 S, sm_k97 S, sm_n97 S, sm_k98 S, sm_n98 S, sm_k99 S, sm_n99 S, sm_k100 S, sm_n100 S, sm_k101 S, sm_n101 S, sm_k102 S, sm_n102 S, sm_k103 S, sm_n103 S, sm_k104 S, sm_n104 S, sm_k105 S, sm_n105 S, sm_k106 S, sm_n106 S, sm_k107 S, sm_n107 S, sm_k108 S, sm_n108 S, sm_k109 S, sm_n109 S, sm_k110 S, sm_n110 S, ↓b1, ↓b2, f45]
    · rw [if_neg (by decide), show mDe F 24 (sml x1) (sml x2) h = m_M_smearsKept F 85 (sml x1) (sml x2) h from rfl, q_M_obeys]
      simp (disch := first | exact sR_rfl _ _ rfl | omega) only [ft_lit, ft_m1, ft_m2, ft_m3, ft_m5, ft_m6, ft_cl, ft_lt, ft_le, ft_eq, ft_mlt, ft_ltm, ft_mltm, ft_meq, ft_eqm, ft_meqm, ft_add, ft_mul, ft_sub, ft_nm, ft_m1p, ft_and, ft_or, ft_31, ft_shl, ft_shr, ft_bz, ft_z0, ft_z1, ft_z01, ft_bb, ft_zt, ft_zf, ft_or0, ft_rv, ft_rvr, ft_rf, ft_rfn, ft_bI, ft_bJ, ft_bV, ft_bR, ft_bRn, ft_isr, ft_isn, ft_ifn, ft_ifr, ft_ov, ft_ovn, ft_in, k_sI, n_sI, R_sI, J_sI, c_sI, z_sI, k_sJ, n_sJ, R_sJ, I_sJ, c_sJ, z_sJ, k_sR, n_sR, I_sR, J_sR, c_sR, z_sR, k_wI, n_wI, R_wI, J_wI, I_wIe, k_wJ, n_wJ, R_wJ, I_wJ, J_wJe, I_wIn, J_wJn, I_sIe, J_sJe, R_sRe, I_sIn, I_sIk, J_sJn, J_sJk, R_sRn, R_sRk, eq_self, if_true, if_false, ↓reduceIte, cond_true, cond_false, ↓cond_eq_ite, and_true, true_and, and_false, false_and, or_true, true_or, or_false, false_or, not_true_eq_false, not_false_eq_true, ft_ltT, ft_ltF, ft_eqT, ft_eqF, Bool.false_eq_true, Bool.true_eq_false, Bool.not_true, Bool.not_false, Bool.and_true, Bool.true_and, Bool.and_false, Bool.false_and, decide_true, decide_false, Nat.reduceAdd, Nat.reduceMul, Nat.reduceSub, Nat.reduceEqDiff, Nat.reduceLT, Nat.zero_add, Nat.add_zero, Nat.reduceDiv, Nat.reduceMod, sm_k85 S, sm_R85_1 S, ↓sm_v85_1 S, sm_R85_2 S, ↓sm_v85_2 S, sm_R85_3 S, ↓sm_v85_3 S, sm_R85_4 S, ↓sm_v85_4 S, sm_R85_5 S, ↓sm_v85_5 S, sm_R85_7 S, ↓sm_v85_7 S, sm_R85_11 S, ↓sm_v85_11 S, sm_R85_12 S, ↓sm_v85_12 S, sm_R85_15 S, ↓sm_v85_15 S, sm_R85_16 S, ↓sm_v85_16 S, sm_R85_17 S, ↓sm_v85_17 S, sm_R85_26 S, ↓sm_v85_26 S, sm_R85_29 S, ↓sm_v85_29 S, sm_R85_30 S, ↓sm_v85_30 S, sm_R85_32 S, ↓sm_v85_32 S, sm_R85_33 S, ↓sm_v85_33 S, sm_R85_34 S, ↓sm_v85_34 S, sm_R85_35 S, ↓sm_v85_35 S, sm_R85_36 S, ↓sm_v85_36 S, sm_R85_37 S, ↓sm_v85_37 S, sm_R85_38 S, ↓sm_v85_38 S, sm_R85_40 S, ↓sm_v85_40 S, sm_R85_41 S, ↓sm_v85_41 S, sm_R85_48 S, ↓sm_v85_48 S, sm_R85_49 S, ↓sm_v85_49 S, sm_k86 S, sm_n86 S, sm_k87 S, sm_n87 S, sm_k88 S, sm_n88 S, sm_k89 S, sm_n89 S, sm_k90 S, sm_n90 S, sm_k91 S, sm_n91 S, sm_k92 S, sm_n92 S, sm_k93 S, sm_n93 S, sm_k94 S, sm_n94 S, sm_k95 S, sm_n95 S, sm_k96 S, sm_n96 S, sm_k97 S, sm_n97 S, sm_k98 S, sm_n98 S, sm_k99 S, sm_n99 S, sm_k100 S, sm_n100 S, sm_k101 S, sm_n101 S, sm_k102 S, sm_n102 S, sm_k103 S, sm_n103 S, sm_k104 S, sm_n104 S, sm_k105 S, sm_n105 S, sm_k106 S, sm_n106 S, sm_k107 S, sm_n107 S, sm_k108 S, sm_n108 S, sm_k109 S, sm_n109 S, sm_k110 S, sm_n110 S, ↓b1, ↓b2, f45]
    · exact absurd rfl v26
