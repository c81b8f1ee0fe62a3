/-! ORDERS: ONE TIME, BOTH -/
theorem C_176 {F : Nat × Nat} {h : jH} (S : ShF h) {cs : List Cz} (X : TX h 62 true cs) {ci : Nat} (hci : ci < cs.length) (vb : oVb cs[ci].1) {m n : Nat} {v : Int} (hm : m < 1000) (hn : n < 1000) (h1 : j_J h 81 1 = iL (m : Nat)) (h2 : j_J h 81 2 = iL v) : ∃ h', m_F_runOnce_176 F 4 62 (nI ci) (nI n) h = some (some (.int (nI 1)), h') ∧ jX dWo jN h h' ∧ j_J h' 81 1 = iL ((m + 1 : Nat) : Int) ∧ j_J h' 81 2 = iL (if cs[ci].1 = 20 then (n : Int) else v) := by
  obtain ⟨na, nb, ⟨A, ha, hb⟩, K, h6, h7, hl, hz, hcc, g, g2⟩ := id X
  obtain ⟨s, pre, post, Z, ez, es⟩ := KLp_at K ci hci
  rw [Nat.zero_add] at Z
  have z1 : j_I h 64 ci = nI (gC cs[ci].1) := Z.1
  have ad : iL (m : Nat) + (1 : Int64) = iL ((m + 1 : Nat) : Int) := by
    rw [iL_1]
    exact (Int64.ofInt_add _ _).symm
  have c1 : (nI 1).toNatClampNeg = 1 := ft_cl (by omega)
  have c2 : (nI 2).toNatClampNeg = 2 := ft_cl (by omega)
  have x1 : jX dWo jN h (j_sJ h 81 1 (iL ((m + 1 : Nat) : Int))) := jX.rf.sJ (Or.inr rfl)
  have nn : ¬ nI n < nI 0 := by rw [ft_lt (by omega) (by omega)]; omega
  by_cases e : cs[ci].1 = 20
  · rw [if_pos e]
    rw [e, show gC 20 = 315 from rfl] at z1
    refine ⟨j_sJ (j_sJ h 81 1 (iL ((m + 1 : Nat) : Int))) 81 2 (iL (n : Nat)), ?_, x1.sJ (Or.inr rfl), by rw [J_sJk (by omega), J_sJe], J_sJe⟩
    rw [q_F_runOnce_176, if_neg nn]
    simp (disch := first | exact sR_rfl _ _ rfl | omega) only [ft_lit, ft_m1, ft_m2, ft_m3, ft_m5, ft_m6, ft_cl, ft_lt, ft_le, ft_eq, ft_mlt, ft_ltm, ft_mltm, ft_meq, ft_eqm, ft_meqm, ft_add, ft_mul, ft_sub, ft_nm, ft_m1p, ft_and, ft_or, ft_31, ft_shl, ft_shr, ft_bz, ft_z0, ft_z1, ft_z01, ft_bb, ft_zt, ft_zf, ft_or0, ft_rv, ft_rvr, ft_rf, ft_rfn, ft_bI, ft_bJ, ft_bV, ft_bR, ft_bRn, ft_isr, ft_isn, ft_ifn, ft_ifr, ft_ov, ft_ovn, ft_in, k_sI, n_sI, R_sI, J_sI, c_sI, z_sI, k_sJ, n_sJ, R_sJ, I_sJ, c_sJ, z_sJ, k_sR, n_sR, I_sR, J_sR, c_sR, z_sR, k_wI, n_wI, R_wI, J_wI, I_wIe, k_wJ, n_wJ, R_wJ, I_wJ, J_wJe, I_wIn, J_wJn, I_sIe, J_sJe, R_sRe, I_sIn, I_sIk, J_sJn, J_sJk, R_sRn, R_sRk, eq_self, if_true, if_false, ↓reduceIte, cond_true, cond_false, ↓cond_eq_ite, and_true, true_and, and_false, false_and, or_true, true_or, or_false, false_or, not_true_eq_false, not_false_eq_true, ft_ltT, ft_ltF, ft_eqT, ft_eqF, Bool.false_eq_true, Bool.true_eq_false, Bool.not_true, Bool.not_false, Bool.and_true, Bool.true_and, Bool.and_false, Bool.false_and, decide_true, decide_false, Nat.reduceAdd, Nat.reduceMul, Nat.reduceSub, Nat.reduceEqDiff, Nat.reduceLT, Nat.zero_add, Nat.add_zero, Nat.reduceDiv, Nat.reduceMod, sf_k4 S, sf_R4_0 S, ↓sf_v4_0 S, sf_R4_1 S, ↓sf_v4_1 S, sf_R4_2 S, ↓sf_v4_2 S, sf_R4_3 S, ↓sf_v4_3 S, sf_R4_4 S, ↓sf_v4_4 S, sf_R4_5 S, ↓sf_v4_5 S, sf_R4_6 S, ↓sf_v4_6 S, sf_R4_7 S, ↓sf_v4_7 S, sf_R4_8 S, ↓sf_v4_8 S, sf_R4_9 S, ↓sf_v4_9 S, sf_R4_10 S, ↓sf_v4_10 S, sf_R4_11 S, ↓sf_v4_11 S, sf_R4_12 S, ↓sf_v4_12 S, sf_k5 S, sf_R5_0 S, ↓sf_v5_0 S, sf_R5_1 S, ↓sf_v5_1 S, sf_R5_3 S, ↓sf_v5_3 S, sf_R5_4 S, ↓sf_v5_4 S, sf_R5_5 S, ↓sf_v5_5 S, sf_R5_6 S, ↓sf_v5_6 S, sf_R5_7 S, ↓sf_v5_7 S, sf_R5_9 S, ↓sf_v5_9 S, sf_R5_10 S, ↓sf_v5_10 S, sf_R5_11 S, ↓sf_v5_11 S, sf_R5_12 S, ↓sf_v5_12 S, sf_k17 S, sf_R17_0 S, ↓sf_v17_0 S, sf_R17_1 S, ↓sf_v17_1 S, sf_R17_3 S, ↓sf_v17_3 S, sf_R17_4 S, ↓sf_v17_4 S, sf_R17_5 S, ↓sf_v17_5 S, sf_R17_6 S, ↓sf_v17_6 S, sf_R17_7 S, ↓sf_v17_7 S, sf_R17_9 S, ↓sf_v17_9 S, sf_R17_10 S, ↓sf_v17_10 S, sf_R17_11 S, ↓sf_v17_11 S, sf_R17_12 S, ↓sf_v17_12 S, sf_k29 S, sf_R29_0 S, ↓sf_v29_0 S, sf_R29_1 S, ↓sf_v29_1 S, sf_R29_3 S, ↓sf_v29_3 S, sf_R29_4 S, ↓sf_v29_4 S, sf_R29_5 S, ↓sf_v29_5 S, sf_R29_6 S, ↓sf_v29_6 S, sf_R29_7 S, ↓sf_v29_7 S, sf_R29_9 S, ↓sf_v29_9 S, sf_R29_10 S, ↓sf_v29_10 S, sf_R29_11 S, ↓sf_v29_11 S, sf_R29_12 S, ↓sf_v29_12 S, sf_k41 S, sf_n41 S, sf_k42 S, sf_R42_0 S, ↓sf_v42_0 S, sf_R42_1 S, ↓sf_v42_1 S, sf_R42_2 S, ↓sf_v42_2 S, sf_R42_3 S, ↓sf_v42_3 S, sf_R42_4 S, ↓sf_v42_4 S, sf_R42_5 S, ↓sf_v42_5 S, sf_R42_6 S, ↓sf_v42_6 S, sf_R42_7 S, ↓sf_v42_7 S, sf_k51 S, sf_R51_0 S, ↓sf_v51_0 S, sf_R51_1 S, ↓sf_v51_1 S, sf_R51_2 S, ↓sf_v51_2 S, sf_R51_3 S, ↓sf_v51_3 S, sf_R51_4 S, ↓sf_v51_4 S, sf_R51_5 S, ↓sf_v51_5 S, sf_R51_6 S, ↓sf_v51_6 S, sf_R51_7 S, ↓sf_v51_7 S, sf_k60 S, sf_R60_0 S, ↓sf_v60_0 S, sf_R60_3 S, ↓sf_v60_3 S, sf_R60_4 S, ↓sf_v60_4 S, sf_R60_5 S, ↓sf_v60_5 S, sf_R60_6 S, ↓sf_v60_6 S, sf_k72 S, sf_R72_0 S, ↓sf_v72_0 S, sf_R72_1 S, ↓sf_v72_1 S, sf_k75 S, sf_R75_0 S, ↓sf_v75_0 S, sf_R75_1 S, ↓sf_v75_1 S, sf_R75_2 S, ↓sf_v75_2 S, sf_R75_3 S, ↓sf_v75_3 S, sf_R75_4 S, ↓sf_v75_4 S, sf_k81 S, sf_n81 S, sf_k82 S, sf_n82 S, sf_k83 S, sf_n83 S, sf_k84 S, sf_n84 S, sf_k6 S, sf_n6 S, sf_k7 S, sf_n7 S, sf_k8 S, sf_n8 S, sf_k9 S, sf_n9 S, sf_k10 S, sf_n10 S, sf_k11 S, sf_n11 S, sf_k12 S, sf_n12 S, sf_k13 S, sf_n13 S, sf_k14 S, sf_n14 S, sf_k15 S, sf_n15 S, sf_k16 S, sf_n16 S, sf_k18 S, sf_n18 S, sf_k19 S, sf_n19 S, sf_k20 S, sf_n20 S, sf_k21 S, sf_n21 S, sf_k22 S, sf_n22 S, sf_k23 S, sf_n23 S, sf_k24 S, sf_n24 S, sf_k25 S, sf_n25 S, sf_k26 S, sf_n26 S, sf_k27 S, sf_n27 S, sf_k28 S, sf_n28 S, sf_k30 S, sf_n30 S, sf_k31 S, sf_n31 S, sf_k32 S, sf_n32 S, sf_k33 S, sf_n33 S, sf_k34 S, sf_n34 S, sf_k35 S, sf_n35 S, sf_k36 S, sf_n36 S, sf_k37 S, sf_n37 S, sf_k38 S, sf_n38 S, sf_k39 S, sf_n39 S, sf_k40 S, sf_n40 S, sf_k43 S, sf_n43 S, sf_k44 S, sf_n44 S, sf_k45 S, sf_n45 S, sf_k46 S, sf_n46 S, sf_k47 S, sf_n47 S, sf_k48 S, sf_n48 S, sf_k49 S, sf_n49 S, sf_k50 S, sf_n50 S, sf_k52 S, sf_n52 S, sf_k53 S, sf_n53 S, sf_k54 S, sf_n54 S, sf_k55 S, sf_n55 S, sf_k56 S, sf_n56 S, sf_k57 S, sf_n57 S, sf_k58 S, sf_n58 S, sf_k59 S, sf_n59 S, sf_k61 S, sf_n61 S, sf_k62 S, sf_R62_0 S, ↓sf_v62_0 S, sf_R62_1 S, ↓sf_v62_1 S, sf_R62_2 S, ↓sf_v62_2 S, sf_R62_3 S, ↓sf_v62_3 S, sf_R62_4 S, ↓sf_v62_4 S, sf_R62_5 S, ↓sf_v62_5 S, sf_k69 S, sf_n69 S, sf_k70 S, sf_n70 S, sf_k71 S, sf_n71 S, sf_k73 S, sf_n73 S, sf_k74 S, sf_n74 S, sf_k76 S, sf_n76 S, sf_k77 S, sf_n77 S, sf_k78 S, sf_n78 S, sf_k79 S, sf_n79 S, sf_k80 S, sf_n80 S, sf_k63 S, sf_n63 S, sf_k64 S, sf_n64 S, sf_k65 S, sf_n65 S, sf_k66 S, sf_n66 S, sf_k67 S, sf_n67 S, sf_k68 S, sf_n68 S, c1, c2, h1, ad, z1, nI_L]
  · rw [if_neg e]
    have ne : (nI (gC cs[ci].1) = nI 315) = False := by
      rcases vb with q | q | q | q
      · exact absurd q e
      · rw [q]; decide
      · rw [q]; decide
      · rw [q]; decide
    refine ⟨j_sJ h 81 1 (iL ((m + 1 : Nat) : Int)), ?_, x1, J_sJe, by rw [J_sJk (by omega)]; exact h2⟩
    rw [q_F_runOnce_176, if_neg nn]
    simp (disch := first | exact sR_rfl _ _ rfl | omega) only [ft_lit, ft_m1, ft_m2, ft_m3, ft_m5, ft_m6, ft_cl, ft_lt, ft_le, ft_eq, ft_mlt, ft_ltm, ft_mltm, ft_meq, ft_eqm, ft_meqm, ft_add, ft_mul, ft_sub, ft_nm, ft_m1p, ft_and, ft_or, ft_31, ft_shl, ft_shr, ft_bz, ft_z0, ft_z1, ft_z01, ft_bb, ft_zt, ft_zf, ft_or0, ft_rv, ft_rvr, ft_rf, ft_rfn, ft_bI, ft_bJ, ft_bV, ft_bR, ft_bRn, ft_isr, ft_isn, ft_ifn, ft_ifr, ft_ov, ft_ovn, ft_in, k_sI, n_sI, R_sI, J_sI, c_sI, z_sI, k_sJ, n_sJ, R_sJ, I_sJ, c_sJ, z_sJ, k_sR, n_sR, I_sR, J_sR, c_sR, z_sR, k_wI, n_wI, R_wI, J_wI, I_wIe, k_wJ, n_wJ, R_wJ, I_wJ, J_wJe, I_wIn, J_wJn, I_sIe, J_sJe, R_sRe, I_sIn, I_sIk, J_sJn, J_sJk, R_sRn, R_sRk, eq_self, if_true, if_false, ↓reduceIte, cond_true, cond_false, ↓cond_eq_ite, and_true, true_and, and_false, false_and, or_true, true_or, or_false, false_or, not_true_eq_false, not_false_eq_true, ft_ltT, ft_ltF, ft_eqT, ft_eqF, Bool.false_eq_true, Bool.true_eq_false, Bool.not_true, Bool.not_false, Bool.and_true, Bool.true_and, Bool.and_false, Bool.false_and, decide_true, decide_false, Nat.reduceAdd, Nat.reduceMul, Nat.reduceSub, Nat.reduceEqDiff, Nat.reduceLT, Nat.zero_add, Nat.add_zero, Nat.reduceDiv, Nat.reduceMod, sf_k4 S, sf_R4_0 S, ↓sf_v4_0 S, sf_R4_1 S, ↓sf_v4_1 S, sf_R4_2 S, ↓sf_v4_2 S, sf_R4_3 S, ↓sf_v4_3 S, sf_R4_4 S, ↓sf_v4_4 S, sf_R4_5 S, ↓sf_v4_5 S, sf_R4_6 S, ↓sf_v4_6 S, sf_R4_7 S, ↓sf_v4_7 S, sf_R4_8 S, ↓sf_v4_8 S, sf_R4_9 S, ↓sf_v4_9 S, sf_R4_10 S, ↓sf_v4_10 S, sf_R4_11 S, ↓sf_v4_11 S, sf_R4_12 S, ↓sf_v4_12 S, sf_k5 S, sf_R5_0 S, ↓sf_v5_0 S, sf_R5_1 S, ↓sf_v5_1 S, sf_R5_3 S, ↓sf_v5_3 S, sf_R5_4 S, ↓sf_v5_4 S, sf_R5_5 S, ↓sf_v5_5 S, sf_R5_6 S, ↓sf_v5_6 S, sf_R5_7 S, ↓sf_v5_7 S, sf_R5_9 S, ↓sf_v5_9 S, sf_R5_10 S, ↓sf_v5_10 S, sf_R5_11 S, ↓sf_v5_11 S, sf_R5_12 S, ↓sf_v5_12 S, sf_k17 S, sf_R17_0 S, ↓sf_v17_0 S, sf_R17_1 S, ↓sf_v17_1 S, sf_R17_3 S, ↓sf_v17_3 S, sf_R17_4 S, ↓sf_v17_4 S, sf_R17_5 S, ↓sf_v17_5 S, sf_R17_6 S, ↓sf_v17_6 S, sf_R17_7 S, ↓sf_v17_7 S, sf_R17_9 S, ↓sf_v17_9 S, sf_R17_10 S, ↓sf_v17_10 S, sf_R17_11 S, ↓sf_v17_11 S, sf_R17_12 S, ↓sf_v17_12 S, sf_k29 S, sf_R29_0 S, ↓sf_v29_0 S, sf_R29_1 S, ↓sf_v29_1 S, sf_R29_3 S, ↓sf_v29_3 S, sf_R29_4 S, ↓sf_v29_4 S, sf_R29_5 S, ↓sf_v29_5 S, sf_R29_6 S, ↓sf_v29_6 S, sf_R29_7 S, ↓sf_v29_7 S, sf_R29_9 S, ↓sf_v29_9 S, sf_R29_10 S, ↓sf_v29_10 S, sf_R29_11 S, ↓sf_v29_11 S, sf_R29_12 S, ↓sf_v29_12 S, sf_k41 S, sf_n41 S, sf_k42 S, sf_R42_0 S, ↓sf_v42_0 S, sf_R42_1 S, ↓sf_v42_1 S, sf_R42_2 S, ↓sf_v42_2 S, sf_R42_3 S, ↓sf_v42_3 S, sf_R42_4 S, ↓sf_v42_4 S, sf_R42_5 S, ↓sf_v42_5 S, sf_R42_6 S, ↓sf_v42_6 S, sf_R42_7 S, ↓sf_v42_7 S, sf_k51 S, sf_R51_0 S, ↓sf_v51_0 S, sf_R51_1 S, ↓sf_v51_1 S, sf_R51_2 S, ↓sf_v51_2 S, sf_R51_3 S, ↓sf_v51_3 S, sf_R51_4 S, ↓sf_v51_4 S, sf_R51_5 S, ↓sf_v51_5 S, sf_R51_6 S, ↓sf_v51_6 S, sf_R51_7 S, ↓sf_v51_7 S, sf_k60 S, sf_R60_0 S, ↓sf_v60_0 S, sf_R60_3 S, ↓sf_v60_3 S, sf_R60_4 S, ↓sf_v60_4 S, sf_R60_5 S, ↓sf_v60_5 S, sf_R60_6 S, ↓sf_v60_6 S, sf_k72 S, sf_R72_0 S, ↓sf_v72_0 S, sf_R72_1 S, ↓sf_v72_1 S, sf_k75 S, sf_R75_0 S, ↓sf_v75_0 S, sf_R75_1 S, ↓sf_v75_1 S, sf_R75_2 S, ↓sf_v75_2 S, sf_R75_3 S, ↓sf_v75_3 S, sf_R75_4 S, ↓sf_v75_4 S, sf_k81 S, sf_n81 S, sf_k82 S, sf_n82 S, sf_k83 S, sf_n83 S, sf_k84 S, sf_n84 S, sf_k6 S, sf_n6 S, sf_k7 S, sf_n7 S, sf_k8 S, sf_n8 S, sf_k9 S, sf_n9 S, sf_k10 S, sf_n10 S, sf_k11 S, sf_n11 S, sf_k12 S, sf_n12 S, sf_k13 S, sf_n13 S, sf_k14 S, sf_n14 S, sf_k15 S, sf_n15 S, sf_k16 S, sf_n16 S, sf_k18 S, sf_n18 S, sf_k19 S, sf_n19 S, sf_k20 S, sf_n20 S, sf_k21 S, sf_n21 S, sf_k22 S, sf_n22 S, sf_k23 S, sf_n23 S, sf_k24 S, sf_n24 S, sf_k25 S, sf_n25 S, sf_k26 S, sf_n26 S, sf_k27 S, sf_n27 S, sf_k28 S, sf_n28 S, sf_k30 S, sf_n30 S, sf_k31 S, sf_n31 S, sf_k32 S, sf_n32 S, sf_k33 S, sf_n33 S, sf_k34 S, sf_n34 S, sf_k35 S, sf_n35 S, sf_k36 S, sf_n36 S, sf_k37 S, sf_n37 S, sf_k38 S, sf_n38 S, sf_k39 S, sf_n39 S, sf_k40 S, sf_n40 S, sf_k43 S, sf_n43 S, sf_k44 S, sf_n44 S, sf_k45 S, sf_n45 S, sf_k46 S, sf_n46 S, sf_k47 S, sf_n47 S, sf_k48 S, sf_n48 S, sf_k49 S, sf_n49 S, sf_k50 S, sf_n50 S, sf_k52 S, sf_n52 S, sf_k53 S, sf_n53 S, sf_k54 S, sf_n54 S, sf_k55 S, sf_n55 S, sf_k56 S, sf_n56 S, sf_k57 S, sf_n57 S, sf_k58 S, sf_n58 S, sf_k59 S, sf_n59 S, sf_k61 S, sf_n61 S, sf_k62 S, sf_R62_0 S, ↓sf_v62_0 S, sf_R62_1 S, ↓sf_v62_1 S, sf_R62_2 S, ↓sf_v62_2 S, sf_R62_3 S, ↓sf_v62_3 S, sf_R62_4 S, ↓sf_v62_4 S, sf_R62_5 S, ↓sf_v62_5 S, sf_k69 S, sf_n69 S, sf_k70 S, sf_n70 S, sf_k71 S, sf_n71 S, sf_k73 S, sf_n73 S, sf_k74 S, sf_n74 S, sf_k76 S, sf_n76 S, sf_k77 S, sf_n77 S, sf_k78 S, sf_n78 S, sf_k79 S, sf_n79 S, sf_k80 S, sf_n80 S, sf_k63 S, sf_n63 S, sf_k64 S, sf_n64 S, sf_k65 S, sf_n65 S, sf_k66 S, sf_n66 S, sf_k67 S, sf_n67 S, sf_k68 S, sf_n68 S, c1, c2, h1, ad, z1, ne]
theorem dMd_f {i : Nat} (h : 26 ≤ i ∧ i ≠ 31) : ¬ dMd 85 i := fun z => by unfold dMd dT dKp at z; omega
theorem M_obr {F : Nat × Nat} {h : jH} {s : St} (S : ShM h) (M : MJ h s) {vb : Nat} (hv : oVb vb) (f45 : j_I h 85 45 = nI vb) {x1 x2 : Int} (j1 : vb ≠ 26 → j_J h 109 0 = iL x1 ∧ -1000000000 ≤ x1 ∧ x1 ≤ 1000000000) (j2 : vb ≠ 26 → j_J h 109 1 = iL x2 ∧ -1000000000 ≤ x2 ∧ x2 ≤ 1000000000) {s' : St} {r : Int32} (d : Mst1 (mDe F vb (sml x1) (sml x2)) s (.int r) s') (S' : ∀ {h : jH}, MJ h s' → ShM h) : ∃ h', m_M_obeys F 85 h = some (some (.int r), h') ∧ MJ h' s' ∧ jX (fun a i => dMd a i ∨ (a = 85 ∧ i = 28)) jN h h' ∧ j_I h' 85 27 = j_I h 85 27 ∧ j_I h' 85 43 = j_I h 85 43 ∧ j_I h' 85 28 = if vb = 20 ∧ ¬ r < nI 0 then r else j_I h 85 28 := by
  obtain ⟨h1, e1, M1, xx⟩ := d h M
  have S1 := S' M1
  have p1 : j_I h1 85 27 = j_I h 85 27 := xx.I (dMd_f (by omega))
  have p2 : j_I h1 85 28 = j_I h 85 28 := xx.I (dMd_f (by omega))
  have p3 : j_I h1 85 43 = j_I h 85 43 := xx.I (dMd_f (by omega))
  rw [M_ob (F := F) S hv f45 j1 j2]
  by_cases q : vb = 20
  · subst q
    rw [if_pos rfl]
    have e1' : m_M_stepsKept F 85 (sml x1) (sml x2) h = some (some (.int r), h1) := e1
    by_cases n : r < nI 0
    · refine ⟨j_sI h1 85 28 (j_I h1 85 28), ?_, M1.f27 (jX.rf.sI ⟨rfl, Or.inr (Or.inl rfl)⟩), (xx.up (D' := fun a i => dMd a i ∨ (a = 85 ∧ i = 28)) (fun a i z => Or.inl z) (fun _ _ z => z)).sI (Or.inr ⟨rfl, rfl⟩), by rw [I_sIk (by omega)]; exact p1, by rw [I_sIk (by omega)]; exact p3, by rw [I_sIe, if_neg (fun z => z.2 n)]; exact p2⟩
      rw [q_M_obeys_79, if_pos (sm_k85 S), bI_of e1', if_pos n, if_pos (sm_k85 S1), if_pos (sm_k85 S1)]
    · refine ⟨j_sI h1 85 28 r, ?_, M1.f27 (jX.rf.sI ⟨rfl, Or.inr (Or.inl rfl)⟩), (xx.up (D' := fun a i => dMd a i ∨ (a = 85 ∧ i = 28)) (fun a i z => Or.inl z) (fun _ _ z => z)).sI (Or.inr ⟨rfl, rfl⟩), by rw [I_sIk (by omega)]; exact p1, by rw [I_sIk (by omega)]; exact p3, by rw [I_sIe, if_pos ⟨rfl, n⟩]⟩
      rw [q_M_obeys_79, if_pos (sm_k85 S), bI_of e1', if_neg n, if_pos (sm_k85 S1)]
  · rw [if_neg q]
    refine ⟨h1, bI_eta e1, M1, xx.up (fun a i z => Or.inl z) (fun _ _ z => z), p1, p3, ?_⟩
    rw [if_neg (fun z => q z.1)]
    exact p2
theorem O_once {F : Nat × Nat} (hF : FF F) {s : St} (w : WJ s) {m : Nat} {v : Int} (hm : m < 1000) (hv : -1 ≤ v ∧ v ≤ 1000000) {t l : Nat} (ht : t ≤ s.1 187) (hok : (h_one (kT s.1 6) true (true, t, l)).1.1 = true) {cs : List Cz} {ci : Nat} (hci : ci < cs.length) (hc : cs[ci] = (h_one (kT s.1 6) true (true, t, l)).2) : (∃ s' m' v', Nx s s' ∧ m' ≤ m + 1 ∧ (-1 ≤ v' ∧ v' ≤ 1000000) ∧ (∀ h, RM h s m v t → ∀ f tm nx tt, tt < tm → tm ≤ 20 → ∃ h', m_M_runs_19 F (f + 1) 85 (nI (2400 + s.1 187)) (nI tm) nx (nI tt) h = m_M_runs_19 F f 85 (nI (2400 + s.1 187)) (nI tm) nx (nI (tt + 1)) h' ∧ RM h' s' m' v' t ∧ jX dRu jN h h') ∧ (∀ h, CM h s m v cs → ∃ h', m_F_runOnce F 4 62 (nI ci) h = some (some (.int (nI 1)), h') ∧ CM h' s' m' v' cs ∧ jX dOc jN h h')) ∨ ((∀ h, RM h s m v t → ∀ f tm nx tt, tt < tm → tm ≤ 20 → ∃ h', m_M_runs_19 F (f + 1) 85 (nI (2400 + s.1 187)) (nI tm) nx (nI tt) h = some (some (.int (nI 0)), h') ∧ MJ h' s ∧ jX dRu jN h h') ∧ (∀ h, CM h s m v cs → ∃ h', m_F_runOnce F 4 62 (nI ci) h = some (some (.int (nI 0)), h') ∧ CJ h' s ∧ jX dOc jN h h')) := by
  obtain ⟨k, im, u, tp, tl, sc, kd⟩ := s
  have w' : WS k im u := w
  have W := w'.1
  replace ht : t ≤ k 187 := ht
  replace hok : (h_one (kT k 6) true (true, t, l)).1.1 = true := hok
  replace hc : cs[ci] = (h_one (kT k 6) true (true, t, l)).2 := hc
  have hsz : k 187 ≤ 400 := W.size (j := 6) (by omega)
  have hn : (kT k 6).1 (k 187) = 0 := by
    show (if k 187 < k (181 + 6) then _ else 0) = 0
    rw [if_neg (show ¬ k 187 < k 187 by omega)]
  obtain ⟨t2, l2, t3, l3, a1, a2, a3, a4, a5, a6, a7⟩ := h_one_o hn ht hok
  have c1 : (h_one (kT k 6) true (true, t, l)).2.1 = (kT k 6).1 t := rfl
  have c4 : ((h_one (kT k 6) true (true, t, l)).2.2.1, (h_one (kT k 6) true (true, t, l)).2.2.2.1) = (h_osum (kT k 6) (true, t, l)).2 := rfl
  have vb : oVb ((kT k 6).1 t) := by
    rcases a4 with ⟨z, _⟩ | ⟨_, _, _, (⟨z, _⟩ | ⟨z, _⟩ | ⟨z, _⟩), _⟩
    · exact Or.inr (Or.inr (Or.inr z))
    · exact Or.inl z
    · exact Or.inr (Or.inl z)
    · exact Or.inr (Or.inr (Or.inl z))
  have vb' : oVb cs[ci].1 := by rw [hc]; exact vb
  have vs : (kT k 6).1 t ≠ 26 → ∃ d1 d2, (h_one (kT k 6) true (true, t, l)).2.2.1 = some d1 ∧ (h_one (kT k 6) true (true, t, l)).2.2.2.1 = some d2 := fun z => by
    rcases a4 with ⟨z1, _⟩ | ⟨_, _, _, _, _, _, _, _, z6⟩
    · exact absurd z1 z
    · rw [z6] at c4
      exact ⟨_, _, congrArg Prod.fst c4, congrArg Prod.snd c4⟩
  -- the reference, as far as it goes along
  have ref : ∀ h, RM h (k, im, u, tp, tl, sc, kd) m v t → ∃ h4, m_M_goesAlong F 85 (nI (2400 + k 187)) (nI 1) h = some (none, h4) ∧ jX dGl jN h h4 ∧ RM h4 (k, im, u, tp, tl, sc, kd) m v t ∧ j_I h4 85 45 = nI ((kT k 6).1 t) ∧ j_I h4 85 46 = nI (ft_z (oFn (oE k m v) (h_one (kT k 6) true (true, t, l)).2)) ∧ j_I h4 85 47 = nI (ft_z (h_holds (oE k m v) (h_one (kT k 6) true (true, t, l)).2)) ∧ (∀ d, (h_one (kT k 6) true (true, t, l)).2.2.1 = some d → j_J h4 109 0 = iL ((d.2 (oE k m v)).getD 0)) ∧ (∀ d, (h_one (kT k 6) true (true, t, l)).2.2.2.1 = some d → j_J h4 109 1 = iL ((d.2 (oE k m v)).getD 0)) := by
    intro h R
    obtain ⟨M, r1, r2, r3⟩ := R
    have M' : MI h k im u tp tl sc kd := M
    obtain ⟨h4, e4, x4, B4, _, _, f⟩ := G_al (F := F) hF W (by omega) hv M'.1 M'.2.2.2.1 M'.2.2.1 r1 r2 r3 ht hok true
    obtain ⟨f1, f2, f3, f4, f5⟩ := f rfl
    refine ⟨h4, e4, x4, ⟨M.gl x4 B4, ?_, ?_, ?_⟩, f1, f2, f3, f4, f5⟩
    · rw [x4.I (fun z => by unfold dGl at z; omega)]; exact r1
    · rw [x4.I (fun z => by unfold dGl at z; omega)]; exact r2
    · rw [x4.I (fun z => by unfold dGl at z; omega)]; exact r3
  have SM : ∀ {h : jH} {k' : Nat → Nat} {u' : List Ue}, MJ h (k', im, u', tp, tl, sc, kd) → ShM h := fun M => M.1
  have cls : ∀ h, CM h (k, im, u, tp, tl, sc, kd) m v cs → ∃ g, jX dWo jN h g ∧ CM g (k, im, u, tp, tl, sc, kd) m v cs ∧ ((h_holds (oE k m v) cs[ci] = false ∧ m_F_runOnce F 4 62 (nI ci) h = some (some (.int (nI 1)), g)) ∨ (h_holds (oE k m v) cs[ci] = true ∧ (wS (oE k m v) cs[ci].2.1 = none ∨ wS (oE k m v) cs[ci].2.2.1 = none) ∧ m_F_runOnce F 4 62 (nI ci) h = some (some (.int (nI 0)), g)) ∨ (h_holds (oE k m v) cs[ci] = true ∧ ∃ x1 x2, wS (oE k m v) cs[ci].2.1 = some x1 ∧ wS (oE k m v) cs[ci].2.2.1 = some x2 ∧ (-1000000000 ≤ x1 ∧ x1 ≤ 1000000000) ∧ (-1000000000 ≤ x2 ∧ x2 ≤ 1000000000) ∧ m_F_runOnce F 4 62 (nI ci) h = jbI (cDe F cs[ci].1 (iI x1) (iI x2) g) (fun r h => m_F_runOnce_176 F 4 62 (nI ci) r h))) := by
    intro h Q
    obtain ⟨C, X, j1, j2⟩ := Q
    have C' : CI h k im u tp tl sc kd := C
    obtain ⟨g, x, g1, g2, alt⟩ := C_once (F := F) hF W (by omega) hv ⟨C'.1, C'.2.2.1.1, C'.2.2.1.2.1⟩ X (fun x => X.fr x (fun j i hj z => by unfold d81 at z; omega) (fun i z => z)) j1 j2 hci vb'
    exact ⟨g, x, ⟨C.wo x, X.fr x (fun j i hj z => by unfold dWo at z; omega) (fun i z => z), g1, g2⟩, alt⟩
  have d1 : ∀ {h h' : jH}, jX dGl jN h h' → jX dRu jN h h' := fun x => x.up (fun a i z => Or.inr (Or.inl z)) (fun _ _ z => z)
  have d2 : ∀ {h h' : jH}, jX dWo jN h h' → jX dOc jN h h' := fun x => x.up (fun a i z => Or.inr z) (fun _ _ z => z)
  have bad : ∀ b : Bool, b = false → b = true → False := fun b p q => by rw [p] at q; cases q
  cases hh : h_holds (oE k m v) (h_one (kT k 6) true (true, t, l)).2 with
  | false =>
    left
    refine ⟨(k, im, u, tp, tl, sc, kd), m, v, Nx.rf w, by omega, hv, fun h R f tm nx tt h1 h2 => ?_, fun h Q => ?_⟩
    · obtain ⟨h4, e4, x4, R4, f1, f2, f3, _, _⟩ := ref h R
      rw [hh] at f3
      refine ⟨h4, ?_, R4, d1 x4⟩
      have S : ShM h := R.1.1
      have S4 : ShM h4 := R4.1.1
      show m_M_runs_19 F (f + 1) 85 (nI (2400 + k 187)) (nI tm) nx (nI tt) h = _
      rw [q_M_runs_19, if_pos (by rw [ft_lt (by omega) (by omega)]; exact h1), if_pos (sm_k85 S), bV_of e4, if_pos (sm_k85 S4), if_pos (by rw [f3]; rfl), show nI tt + nI 1 = nI (tt + 1) from by simp (disch := first | exact sR_rfl _ _ rfl | omega) only [ft_lit, ft_m1, ft_m2, ft_m3, ft_m5, ft_m6, ft_cl, ft_lt, ft_le, ft_eq, ft_mlt, ft_ltm, ft_mltm, ft_meq, ft_eqm, ft_meqm, ft_add, ft_mul, ft_sub, ft_nm, ft_m1p, ft_and, ft_or, ft_31, ft_shl, ft_shr, ft_bz, ft_z0, ft_z1, ft_z01, ft_bb, ft_zt, ft_zf, ft_or0, ft_rv, ft_rvr, ft_rf, ft_rfn, ft_bI, ft_bJ, ft_bV, ft_bR, ft_bRn, ft_isr, ft_isn, ft_ifn, ft_ifr, ft_ov, ft_ovn, ft_in, k_sI, n_sI, R_sI, J_sI, c_sI, z_sI, k_sJ, n_sJ, R_sJ, I_sJ, c_sJ, z_sJ, k_sR, n_sR, I_sR, J_sR, c_sR, z_sR, k_wI, n_wI, R_wI, J_wI, I_wIe, k_wJ, n_wJ, R_wJ, I_wJ, J_wJe, I_wIn, J_wJn, I_sIe, J_sJe, R_sRe, I_sIn, I_sIk, J_sJn, J_sJk, R_sRn, R_sRk, eq_self, if_true, if_false, ↓reduceIte, cond_true, cond_false, ↓cond_eq_ite, and_true, true_and, and_false, false_and, or_true, true_or, or_false, false_or, not_true_eq_false, not_false_eq_true, ft_ltT, ft_ltF, ft_eqT, ft_eqF, Bool.false_eq_true, Bool.true_eq_false, Bool.not_true, Bool.not_false, Bool.and_true, Bool.true_and, Bool.and_false, Bool.false_and, decide_true, decide_false, Nat.reduceAdd, Nat.reduceMul, Nat.reduceSub, Nat.reduceEqDiff, Nat.reduceLT, Nat.zero_add, Nat.add_zero, Nat.reduceDiv, Nat.reduceMod]]
    · obtain ⟨g, x, G, alt⟩ := cls h Q
      rcases alt with ⟨_, e⟩ | ⟨z, _⟩ | ⟨z, _⟩
      · exact ⟨g, e, G, d2 x⟩
      · rw [hc] at z; exact (bad _ hh z).elim
      · rw [hc] at z; exact (bad _ hh z).elim
  | true =>
    cases hf : oFn (oE k m v) (h_one (kT k 6) true (true, t, l)).2 with
    | false =>
      right
      refine ⟨fun h R f tm nx tt h1 h2 => ?_, fun h Q => ?_⟩
      · obtain ⟨h4, e4, x4, R4, f1, f2, f3, _, _⟩ := ref h R
        rw [hh] at f3
        rw [hf] at f2
        refine ⟨h4, ?_, R4.1, d1 x4⟩
        have S : ShM h := R.1.1
        have S4 : ShM h4 := R4.1.1
        show m_M_runs_19 F (f + 1) 85 (nI (2400 + k 187)) (nI tm) nx (nI tt) h = _
        rw [q_M_runs_19, if_pos (by rw [ft_lt (by omega) (by omega)]; exact h1), if_pos (sm_k85 S), bV_of e4, if_pos (sm_k85 S4), if_neg (by rw [f3]; decide), if_pos (sm_k85 S4), if_pos (by rw [f2]; rfl)]
      · obtain ⟨g, x, G, alt⟩ := cls h Q
        rcases alt with ⟨z, _⟩ | ⟨_, _, e⟩ | ⟨_, x1, x2, z1, z2, _⟩
        · rw [hc] at z; exact (bad _ z hh).elim
        · exact ⟨g, e, G.1, d2 x⟩
        · have := oFn_s z1 z2
          rw [hc] at this
          exact (bad _ hf this).elim
    | true =>
      obtain ⟨x1, x2, w1, w2⟩ := oFn_w hf
      have gS1 : ∀ d, (h_one (kT k 6) true (true, t, l)).2.2.1 = some d → d.2 (oE k m v) = some x1 := fun d e => by
        unfold wS at w1; rw [e] at w1; exact w1
      have gS2 : ∀ d, (h_one (kT k 6) true (true, t, l)).2.2.2.1 = some d → d.2 (oE k m v) = some x2 := fun d e => by
        unfold wS at w2; rw [e] at w2; exact w2
      -- the bounds
      have gz1 : gS true (h_one (kT k 6) true (true, t, l)).2.2.1 ∧ gS true (h_one (kT k 6) true (true, t, l)).2.2.2.1 := by
        rcases a4 with ⟨_, _, z⟩ | ⟨_, t1, l1, _, _, z3, _, z5, z6⟩
        · rw [z] at c4
          refine ⟨fun d e => ?_, fun d e => ?_⟩
          · rw [show (h_one (kT k 6) true (true, t, l)).2.2.1 = none from congrArg Prod.fst c4] at e; cases e
          · rw [show (h_one (kT k 6) true (true, t, l)).2.2.2.1 = none from congrArg Prod.snd c4] at e; cases e
        · rw [z6] at c4
          refine ⟨fun d e => ?_, fun d e => ?_⟩
          · have q1 : (h_one (kT k 6) true (true, t, l)).2.2.1 = some (h_sum (kT k 6) true 8 (true, t + 1, l)).2 := congrArg Prod.fst c4
            rw [q1] at e
            exact ⟨kT k 6, (true, t + 1, l), (Option.some.inj e).symm, by rw [z3]⟩
          · have q1 : (h_one (kT k 6) true (true, t, l)).2.2.2.1 = some (h_sum (kT k 6) true 8 (true, t1 + 1, l1)).2 := congrArg Prod.snd c4
            rw [q1] at e
            exact ⟨kT k 6, (true, t1 + 1, l1), (Option.some.inj e).symm, by rw [z5]⟩
      have bE := oE_b W (m := m) (v := v) (by omega) hv
      have hx1 := wS_r bE gz1.1 x1 w1
      have hx2 := wS_r bE gz1.2 x2 w2
      have cl3 : ∀ h, CM h (k, im, u, tp, tl, sc, kd) m v cs → ∃ g, jX dWo jN h g ∧ CM g (k, im, u, tp, tl, sc, kd) m v cs ∧ m_F_runOnce F 4 62 (nI ci) h = jbI (cDe F ((kT k 6).1 t) (iI x1) (iI x2) g) (fun r h => m_F_runOnce_176 F 4 62 (nI ci) r h) := by
        intro h Q
        obtain ⟨g, x, G, alt⟩ := cls h Q
        rcases alt with ⟨z, _⟩ | ⟨_, z, _⟩ | ⟨_, y1, y2, z1, z2, _, _, e⟩
        · rw [hc] at z; exact (bad _ z hh).elim
        · have := oFn_n z
          rw [hc] at this
          exact (bad _ this hf).elim
        · rw [hc] at z1 z2 e
          rw [w1] at z1
          rw [w2] at z2
          cases z1
          cases z2
          exact ⟨g, x, G, e⟩
      have rf3 : ∀ h, RM h (k, im, u, tp, tl, sc, kd) m v t → ∀ f tm nx tt, tt < tm → tm ≤ 20 → ∀ (s' : St) (r : Int32), Mst1 (mDe F ((kT k 6).1 t) (sml x1) (sml x2)) (k, im, u, tp, tl, sc, kd) (.int r) s' → (∀ {h : jH}, MJ h s' → ShM h) → ∃ h', MJ h' s' ∧ jX dRu jN h h' ∧ j_I h' 85 27 = nI m ∧ j_I h' 85 43 = nI (2400 + t) ∧ j_I h' 85 28 = (if (kT k 6).1 t = 20 ∧ ¬ r < nI 0 then r else iI v) ∧ m_M_runs_19 F (f + 1) 85 (nI (2400 + k 187)) (nI tm) nx (nI tt) h = if r < nI 0 then some (some (.int (nI 0)), h') else m_M_runs_19 F f 85 (nI (2400 + k 187)) (nI tm) nx (nI (tt + 1)) (j_sI h' 85 27 (nI (m + 1))) := by
        intro h R f tm nx tt h1 h2 s' r d S'
        obtain ⟨h4, e4, x4, R4, f1, f2, f3, f4, f5⟩ := ref h R
        rw [hh] at f3
        rw [hf] at f2
        have S : ShM h := R.1.1
        have S4 : ShM h4 := R4.1.1
        obtain ⟨h5, e5, M5, x5, p1, p2, p3⟩ := M_obr (F := F) S4 R4.1 vb f1 (x1 := x1) (x2 := x2) (fun z => by
          obtain ⟨d1, d2, z1, z2⟩ := vs z
          refine ⟨?_, hx1⟩
          rw [f4 d1 z1, gS1 d1 z1]
          rfl) (fun z => by
          obtain ⟨d1, d2, z1, z2⟩ := vs z
          refine ⟨?_, hx2⟩
          rw [f5 d2 z2, gS2 d2 z2]
          rfl) d S'
        have S5 := S' M5
        refine ⟨h5, M5, (x4.tr x5).up (fun a i z => by
          unfold dRu
          rcases z with z | z | z
          · exact Or.inr (Or.inl z)
          · exact Or.inl z
          · exact Or.inr (Or.inr ⟨z.1, Or.inr (Or.inl z.2)⟩)) (fun a i z => z.elim id id), by rw [p1]; exact R4.2.1, by rw [p2]; exact R4.2.2.2, by rw [p3, R4.2.2.1], ?_⟩
        rw [q_M_runs_19, if_pos (by rw [ft_lt (by omega) (by omega)]; exact h1), if_pos (sm_k85 S), bV_of e4, if_pos (sm_k85 S4), if_neg (by rw [f3]; decide), if_pos (sm_k85 S4), if_neg (by rw [f2]; decide), if_pos (sm_k85 S4), bI_of e5]
        by_cases n : r < nI 0
        · rw [if_pos n, if_pos n]
        · rw [if_neg n, if_neg n, if_pos (sm_k85 S5), if_pos (sm_k85 S5), p1, R4.2.1, show nI m + nI 1 = nI (m + 1) from by simp (disch := first | exact sR_rfl _ _ rfl | omega) only [ft_lit, ft_m1, ft_m2, ft_m3, ft_m5, ft_m6, ft_cl, ft_lt, ft_le, ft_eq, ft_mlt, ft_ltm, ft_mltm, ft_meq, ft_eqm, ft_meqm, ft_add, ft_mul, ft_sub, ft_nm, ft_m1p, ft_and, ft_or, ft_31, ft_shl, ft_shr, ft_bz, ft_z0, ft_z1, ft_z01, ft_bb, ft_zt, ft_zf, ft_or0, ft_rv, ft_rvr, ft_rf, ft_rfn, ft_bI, ft_bJ, ft_bV, ft_bR, ft_bRn, ft_isr, ft_isn, ft_ifn, ft_ifr, ft_ov, ft_ovn, ft_in, k_sI, n_sI, R_sI, J_sI, c_sI, z_sI, k_sJ, n_sJ, R_sJ, I_sJ, c_sJ, z_sJ, k_sR, n_sR, I_sR, J_sR, c_sR, z_sR, k_wI, n_wI, R_wI, J_wI, I_wIe, k_wJ, n_wJ, R_wJ, I_wJ, J_wJe, I_wIn, J_wJn, I_sIe, J_sJe, R_sRe, I_sIn, I_sIk, J_sJn, J_sJk, R_sRn, R_sRk, eq_self, if_true, if_false, ↓reduceIte, cond_true, cond_false, ↓cond_eq_ite, and_true, true_and, and_false, false_and, or_true, true_or, or_false, false_or, not_true_eq_false, not_false_eq_true, ft_ltT, ft_ltF, ft_eqT, ft_eqF, Bool.false_eq_true, Bool.true_eq_false, Bool.not_true, Bool.not_false, Bool.and_true, Bool.true_and, Bool.and_false, Bool.false_and, decide_true, decide_false, Nat.reduceAdd, Nat.reduceMul, Nat.reduceSub, Nat.reduceEqDiff, Nat.reduceLT, Nat.zero_add, Nat.add_zero, Nat.reduceDiv, Nat.reduceMod], show nI tt + nI 1 = nI (tt + 1) from by simp (disch := first | exact sR_rfl _ _ rfl | omega) only [ft_lit, ft_m1, ft_m2, ft_m3, ft_m5, ft_m6, ft_cl, ft_lt, ft_le, ft_eq, ft_mlt, ft_ltm, ft_mltm, ft_meq, ft_eqm, ft_meqm, ft_add, ft_mul, ft_sub, ft_nm, ft_m1p, ft_and, ft_or, ft_31, ft_shl, ft_shr, ft_bz, ft_z0, ft_z1, ft_z01, ft_bb, ft_zt, ft_zf, ft_or0, ft_rv, ft_rvr, ft_rf, ft_rfn, ft_bI, ft_bJ, ft_bV, ft_bR, ft_bRn, ft_isr, ft_isn, ft_ifn, ft_ifr, ft_ov, ft_ovn, ft_in, k_sI, n_sI, R_sI, J_sI, c_sI, z_sI, k_sJ, n_sJ, R_sJ, I_sJ, c_sJ, z_sJ, k_sR, n_sR, I_sR, J_sR, c_sR, z_sR, k_wI, n_wI, R_wI, J_wI, I_wIe, k_wJ, n_wJ, R_wJ, I_wJ, J_wJe, I_wIn, J_wJn, I_sIe, J_sJe, R_sRe, I_sIn, I_sIk, J_sJn, J_sJk, R_sRn, R_sRk, eq_self, if_true, if_false, ↓reduceIte, cond_true, cond_false, ↓cond_eq_ite, and_true, true_and, and_false, false_and, or_true, true_or, or_false, false_or, not_true_eq_false, not_false_eq_true, ft_ltT, ft_ltF, ft_eqT, ft_eqF, Bool.false_eq_true, Bool.true_eq_false, Bool.not_true, Bool.not_false, Bool.and_true, Bool.true_and, Bool.and_false, Bool.false_and, decide_true, decide_false, Nat.reduceAdd, Nat.reduceMul, Nat.reduceSub, Nat.reduceEqDiff, Nat.reduceLT, Nat.zero_add, Nat.add_zero, Nat.reduceDiv, Nat.reduceMod]]
      rcases De_vb (F := F) hF w vb hx1 hx2 with ⟨q, q', hq, hq', dm, dc⟩ | ⟨n, k', u', hn', W', ag, dm, dc⟩
      · right
        have mn : mI q < nI 0 := by rw [ft_mlt (by omega) (by omega)]; trivial
        have mn' : mI q' < nI 0 := by rw [ft_mlt (by omega) (by omega)]; trivial
        refine ⟨fun h R f tm nx tt h1 h2 => ?_, fun h Q => ?_⟩
        · obtain ⟨h', M', x', _, _, _, e⟩ := rf3 h R f tm nx tt h1 h2 _ _ dm SM
          rw [if_pos mn] at e
          exact ⟨h', e, M', x'⟩
        · obtain ⟨g, x, G, e⟩ := cl3 h Q
          obtain ⟨h', e', C', x'⟩ := dc g G.1
          refine ⟨h', ?_, C', (x.tr x').up (fun a i z => z.elim Or.inr Or.inl) (fun a i z => z.elim id id)⟩
          rw [e, bI_of e', q_F_runOnce_176, if_pos mn']
      · left
        have nn : ¬ nI n < nI 0 := by rw [ft_lt (by omega) (by omega)]; omega
        refine ⟨(k', im, u', tp, tl, sc, kd), m + 1, (if (kT k 6).1 t = 20 then (n : Int) else v), ⟨W', ag, rfl, rfl⟩, by omega, by split <;> omega, fun h R f tm nx tt h1 h2 => ?_, fun h Q => ?_⟩
        · obtain ⟨h', M', x', p1, p2, p3, e⟩ := rf3 h R f tm nx tt h1 h2 _ _ dm SM
          rw [if_neg nn] at e
          refine ⟨_, e, ⟨M'.f27 (jX.rf.sI ⟨rfl, Or.inl rfl⟩), I_sIe, ?_, by rw [I_sIk (by omega)]; exact p2⟩, x'.sI (Or.inr (Or.inr ⟨rfl, Or.inl rfl⟩))⟩
          rw [I_sIk (by omega), p3]
          by_cases z : (kT k 6).1 t = 20
          · rw [if_pos ⟨z, nn⟩, if_pos z, iI_n]
          · rw [if_neg (fun y => z y.1), if_neg z]
        · obtain ⟨g, x, G, e⟩ := cl3 h Q
          obtain ⟨g1, e1, C1, y1⟩ := dc g G.1
          have X1 : TX g1 62 true cs := G.2.1.rc (y1.up (fun a i z => Or.inl z) (fun _ _ z => z))
          have C1' : CI g1 k' im u' tp tl sc kd := C1
          obtain ⟨h', e', x', j1, j2⟩ := C_176 (F := F) C1'.1 X1 hci vb' hm hn' (by rw [y1.J (fun z => by unfold dDd at z; omega)]; exact G.2.2.1) (by rw [y1.J (fun z => by unfold dDd at z; omega)]; exact G.2.2.2)
          refine ⟨h', ?_, ⟨C1.wo x', X1.rc (d2 x'), j1, ?_⟩, ((x.tr y1).tr x').up (fun a i z => by
            unfold dOc
            rcases z with (z | z) | z
            · exact Or.inr z
            · exact Or.inl z
            · exact Or.inr z) (fun a i z => z.elim (fun z => z.elim id id) id)⟩
          · rw [e, bI_of e1, e']
          · rw [j2, hc]
            rfl
