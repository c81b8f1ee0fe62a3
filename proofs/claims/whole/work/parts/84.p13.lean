/-! CALL: feed -/
theorem nI_bv (y : Int32) : y = nI y.toBitVec.toNat := by
  apply Int32.toBitVec_inj.mp
  apply BitVec.eq_of_toNat_eq
  show _ = (BitVec.ofNat 32 y.toBitVec.toNat).toNat
  rw [BitVec.toNat_ofNat]
  exact (Nat.mod_eq_of_lt y.toBitVec.isLt).symm
theorem by_and (y : Int32) : y &&& nI 255 = nI (y.toBitVec.toNat % 256) := by
  have e : y &&& nI 255 = nI y.toBitVec.toNat &&& nI 255 := congrArg (· &&& nI 255) (nI_bv y)
  rw [e, ft_and, Nat.and_two_pow_sub_one_eq_mod _ 8]
theorem by_t8 (m : Nat) : (nI m).toInt8 = (nI (m % 256)).toInt8 := by
  apply Int8.toBitVec_inj.mp
  show (BitVec.ofNat 32 m).signExtend 8 = (BitVec.ofNat 32 (m % 256)).signExtend 8
  rw [BitVec.signExtend_eq_setWidth_of_le _ (by omega), BitVec.signExtend_eq_setWidth_of_le _ (by omega)]
  apply BitVec.eq_of_toNat_eq
  rw [BitVec.toNat_setWidth, BitVec.toNat_setWidth, BitVec.toNat_ofNat, BitVec.toNat_ofNat]
  omega
theorem by_s8 : ∀ b, b < 256 → (nI b).toInt8.toInt32 = sg b ∧ (sg b).toInt8.toInt32 = sg b := by decide +kernel
theorem by_sg (y : Int32) : y.toInt8.toInt32.toInt8.toInt32 = sg (y.toBitVec.toNat % 256) := by
  have e : y.toInt8 = (nI y.toBitVec.toNat).toInt8 := congrArg Int32.toInt8 (nI_bv y)
  rw [e, by_t8, (by_s8 _ (Nat.mod_lt _ (by omega))).1, (by_s8 _ (Nat.mod_lt _ (by omega))).2]
def by8 (x : Int32) (j : Nat) : Nat := (x >>> nI (24 - 8 * j)).toBitVec.toNat % 256
theorem by8_lt (x : Int32) (j : Nat) : by8 x j < 256 := Nat.mod_lt _ (by omega)
def fdT (tp : Nat → Nat) (tl : Nat) (ar : Nat → Int32) : Nat → Nat := fun i => if tl ≤ i ∧ i < tl + 20 then by8 (ar ((i - tl) / 4)) ((i - tl) % 4) else tp i
def dF : Nat → Nat → Prop := fun a i => (a = 85 ∧ i = 13) ∨ a = 92 ∨ a = 93
theorem M_feed_55 {F : Nat × Nat} {tp : Nat → Nat} {tl : Nat} {ar : Nat → Int32} (ht : tl + 20 ≤ 400) : ∀ d n f h, n + d = 20 → d < f → ShM h → j_I h 85 13 = nI tl → (∀ i, i < 5 → j_I h 93 i = ar i) → (∀ i, i < tl + n → j_I h 92 i = sg (fdT tp tl ar i)) → ∃ h', m_M_feed_55 F f 85 (nI n) h = some (some (.int (nI (tl + 20))), h') ∧ jX dF jN h h' ∧ j_I h' 85 13 = nI (tl + 20) ∧ ∀ i, i < tl + 20 → j_I h' 92 i = sg (fdT tp tl ar i)
  | 0, n, f + 1, h, e, _, S, i13, i93, V => by
    have : n = 20 := by omega
    subst this
    refine ⟨j_sI h 85 13 (nI (tl + 20)), ?_, jX.rf.sI (by unfold dF; omega), I_sIe, fun i hi => by rw [I_sIn (by omega)]; exact V i hi⟩
    rw [q_M_feed_55]
    simp (disch := first | exact sR_rfl _ _ rfl | omega) only [ft_lit, ft_m1, ft_m2, ft_m3, ft_m5, ft_m6, ft_cl, ft_lt, ft_le, ft_eq, ft_mlt, ft_ltm, ft_mltm, ft_meq, ft_eqm, ft_meqm, ft_add, ft_mul, ft_sub, ft_nm, ft_m1p, ft_and, ft_or, ft_31, ft_shl, ft_shr, ft_bz, ft_z0, ft_z1, ft_z01, ft_bb, ft_zt, ft_zf, ft_or0, ft_rv, ft_rvr, ft_rf, ft_rfn, ft_bI, ft_bJ, ft_bV, ft_bR, ft_bRn, ft_isr, ft_isn, ft_ifn, ft_ifr, ft_ov, ft_ovn, ft_in, k_sI, n_sI, R_sI, J_sI, c_sI, z_sI, k_sJ, n_sJ, R_sJ, I_sJ, c_sJ, z_sJ, k_sR, n_sR, I_sR, J_sR, c_sR, z_sR, k_wI, n_wI, R_wI, J_wI, I_wIe, k_wJ, n_wJ, R_wJ, I_wJ, J_wJe, I_wIn, J_wJn, I_sIe, J_sJe, R_sRe, I_sIn, I_sIk, J_sJn, J_sJk, R_sRn, R_sRk, eq_self, if_true, if_false, ↓reduceIte, cond_true, cond_false, ↓cond_eq_ite, and_true, true_and, and_false, false_and, or_true, true_or, or_false, false_or, not_true_eq_false, not_false_eq_true, ft_ltT, ft_ltF, ft_eqT, ft_eqF, Bool.false_eq_true, Bool.true_eq_false, Bool.not_true, Bool.not_false, Bool.and_true, Bool.true_and, Bool.and_false, Bool.false_and, decide_true, decide_false, Nat.reduceAdd, Nat.reduceMul, Nat.reduceSub, Nat.reduceEqDiff, Nat.reduceLT, Nat.zero_add, Nat.add_zero, Nat.reduceDiv, Nat.reduceMod, sm_k85 S, sm_R85_1 S, ↓sm_v85_1 S, sm_R85_2 S, ↓sm_v85_2 S, sm_R85_3 S, ↓sm_v85_3 S, sm_R85_4 S, ↓sm_v85_4 S, sm_R85_5 S, ↓sm_v85_5 S, sm_R85_7 S, ↓sm_v85_7 S, sm_R85_11 S, ↓sm_v85_11 S, sm_R85_12 S, ↓sm_v85_12 S, sm_R85_15 S, ↓sm_v85_15 S, sm_R85_16 S, ↓sm_v85_16 S, sm_R85_17 S, ↓sm_v85_17 S, sm_R85_26 S, ↓sm_v85_26 S, sm_R85_29 S, ↓sm_v85_29 S, sm_R85_30 S, ↓sm_v85_30 S, sm_R85_32 S, ↓sm_v85_32 S, sm_R85_33 S, ↓sm_v85_33 S, sm_R85_34 S, ↓sm_v85_34 S, sm_R85_35 S, ↓sm_v85_35 S, sm_R85_36 S, ↓sm_v85_36 S, sm_R85_37 S, ↓sm_v85_37 S, sm_R85_38 S, ↓sm_v85_38 S, sm_R85_40 S, ↓sm_v85_40 S, sm_R85_41 S, ↓sm_v85_41 S, sm_R85_48 S, ↓sm_v85_48 S, sm_R85_49 S, ↓sm_v85_49 S, sm_k86 S, sm_n86 S, sm_k87 S, sm_n87 S, sm_k88 S, sm_n88 S, sm_k89 S, sm_n89 S, sm_k90 S, sm_n90 S, sm_k91 S, sm_n91 S, sm_k92 S, sm_n92 S, sm_k93 S, sm_n93 S, sm_k94 S, sm_n94 S, sm_k95 S, sm_n95 S, sm_k96 S, sm_n96 S, sm_k97 S, sm_n97 S, sm_k98 S, sm_n98 S, sm_k99 S, sm_n99 S, sm_k100 S, sm_n100 S, sm_k101 S, sm_n101 S, sm_k102 S, sm_n102 S, sm_k103 S, sm_n103 S, sm_k104 S, sm_n104 S, sm_k105 S, sm_n105 S, sm_k106 S, sm_n106 S, sm_k107 S, sm_n107 S, sm_k108 S, sm_n108 S, sm_k109 S, sm_n109 S, sm_k110 S, sm_n110 S, i13]
  | d + 1, n, f + 1, h, e, hf, S, i13, i93, V => by
    have j1 := i93 (n / 4) (by omega)
    have es : (nI 24 - nI 8 * nI (n % 4)) &&& nI 31 = nI (24 - 8 * (n % 4)) := by
      rw [ft_mul, ft_sub (by omega), ft_and, ft_31 (by omega)]
    have ev := by_sg (ar (n / 4) >>> nI (24 - 8 * (n % 4)))
    have er : nI n - nI (n / 4 * 4) = nI (n % 4) := ft_rem2 n 4
    have x0 : jX dF jN h (j_sI h 92 (tl + n) (sg (by8 (ar (n / 4)) (n % 4)))) := jX.rf.sI (by unfold dF; omega)
    obtain ⟨h', e1, x1, p1, p2⟩ := M_feed_55 (F := F) (tp := tp) (ar := ar) ht d (n + 1) f (j_sI h 92 (tl + n) (sg (by8 (ar (n / 4)) (n % 4)))) (by omega) (by omega) (S.fr x0 (fun _ _ z => z)) (by rw [I_sIn (by omega)]; exact i13) (fun i hi => by rw [I_sIn (by omega)]; exact i93 i hi) (fun i hi => by
      by_cases q : i = tl + n
      · rw [q, I_sIe]
        unfold fdT
        rw [if_pos (by omega), Nat.add_sub_cancel_left]
      · rw [I_sIk q]; exact V i (by omega))
    refine ⟨h', ?_, x0.t x1, p1, p2⟩
    rw [← e1, q_M_feed_55, if_pos (by rw [ft_lt (by omega) (by omega)]; omega), if_pos (sm_k85 S), if_pos (sm_k85 S), if_pos (sm_k85 S), sm_v85_12 S (sR_rfl _ _ rfl), ft_div (by omega) (by omega) (by omega), if_pos ⟨Or.inl (sm_k93 S), by rw [ft_in (by omega), sm_n93 S]; omega⟩, sm_v85_11 S (sR_rfl _ _ rfl), i13, ft_add, if_pos ⟨sm_k92 S, by rw [ft_in (by omega), sm_n92 S]; omega⟩, ft_cl (by omega), ft_cl (by omega), j1, ft_mul (n / 4), er, es, ev, ft_add]
    rfl
def svJ (j : Nat) : Int32 := if j < 4 then nI (24 - 8 * j) else mI 7
theorem svJ_s : ∀ j, j < 4 → svJ j + mI 7 = svJ (j + 1) := by decide
theorem svJ_31 : ∀ j, j < 4 → svJ j &&& nI 31 = nI (24 - 8 * j) ∧ ¬ svJ j < nI 0 := by decide
def d60 : Nat → Nat → Prop := fun a i => (a = 60 ∧ i = 1) ∨ a = 61
theorem P_four_3 {F : Nat × Nat} {x : Int32} : ∀ d j f h l, j + d = 4 → d < f → l + d ≤ 400 → ShF h → j_I h 60 1 = nI l → ∃ h', m_P_addFour_3 F f 60 x (svJ j) h = some (none, h') ∧ jX d60 jN h h' ∧ j_I h' 60 1 = nI (l + d) ∧ (∀ i, i < l → j_I h' 61 i = j_I h 61 i) ∧ ∀ g, g < d → j_I h' 61 (l + g) = nI (by8 x (j + g))
  | 0, j, f + 1, h, l, e, _, _, S, i1 => by
    have : j = 4 := by omega
    subst this
    refine ⟨h, ?_, jX.rf, i1, fun i hi => rfl, fun g hg => absurd hg (by omega)⟩
    rw [q_P_addFour_3, if_pos (by decide)]
  | d + 1, j, f + 1, h, l, e, hf, hl, S, i1 => by
    obtain ⟨s1, s2⟩ := svJ_31 j (by omega)
    have s3 := svJ_s j (by omega)
    have ba : x >>> nI (24 - 8 * j) &&& nI 255 = nI (by8 x j) := by_and _
    have x0 : jX d60 jN h (j_sI (j_sI h 61 l (nI (by8 x j))) 60 1 (nI (l + 1))) := (jX.rf.sI (D := d60) (by unfold d60; omega)).sI (by unfold d60; omega)
    obtain ⟨h', e1, x1, p1, p2, p3⟩ := P_four_3 (F := F) (x := x) d (j + 1) f (j_sI (j_sI h 61 l (nI (by8 x j))) 60 1 (nI (l + 1))) (l + 1) (by omega) (by omega) (by omega) (S.fr x0 (fun _ _ z => z)) I_sIe
    refine ⟨h', ?_, x0.t x1, by rw [p1]; congr 1; omega, fun i hi => ?_, fun g hg => ?_⟩
    · rw [← e1, q_P_addFour_3, if_neg s2]
      simp (disch := first | exact sR_rfl _ _ rfl | omega) only [ft_lit, ft_m1, ft_m2, ft_m3, ft_m5, ft_m6, ft_cl, ft_lt, ft_le, ft_eq, ft_mlt, ft_ltm, ft_mltm, ft_meq, ft_eqm, ft_meqm, ft_add, ft_mul, ft_sub, ft_nm, ft_m1p, ft_and, ft_or, ft_31, ft_shl, ft_shr, ft_bz, ft_z0, ft_z1, ft_z01, ft_bb, ft_zt, ft_zf, ft_or0, ft_rv, ft_rvr, ft_rf, ft_rfn, ft_bI, ft_bJ, ft_bV, ft_bR, ft_bRn, ft_isr, ft_isn, ft_ifn, ft_ifr, ft_ov, ft_ovn, ft_in, k_sI, n_sI, R_sI, J_sI, c_sI, z_sI, k_sJ, n_sJ, R_sJ, I_sJ, c_sJ, z_sJ, k_sR, n_sR, I_sR, J_sR, c_sR, z_sR, k_wI, n_wI, R_wI, J_wI, I_wIe, k_wJ, n_wJ, R_wJ, I_wJ, J_wJe, I_wIn, J_wJn, I_sIe, J_sJe, R_sRe, I_sIn, I_sIk, J_sJn, J_sJk, R_sRn, R_sRk, eq_self, if_true, if_false, ↓reduceIte, cond_true, cond_false, ↓cond_eq_ite, and_true, true_and, and_false, false_and, or_true, true_or, or_false, false_or, not_true_eq_false, not_false_eq_true, ft_ltT, ft_ltF, ft_eqT, ft_eqF, Bool.false_eq_true, Bool.true_eq_false, Bool.not_true, Bool.not_false, Bool.and_true, Bool.true_and, Bool.and_false, Bool.false_and, decide_true, decide_false, Nat.reduceAdd, Nat.reduceMul, Nat.reduceSub, Nat.reduceEqDiff, Nat.reduceLT, Nat.zero_add, Nat.add_zero, Nat.reduceDiv, Nat.reduceMod, sf_k4 S, sf_R4_0 S, ↓sf_v4_0 S, sf_R4_1 S, ↓sf_v4_1 S, sf_R4_2 S, ↓sf_v4_2 S, sf_R4_3 S, ↓sf_v4_3 S, sf_R4_4 S, ↓sf_v4_4 S, sf_R4_5 S, ↓sf_v4_5 S, sf_R4_6 S, ↓sf_v4_6 S, sf_R4_7 S, ↓sf_v4_7 S, sf_R4_8 S, ↓sf_v4_8 S, sf_R4_9 S, ↓sf_v4_9 S, sf_R4_10 S, ↓sf_v4_10 S, sf_R4_11 S, ↓sf_v4_11 S, sf_R4_12 S, ↓sf_v4_12 S, sf_k5 S, sf_R5_0 S, ↓sf_v5_0 S, sf_R5_1 S, ↓sf_v5_1 S, sf_R5_3 S, ↓sf_v5_3 S, sf_R5_4 S, ↓sf_v5_4 S, sf_R5_5 S, ↓sf_v5_5 S, sf_R5_6 S, ↓sf_v5_6 S, sf_R5_7 S, ↓sf_v5_7 S, sf_R5_9 S, ↓sf_v5_9 S, sf_R5_10 S, ↓sf_v5_10 S, sf_R5_11 S, ↓sf_v5_11 S, sf_R5_12 S, ↓sf_v5_12 S, sf_k17 S, sf_R17_0 S, ↓sf_v17_0 S, sf_R17_1 S, ↓sf_v17_1 S, sf_R17_3 S, ↓sf_v17_3 S, sf_R17_4 S, ↓sf_v17_4 S, sf_R17_5 S, ↓sf_v17_5 S, sf_R17_6 S, ↓sf_v17_6 S, sf_R17_7 S, ↓sf_v17_7 S, sf_R17_9 S, ↓sf_v17_9 S, sf_R17_10 S, ↓sf_v17_10 S, sf_R17_11 S, ↓sf_v17_11 S, sf_R17_12 S, ↓sf_v17_12 S, sf_k29 S, sf_R29_0 S, ↓sf_v29_0 S, sf_R29_1 S, ↓sf_v29_1 S, sf_R29_3 S, ↓sf_v29_3 S, sf_R29_4 S, ↓sf_v29_4 S, sf_R29_5 S, ↓sf_v29_5 S, sf_R29_6 S, ↓sf_v29_6 S, sf_R29_7 S, ↓sf_v29_7 S, sf_R29_9 S, ↓sf_v29_9 S, sf_R29_10 S, ↓sf_v29_10 S, sf_R29_11 S, ↓sf_v29_11 S, sf_R29_12 S, ↓sf_v29_12 S, sf_k41 S, sf_n41 S, sf_k42 S, sf_R42_0 S, ↓sf_v42_0 S, sf_R42_1 S, ↓sf_v42_1 S, sf_R42_2 S, ↓sf_v42_2 S, sf_R42_3 S, ↓sf_v42_3 S, sf_R42_4 S, ↓sf_v42_4 S, sf_R42_5 S, ↓sf_v42_5 S, sf_R42_6 S, ↓sf_v42_6 S, sf_R42_7 S, ↓sf_v42_7 S, sf_k51 S, sf_R51_0 S, ↓sf_v51_0 S, sf_R51_1 S, ↓sf_v51_1 S, sf_R51_2 S, ↓sf_v51_2 S, sf_R51_3 S, ↓sf_v51_3 S, sf_R51_4 S, ↓sf_v51_4 S, sf_R51_5 S, ↓sf_v51_5 S, sf_R51_6 S, ↓sf_v51_6 S, sf_R51_7 S, ↓sf_v51_7 S, sf_k60 S, sf_R60_0 S, ↓sf_v60_0 S, sf_R60_3 S, ↓sf_v60_3 S, sf_R60_4 S, ↓sf_v60_4 S, sf_R60_5 S, ↓sf_v60_5 S, sf_R60_6 S, ↓sf_v60_6 S, sf_k72 S, sf_R72_0 S, ↓sf_v72_0 S, sf_R72_1 S, ↓sf_v72_1 S, sf_k75 S, sf_R75_0 S, ↓sf_v75_0 S, sf_R75_1 S, ↓sf_v75_1 S, sf_R75_2 S, ↓sf_v75_2 S, sf_R75_3 S, ↓sf_v75_3 S, sf_R75_4 S, ↓sf_v75_4 S, sf_k81 S, sf_n81 S, sf_k82 S, sf_n82 S, sf_k83 S, sf_n83 S, sf_k84 S, sf_n84 S, sf_k6 S, sf_n6 S, sf_k7 S, sf_n7 S, sf_k8 S, sf_n8 S, sf_k9 S, sf_n9 S, sf_k10 S, sf_n10 S, sf_k11 S, sf_n11 S, sf_k12 S, sf_n12 S, sf_k13 S, sf_n13 S, sf_k14 S, sf_n14 S, sf_k15 S, sf_n15 S, sf_k16 S, sf_n16 S, sf_k18 S, sf_n18 S, sf_k19 S, sf_n19 S, sf_k20 S, sf_n20 S, sf_k21 S, sf_n21 S, sf_k22 S, sf_n22 S, sf_k23 S, sf_n23 S, sf_k24 S, sf_n24 S, sf_k25 S, sf_n25 S, sf_k26 S, sf_n26 S, sf_k27 S, sf_n27 S, sf_k28 S, sf_n28 S, sf_k30 S, sf_n30 S, sf_k31 S, sf_n31 S, sf_k32 S, sf_n32 S, sf_k33 S, sf_n33 S, sf_k34 S, sf_n34 S, sf_k35 S, sf_n35 S, sf_k36 S, sf_n36 S, sf_k37 S, sf_n37 S, sf_k38 S, sf_n38 S, sf_k39 S, sf_n39 S, sf_k40 S, sf_n40 S, sf_k43 S, sf_n43 S, sf_k44 S, sf_n44 S, sf_k45 S, sf_n45 S, sf_k46 S, sf_n46 S, sf_k47 S, sf_n47 S, sf_k48 S, sf_n48 S, sf_k49 S, sf_n49 S, sf_k50 S, sf_n50 S, sf_k52 S, sf_n52 S, sf_k53 S, sf_n53 S, sf_k54 S, sf_n54 S, sf_k55 S, sf_n55 S, sf_k56 S, sf_n56 S, sf_k57 S, sf_n57 S, sf_k58 S, sf_n58 S, sf_k59 S, sf_n59 S, sf_k61 S, sf_n61 S, sf_k62 S, sf_R62_0 S, ↓sf_v62_0 S, sf_R62_1 S, ↓sf_v62_1 S, sf_R62_2 S, ↓sf_v62_2 S, sf_R62_3 S, ↓sf_v62_3 S, sf_R62_4 S, ↓sf_v62_4 S, sf_R62_5 S, ↓sf_v62_5 S, sf_k69 S, sf_n69 S, sf_k70 S, sf_n70 S, sf_k71 S, sf_n71 S, sf_k73 S, sf_n73 S, sf_k74 S, sf_n74 S, sf_k76 S, sf_n76 S, sf_k77 S, sf_n77 S, sf_k78 S, sf_n78 S, sf_k79 S, sf_n79 S, sf_k80 S, sf_n80 S, sf_k63 S, sf_n63 S, sf_k64 S, sf_n64 S, sf_k65 S, sf_n65 S, sf_k66 S, sf_n66 S, sf_k67 S, sf_n67 S, sf_k68 S, sf_n68 S, i1, s1, s3, ba]
    · rw [p2 i (by omega), I_sIn (by omega), I_sIk (by omega)]
    · rcases Nat.eq_zero_or_pos g with rfl | hp
      · rw [Nat.add_zero, Nat.add_zero, p2 l (by omega), I_sIn (by omega), I_sIe]
      · obtain ⟨g', rfl⟩ : ∃ g', g = g' + 1 := ⟨g - 1, by omega⟩
        have := p3 g' (by omega)
        have e1 : l + (g' + 1) = l + 1 + g' := by omega
        have e2 : j + (g' + 1) = j + 1 + g' := by omega
        rw [e1, e2]; exact this
theorem P_four {F : Nat × Nat} (hF : FF F) (x : Int32) {h : jH} {l : Nat} (hl : l + 4 ≤ 400) (S : ShF h) (i1 : j_I h 60 1 = nI l) : ∃ h', m_P_addFour F 60 x h = some (none, h') ∧ jX d60 jN h h' ∧ j_I h' 60 1 = nI (l + 4) ∧ (∀ i, i < l → j_I h' 61 i = j_I h 61 i) ∧ ∀ g, g < 4 → j_I h' 61 (l + g) = nI (by8 x g) := by
  have hF1 := hF.1
  obtain ⟨h', e, r1, r2, r3, r4⟩ := P_four_3 (F := F) (x := x) 4 0 F.1 h l rfl (by omega) (by omega) S i1
  exact ⟨h', e, r1, r2, r3, fun g hg => by have := r4 g hg; rwa [Nat.zero_add] at this⟩
def ar5 (a b c d e : Int32) : Nat → Int32 := fun i => if i = 0 then a else if i = 1 then b else if i = 2 then c else if i = 3 then d else e
theorem K_feed {F : Nat × Nat} (hF : FF F) {s : St} (w : WJ s) (a b c d e : Int32) : Alk (m_M_feed F 85 a b c d e) (m_F_feed F 4 a b c d e) s := by
  obtain ⟨k, im, u, tp, tl, sc, kd⟩ := s
  have hF1 := hF.1
  by_cases ht : 400 < tl
  · refine ⟨(mI 0), _, w, fun h M => ?_, fun h C => ?_⟩
    · have := (show MI h k im u tp tl sc kd from M).2.2.2.2.2.2.1.1.1
      omega
    · have := (show CI h k im u tp tl sc kd from C).2.2.2.2.2.1.2.1
      omega
  by_cases h20 : tl + 20 ≤ 400
  · refine ⟨(nI (tl + 20)), (k, im, u, fdT tp tl (ar5 a b c d e), tl + 20, sc, kd), w, fun h M => ?_, fun h C => ?_⟩
    · have M' : MI h k im u tp tl sc kd := M
      have S := M'.1
      have T := M'.2.2.2.2.2.2.1
      have i1 := T.2
      have x0 : jX dF jN h (j_sI (j_sI (j_sI (j_sI (j_sI h 93 0 a) 93 1 b) 93 2 c) 93 3 d) 93 4 e) := ((((jX.rf.sI (D := dF) (by unfold dF; omega)).sI (by unfold dF; omega)).sI (by unfold dF; omega)).sI (by unfold dF; omega)).sI (by unfold dF; omega)
      obtain ⟨h', e1, x1, p1, p2⟩ := M_feed_55 (F := F) (tp := tp) (ar := ar5 a b c d e) h20 20 0 F.1 (j_sI (j_sI (j_sI (j_sI (j_sI h 93 0 a) 93 1 b) 93 2 c) 93 3 d) 93 4 e) rfl (by omega) (S.fr x0 (fun _ _ z => z)) (by simp (disch := omega) only [I_sIn]; exact i1) (fun i hi => by
        obtain rfl | rfl | rfl | rfl | rfl : i = 0 ∨ i = 1 ∨ i = 2 ∨ i = 3 ∨ i = 4 := by omega
        · simp (disch := omega) only [I_sIk, I_sIe]; rfl
        · simp (disch := omega) only [I_sIk, I_sIe]; rfl
        · simp (disch := omega) only [I_sIk, I_sIe]; rfl
        · simp (disch := omega) only [I_sIk, I_sIe]; rfl
        · simp (disch := omega) only [I_sIk, I_sIe]; rfl) (fun i hi => by
        simp (disch := omega) only [I_sIn]
        rw [(T.1.2 i (by omega)).1]
        unfold fdT
        rw [if_neg (by omega)])
      have T' : MT h' (fdT tp tl (ar5 a b c d e)) (tl + 20) := ⟨⟨h20, fun i hi => ⟨p2 i hi, by
        unfold fdT
        split
        · exact by8_lt _ _
        · exact (T.1.2 i (by omega)).2⟩⟩, p1⟩
      have xx : jX (fun a i => (a = 85 ∧ i = 13) ∨ a = 92 ∨ a = 93) jN h h' := x0.t x1
      refine ⟨h', ?_, M'.tp (tp' := fdT tp tl (ar5 a b c d e)) (tl' := tl + 20) xx T', xx.up (fun a i d => by unfold dMM; omega) (fun _ _ z => z)⟩
      rw [← e1, q_M_feed]
      simp (disch := first | exact sR_rfl _ _ rfl | omega) only [ft_lit, ft_m1, ft_m2, ft_m3, ft_m5, ft_m6, ft_cl, ft_lt, ft_le, ft_eq, ft_mlt, ft_ltm, ft_mltm, ft_meq, ft_eqm, ft_meqm, ft_add, ft_mul, ft_sub, ft_nm, ft_m1p, ft_and, ft_or, ft_31, ft_shl, ft_shr, ft_bz, ft_z0, ft_z1, ft_z01, ft_bb, ft_zt, ft_zf, ft_or0, ft_rv, ft_rvr, ft_rf, ft_rfn, ft_bI, ft_bJ, ft_bV, ft_bR, ft_bRn, ft_isr, ft_isn, ft_ifn, ft_ifr, ft_ov, ft_ovn, ft_in, k_sI, n_sI, R_sI, J_sI, c_sI, z_sI, k_sJ, n_sJ, R_sJ, I_sJ, c_sJ, z_sJ, k_sR, n_sR, I_sR, J_sR, c_sR, z_sR, k_wI, n_wI, R_wI, J_wI, I_wIe, k_wJ, n_wJ, R_wJ, I_wJ, J_wJe, I_wIn, J_wJn, I_sIe, J_sJe, R_sRe, I_sIn, I_sIk, J_sJn, J_sJk, R_sRn, R_sRk, eq_self, if_true, if_false, ↓reduceIte, cond_true, cond_false, ↓cond_eq_ite, and_true, true_and, and_false, false_and, or_true, true_or, or_false, false_or, not_true_eq_false, not_false_eq_true, ft_ltT, ft_ltF, ft_eqT, ft_eqF, Bool.false_eq_true, Bool.true_eq_false, Bool.not_true, Bool.not_false, Bool.and_true, Bool.true_and, Bool.and_false, Bool.false_and, decide_true, decide_false, Nat.reduceAdd, Nat.reduceMul, Nat.reduceSub, Nat.reduceEqDiff, Nat.reduceLT, Nat.zero_add, Nat.add_zero, Nat.reduceDiv, Nat.reduceMod, sm_k85 S, sm_R85_1 S, ↓sm_v85_1 S, sm_R85_2 S, ↓sm_v85_2 S, sm_R85_3 S, ↓sm_v85_3 S, sm_R85_4 S, ↓sm_v85_4 S, sm_R85_5 S, ↓sm_v85_5 S, sm_R85_7 S, ↓sm_v85_7 S, sm_R85_11 S, ↓sm_v85_11 S, sm_R85_12 S, ↓sm_v85_12 S, sm_R85_15 S, ↓sm_v85_15 S, sm_R85_16 S, ↓sm_v85_16 S, sm_R85_17 S, ↓sm_v85_17 S, sm_R85_26 S, ↓sm_v85_26 S, sm_R85_29 S, ↓sm_v85_29 S, sm_R85_30 S, ↓sm_v85_30 S, sm_R85_32 S, ↓sm_v85_32 S, sm_R85_33 S, ↓sm_v85_33 S, sm_R85_34 S, ↓sm_v85_34 S, sm_R85_35 S, ↓sm_v85_35 S, sm_R85_36 S, ↓sm_v85_36 S, sm_R85_37 S, ↓sm_v85_37 S, sm_R85_38 S, ↓sm_v85_38 S, sm_R85_40 S, ↓sm_v85_40 S, sm_R85_41 S, ↓sm_v85_41 S, sm_R85_48 S, ↓sm_v85_48 S, sm_R85_49 S, ↓sm_v85_49 S, sm_k86 S, sm_n86 S, sm_k87 S, sm_n87 S, sm_k88 S, sm_n88 S, sm_k89 S, sm_n89 S, sm_k90 S, sm_n90 S, sm_k91 S, sm_n91 S, sm_k92 S, sm_n92 S, sm_k93 S, sm_n93 S, sm_k94 S, sm_n94 S, sm_k95 S, sm_n95 S, sm_k96 S, sm_n96 S, sm_k97 S, sm_n97 S, sm_k98 S, sm_n98 S, sm_k99 S, sm_n99 S, sm_k100 S, sm_n100 S, sm_k101 S, sm_n101 S, sm_k102 S, sm_n102 S, sm_k103 S, sm_n103 S, sm_k104 S, sm_n104 S, sm_k105 S, sm_n105 S, sm_k106 S, sm_n106 S, sm_k107 S, sm_n107 S, sm_k108 S, sm_n108 S, sm_k109 S, sm_n109 S, sm_k110 S, sm_n110 S, i1]
    · have C' : CI h k im u tp tl sc kd := C
      have S := C'.1
      have T := C'.2.2.2.2.2.1
      obtain ⟨h1, e1, x1, p1, q1, r1⟩ := P_four (F := F) hF a (h := h) (l := tl) (by omega) S T.1
      have S1 := S.fr x1 (fun _ _ z => z)
      obtain ⟨h2, e2, x2, p2, q2, r2⟩ := P_four (F := F) hF b (h := h1) (l := tl + 4) (by omega) S1 p1
      have S2 := S1.fr x2 (fun _ _ z => z)
      obtain ⟨h3, e3, x3, p3, q3, r3⟩ := P_four (F := F) hF c (h := h2) (l := tl + 4 + 4) (by omega) S2 p2
      have S3 := S2.fr x3 (fun _ _ z => z)
      obtain ⟨h4, e4, x4, p4, q4, r4⟩ := P_four (F := F) hF d (h := h3) (l := tl + 4 + 4 + 4) (by omega) S3 p3
      have S4 := S3.fr x4 (fun _ _ z => z)
      obtain ⟨h5, e5, x5, p5, q5, r5⟩ := P_four (F := F) hF e (h := h4) (l := tl + 4 + 4 + 4 + 4) (by omega) S4 p4
      have S5 := S4.fr x5 (fun _ _ z => z)
      have xx : jX (fun a i => (a = 60 ∧ i = 1) ∨ a = 61) jN h h5 := (((x1.t x2).t x3).t x4).t x5
      have p5' : j_I h5 60 1 = nI (tl + 20) := by rw [p5]
      have V : ∀ i, i < tl + 20 → j_I h5 61 i = nI (fdT tp tl (ar5 a b c d e) i) := by
        intro i hi
        unfold fdT
        by_cases c0 : i < tl
        · rw [if_neg (by omega), q5 i (by omega), q4 i (by omega), q3 i (by omega), q2 i (by omega), q1 i (by omega), (T.2.2 i c0).1]
        · obtain ⟨g, hg, rfl⟩ : ∃ g, g < 20 ∧ i = tl + g := ⟨i - tl, by omega, by omega⟩
          rw [if_pos (by omega), Nat.add_sub_cancel_left]
          by_cases c1 : g < 4
          · have z1 : g / 4 = 0 := by omega
            have z2 : g % 4 = g := by omega
            rw [z1, z2, q5 _ (by omega), q4 _ (by omega), q3 _ (by omega), q2 _ (by omega), r1 g c1]; rfl
          · by_cases c2 : g < 8
            · have z1 : g / 4 = 1 := by omega
              have z2 : g % 4 = g - 4 := by omega
              have z3 : tl + g = tl + 4 + (g - 4) := by omega
              rw [z1, z2, z3, q5 _ (by omega), q4 _ (by omega), q3 _ (by omega), r2 (g - 4) (by omega)]; rfl
            · by_cases c3 : g < 12
              · have z1 : g / 4 = 2 := by omega
                have z2 : g % 4 = g - 8 := by omega
                have z3 : tl + g = tl + 4 + 4 + (g - 8) := by omega
                rw [z1, z2, z3, q5 _ (by omega), q4 _ (by omega), r3 (g - 8) (by omega)]; rfl
              · by_cases c4 : g < 16
                · have z1 : g / 4 = 3 := by omega
                  have z2 : g % 4 = g - 12 := by omega
                  have z3 : tl + g = tl + 4 + 4 + 4 + (g - 12) := by omega
                  rw [z1, z2, z3, q5 _ (by omega), r4 (g - 12) (by omega)]; rfl
                · have z1 : g / 4 = 4 := by omega
                  have z2 : g % 4 = g - 16 := by omega
                  have z3 : tl + g = tl + 4 + 4 + 4 + 4 + (g - 16) := by omega
                  rw [z1, z2, z3, r5 (g - 16) (by omega)]; rfl
      have T' : TP h5 (fdT tp tl (ar5 a b c d e)) (tl + 20) := ⟨p5', h20, fun i hi => ⟨V i hi, by
        unfold fdT
        split
        · exact by8_lt _ _
        · exact (T.2.2 i (by omega)).2⟩⟩
      refine ⟨h5, ?_, C'.tp (tp' := fdT tp tl (ar5 a b c d e)) (tl' := tl + 20) xx T', jY.of xx (fun a i d => by omega) (fun _ _ z => nomatch (show False from z))⟩
      rw [q_F_feed, if_pos (sf_k4 S), sf_v4_6 S (sR_rfl _ _ rfl), if_pos (sf_k60 S), T.1, ft_add, if_neg (by rw [ft_lt (by omega) (by omega)]; omega), if_pos (sf_k4 S), sf_v4_6 S (sR_rfl _ _ rfl), if_pos (sf_k60 S), bV_of e1, if_pos (sf_k4 S1), sf_v4_6 S1 (sR_rfl _ _ rfl), if_pos (sf_k60 S1), bV_of e2, if_pos (sf_k4 S2), sf_v4_6 S2 (sR_rfl _ _ rfl), if_pos (sf_k60 S2), bV_of e3, if_pos (sf_k4 S3), sf_v4_6 S3 (sR_rfl _ _ rfl), if_pos (sf_k60 S3), bV_of e4, if_pos (sf_k4 S4), sf_v4_6 S4 (sR_rfl _ _ rfl), if_pos (sf_k60 S4), bV_of e5, if_pos (sf_k4 S5), sf_v4_6 S5 (sR_rfl _ _ rfl), if_pos (sf_k60 S5), p5']
  · refine ⟨(mI 0), _, w, Mst.id (fun h M => ?_), Cst.id (fun h C => ?_)⟩
    · have M' : MI h k im u tp tl sc kd := M
      rw [q_M_feed, if_pos (sm_k85 M'.1), M'.2.2.2.2.2.2.1.2, ft_add, if_pos (by rw [ft_lt (by omega) (by omega)]; omega)]
    · have C' : CI h k im u tp tl sc kd := C
      have S := C'.1
      have T := C'.2.2.2.2.2.1
      rw [q_F_feed, if_pos (sf_k4 S), sf_v4_6 S (sR_rfl _ _ rfl), if_pos (sf_k60 S), T.1, ft_add, if_pos (by rw [ft_lt (by omega) (by omega)]; omega)]
