/-! CALL: undo -/
theorem UC.last {n : Nat} {k : Nat → Nat} {e : Ue} : ∀ {u : List Ue}, UC n k (u ++ [e]) → UE1 e k n ∧ UC n e.1 u
  | [], U => ⟨U.1, True.intro⟩
  | [x], U => ⟨(UC.last (u := []) U.2).1, ⟨U.1, True.intro⟩⟩
  | x :: y :: u, U => by
    have := UC.last (u := y :: u) U.2
    exact ⟨this.1, ⟨U.1, this.2⟩⟩
/-- the moved part of another row -/
def bkK (k r : Nat → Nat) : Nat → Nat := fun i => if i < 105 then r i else k i
theorem M_undo_34 {F : Nat × Nat} {k : Nat → Nat} {e : Ue} {n : Nat} (hn : n ≤ 15) : ∀ d m f h, m + d = 105 → d < f → ShM h → KM h (fun i => if i < m then e.1 i else k i) → ((∀ i, i < 105 → j_I h 98 (106 * n + i) = nI (e.1 i)) ∧ j_I h 98 (106 * n + 105) = nI e.2.1) → ∃ h1, m_M_undo_34 F f 85 (nI (106 * n)) (nI m) h = m_M_good F 85 (nI e.2.1) h1 ∧ jX d87 jN h h1 ∧ KM h1 (bkK k e.1)
  | 0, m, f + 1, h, e0, _, S, K, V => by
    have : m = 105 := by omega
    subst this
    refine ⟨h, ?_, jX.rf, K⟩
    have v2 := V.2
    rw [q_M_undo_34, if_neg (by rw [ft_lt (by omega) (by omega)]; omega), if_pos (sm_k85 S), sm_v85_29 S (sR_rfl _ _ rfl), ft_add, if_pos ⟨Or.inl (sm_k98 S), by rw [ft_in (by omega), sm_n98 S]; omega⟩, if_pos (sm_k85 S), ft_cl (by omega), v2, bI_eta (M_good S _), M_good S]
  | d + 1, m, f + 1, h, e0, hf, S, K, V => by
    have x0 : jX d87 jN h (j_sI h 87 m (nI (e.1 m))) := jX.rf.sI rfl
    have v1 := V.1 m (by omega)
    have K1 : KM (j_sI h 87 m (nI (e.1 m))) (fun i => if i < m + 1 then e.1 i else k i) := by
      have K0 := K.set (i := m) (n := e.1 m) (by omega)
      have z : (fun i => if i < m + 1 then e.1 i else k i) = va_up (fun i => if i < m then e.1 i else k i) m (e.1 m) := by
        funext i
        by_cases q : i = m
        · rw [q, va_e, if_pos (by omega)]
        · rw [va_n q]
          by_cases q2 : i < m
          · rw [if_pos q2, if_pos (by omega)]
          · rw [if_neg q2, if_neg (by omega)]
      rw [z]; exact K0
    obtain ⟨h1, e1, x1, K2⟩ := M_undo_34 (F := F) (k := k) (e := e) hn d (m + 1) f (j_sI h 87 m (nI (e.1 m))) (by omega) (by omega) (S.fr x0 (fun _ _ z => z)) K1 ⟨fun i hi => by rw [I_sIn (by omega)]; exact V.1 i hi, by rw [I_sIn (by omega)]; exact V.2⟩
    refine ⟨h1, ?_, x0.t x1, K2⟩
    rw [← e1, q_M_undo_34]
    simp (disch := first | exact sR_rfl _ _ rfl | omega) only [ft_lit, ft_m1, ft_m2, ft_m3, ft_m5, ft_m6, ft_cl, ft_lt, ft_le, ft_eq, ft_mlt, ft_ltm, ft_mltm, ft_meq, ft_eqm, ft_meqm, ft_add, ft_mul, ft_sub, ft_nm, ft_m1p, ft_and, ft_or, ft_31, ft_shl, ft_shr, ft_bz, ft_z0, ft_z1, ft_z01, ft_bb, ft_zt, ft_zf, ft_or0, ft_rv, ft_rvr, ft_rf, ft_rfn, ft_bI, ft_bJ, ft_bV, ft_bR, ft_bRn, ft_isr, ft_isn, ft_ifn, ft_ifr, ft_ov, ft_ovn, ft_in, k_sI, n_sI, R_sI, J_sI, c_sI, z_sI, k_sJ, n_sJ, R_sJ, I_sJ, c_sJ, z_sJ, k_sR, n_sR, I_sR, J_sR, c_sR, z_sR, k_wI, n_wI, R_wI, J_wI, I_wIe, k_wJ, n_wJ, R_wJ, I_wJ, J_wJe, I_wIn, J_wJn, I_sIe, J_sJe, R_sRe, I_sIn, I_sIk, J_sJn, J_sJk, R_sRn, R_sRk, eq_self, if_true, if_false, ↓reduceIte, cond_true, cond_false, ↓cond_eq_ite, and_true, true_and, and_false, false_and, or_true, true_or, or_false, false_or, not_true_eq_false, not_false_eq_true, ft_ltT, ft_ltF, ft_eqT, ft_eqF, Bool.false_eq_true, Bool.true_eq_false, Bool.not_true, Bool.not_false, Bool.and_true, Bool.true_and, Bool.and_false, Bool.false_and, decide_true, decide_false, Nat.reduceAdd, Nat.reduceMul, Nat.reduceSub, Nat.reduceEqDiff, Nat.reduceLT, Nat.zero_add, Nat.add_zero, Nat.reduceDiv, Nat.reduceMod, sm_k85 S, sm_R85_1 S, ↓sm_v85_1 S, sm_R85_2 S, ↓sm_v85_2 S, sm_R85_3 S, ↓sm_v85_3 S, sm_R85_4 S, ↓sm_v85_4 S, sm_R85_5 S, ↓sm_v85_5 S, sm_R85_7 S, ↓sm_v85_7 S, sm_R85_11 S, ↓sm_v85_11 S, sm_R85_12 S, ↓sm_v85_12 S, sm_R85_15 S, ↓sm_v85_15 S, sm_R85_16 S, ↓sm_v85_16 S, sm_R85_17 S, ↓sm_v85_17 S, sm_R85_26 S, ↓sm_v85_26 S, sm_R85_29 S, ↓sm_v85_29 S, sm_R85_30 S, ↓sm_v85_30 S, sm_R85_32 S, ↓sm_v85_32 S, sm_R85_33 S, ↓sm_v85_33 S, sm_R85_34 S, ↓sm_v85_34 S, sm_R85_35 S, ↓sm_v85_35 S, sm_R85_36 S, ↓sm_v85_36 S, sm_R85_37 S, ↓sm_v85_37 S, sm_R85_38 S, ↓sm_v85_38 S, sm_R85_40 S, ↓sm_v85_40 S, sm_R85_41 S, ↓sm_v85_41 S, sm_R85_48 S, ↓sm_v85_48 S, sm_R85_49 S, ↓sm_v85_49 S, sm_k86 S, sm_n86 S, sm_k87 S, sm_n87 S, sm_k88 S, sm_n88 S, sm_k89 S, sm_n89 S, sm_k90 S, sm_n90 S, sm_k91 S, sm_n91 S, sm_k92 S, sm_n92 S, sm_k93 S, sm_n93 S, sm_k94 S, sm_n94 S, sm_k95 S, sm_n95 S, sm_k96 S, sm_n96 S, sm_k97 S, sm_n97 S, sm_k98 S, sm_n98 S, sm_k99 S, sm_n99 S, sm_k100 S, sm_n100 S, sm_k101 S, sm_n101 S, sm_k102 S, sm_n102 S, sm_k103 S, sm_n103 S, sm_k104 S, sm_n104 S, sm_k105 S, sm_n105 S, sm_k106 S, sm_n106 S, sm_k107 S, sm_n107 S, sm_k108 S, sm_n108 S, sm_k109 S, sm_n109 S, sm_k110 S, sm_n110 S, v1]
def shR (k r : Nat → Nat) (v : Nat) : Nat → Nat := fun i => if 4 + 25 * v ≤ i ∧ i < 4 + 25 * v + 25 then r i else k i
theorem shR_ag (k r : Nat → Nat) (v : Nat) : kAg v k (shR k r v) := fun i h => by unfold shR; rw [if_neg h]
theorem shR_sh (k r : Nat → Nat) (v : Nat) : ft_bs (ft_sh (shR k r v) v) 25 = ft_bs (ft_sh r v) 25 := ft_bs_e 25 (fun i hi => by unfold ft_sh shR; rw [if_pos (by omega)])
theorem shR_mr (k r : Nat → Nat) (v : Nat) : mrk (shR k r v) v = mrk r v := ft_bs_e 50 (fun i hi => by show (shR k r v (4 + 25 * v + i / 2) - 1).testBit _ = (r (4 + 25 * v + i / 2) - 1).testBit _; unfold shR; rw [if_pos (by omega)])
def bk2 (k r : Nat → Nat) (oth : Nat) : Nat → Nat := if oth = 0 then k else shR k r (oth - 1)
def bk1 (k r : Nat → Nat) (one : Nat) : Nat → Nat := if one = 0 then k else shR (va_up k (one - 1) (r (one - 1))) r (one - 1)
theorem D_back2 {F : Nat × Nat} {h : jH} (S : ShF h) {k : Nat → Nat} (I : LI h 5 k) (bm : k 177 ≤ 4) {e : Ue} {p : Nat} (hp : p < 16) (np : j_I h 42 8 = nI p) (E : CE h 42 p e) (ho : e.2.2.2 ≤ k 177) : ∃ h', m_D_takeBack_134 F 42 5 h = some (some (.int (nI e.2.1)), h') ∧ jX dN jN h h' ∧ LI h' 5 (bk2 k e.1 e.2.2.2) := by
  obtain ⟨e1, e2, e3, e4, e5⟩ := E
  replace e1 : j_I h 43 p = nI e.2.1 := e1
  replace e3 : j_I h 48 p = iV e.2.2.2 := e3
  have i2 : j_I h 5 2 = nI (k 177) := I.2.2.1
  unfold bk2
  by_cases c : e.2.2.2 = 0
  · rw [if_pos c]
    rw [c] at e3
    have z : iV 0 = mI 0 := rfl
    rw [z] at e3
    have hw : ∀ ff : Int32 → jH → Option jO, jbI (m_L_hasWalker F 5 (j_I h 48 (j_I h 42 8).toNatClampNeg) h) ff = ff (nI 0) h := fun ff => by
      rw [np, ft_cl (by omega), e3]; exact bI_of (U_hasWm (by omega)) ff
    refine ⟨h, ?_, jX.rf, I⟩
    rw [q_D_takeBack_134]
    simp (disch := first | exact sR_rfl _ _ rfl | omega) only [sf_k42 S, np, if_true, ↓sf_v42_5 S, ↓hw, ft_lit, ft_m1, ft_m2, ft_m3, ft_m5, ft_m6, ft_cl, ft_lt, ft_le, ft_eq, ft_mlt, ft_ltm, ft_mltm, ft_meq, ft_eqm, ft_meqm, ft_add, ft_mul, ft_sub, ft_nm, ft_m1p, ft_and, ft_or, ft_31, ft_shl, ft_shr, ft_bz, ft_z0, ft_z1, ft_z01, ft_bb, ft_zt, ft_zf, ft_or0, ft_rv, ft_rvr, ft_rf, ft_rfn, ft_bI, ft_bJ, ft_bV, ft_bR, ft_bRn, ft_isr, ft_isn, ft_ifn, ft_ifr, ft_ov, ft_ovn, ft_in, k_sI, n_sI, R_sI, J_sI, c_sI, z_sI, k_sJ, n_sJ, R_sJ, I_sJ, c_sJ, z_sJ, k_sR, n_sR, I_sR, J_sR, c_sR, z_sR, k_wI, n_wI, R_wI, J_wI, I_wIe, k_wJ, n_wJ, R_wJ, I_wJ, J_wJe, I_wIn, J_wJn, I_sIe, J_sJe, R_sRe, I_sIn, I_sIk, J_sJn, J_sJk, R_sRn, R_sRk, eq_self, if_true, if_false, ↓reduceIte, cond_true, cond_false, ↓cond_eq_ite, and_true, true_and, and_false, false_and, or_true, true_or, or_false, false_or, not_true_eq_false, not_false_eq_true, ft_ltT, ft_ltF, ft_eqT, ft_eqF, Bool.false_eq_true, Bool.true_eq_false, Bool.not_true, Bool.not_false, Bool.and_true, Bool.true_and, Bool.and_false, Bool.false_and, decide_true, decide_false, Nat.reduceAdd, Nat.reduceMul, Nat.reduceSub, Nat.reduceEqDiff, Nat.reduceLT, Nat.zero_add, Nat.add_zero, Nat.reduceDiv, Nat.reduceMod, sf_k4 S, sf_R4_0 S, ↓sf_v4_0 S, sf_R4_1 S, ↓sf_v4_1 S, sf_R4_2 S, ↓sf_v4_2 S, sf_R4_3 S, ↓sf_v4_3 S, sf_R4_4 S, ↓sf_v4_4 S, sf_R4_5 S, ↓sf_v4_5 S, sf_R4_6 S, ↓sf_v4_6 S, sf_R4_7 S, ↓sf_v4_7 S, sf_R4_8 S, ↓sf_v4_8 S, sf_R4_9 S, ↓sf_v4_9 S, sf_R4_10 S, ↓sf_v4_10 S, sf_R4_11 S, ↓sf_v4_11 S, sf_R4_12 S, ↓sf_v4_12 S, sf_k5 S, sf_R5_0 S, ↓sf_v5_0 S, sf_R5_1 S, ↓sf_v5_1 S, sf_R5_3 S, ↓sf_v5_3 S, sf_R5_4 S, ↓sf_v5_4 S, sf_R5_5 S, ↓sf_v5_5 S, sf_R5_6 S, ↓sf_v5_6 S, sf_R5_7 S, ↓sf_v5_7 S, sf_R5_9 S, ↓sf_v5_9 S, sf_R5_10 S, ↓sf_v5_10 S, sf_R5_11 S, ↓sf_v5_11 S, sf_R5_12 S, ↓sf_v5_12 S, sf_k17 S, sf_R17_0 S, ↓sf_v17_0 S, sf_R17_1 S, ↓sf_v17_1 S, sf_R17_3 S, ↓sf_v17_3 S, sf_R17_4 S, ↓sf_v17_4 S, sf_R17_5 S, ↓sf_v17_5 S, sf_R17_6 S, ↓sf_v17_6 S, sf_R17_7 S, ↓sf_v17_7 S, sf_R17_9 S, ↓sf_v17_9 S, sf_R17_10 S, ↓sf_v17_10 S, sf_R17_11 S, ↓sf_v17_11 S, sf_R17_12 S, ↓sf_v17_12 S, sf_k29 S, sf_R29_0 S, ↓sf_v29_0 S, sf_R29_1 S, ↓sf_v29_1 S, sf_R29_3 S, ↓sf_v29_3 S, sf_R29_4 S, ↓sf_v29_4 S, sf_R29_5 S, ↓sf_v29_5 S, sf_R29_6 S, ↓sf_v29_6 S, sf_R29_7 S, ↓sf_v29_7 S, sf_R29_9 S, ↓sf_v29_9 S, sf_R29_10 S, ↓sf_v29_10 S, sf_R29_11 S, ↓sf_v29_11 S, sf_R29_12 S, ↓sf_v29_12 S, sf_k41 S, sf_n41 S, sf_k42 S, sf_R42_0 S, ↓sf_v42_0 S, sf_R42_1 S, ↓sf_v42_1 S, sf_R42_2 S, ↓sf_v42_2 S, sf_R42_3 S, ↓sf_v42_3 S, sf_R42_4 S, ↓sf_v42_4 S, sf_R42_5 S, ↓sf_v42_5 S, sf_R42_6 S, ↓sf_v42_6 S, sf_R42_7 S, ↓sf_v42_7 S, sf_k51 S, sf_R51_0 S, ↓sf_v51_0 S, sf_R51_1 S, ↓sf_v51_1 S, sf_R51_2 S, ↓sf_v51_2 S, sf_R51_3 S, ↓sf_v51_3 S, sf_R51_4 S, ↓sf_v51_4 S, sf_R51_5 S, ↓sf_v51_5 S, sf_R51_6 S, ↓sf_v51_6 S, sf_R51_7 S, ↓sf_v51_7 S, sf_k60 S, sf_R60_0 S, ↓sf_v60_0 S, sf_R60_3 S, ↓sf_v60_3 S, sf_R60_4 S, ↓sf_v60_4 S, sf_R60_5 S, ↓sf_v60_5 S, sf_R60_6 S, ↓sf_v60_6 S, sf_k72 S, sf_R72_0 S, ↓sf_v72_0 S, sf_R72_1 S, ↓sf_v72_1 S, sf_k75 S, sf_R75_0 S, ↓sf_v75_0 S, sf_R75_1 S, ↓sf_v75_1 S, sf_R75_2 S, ↓sf_v75_2 S, sf_R75_3 S, ↓sf_v75_3 S, sf_R75_4 S, ↓sf_v75_4 S, sf_k81 S, sf_n81 S, sf_k82 S, sf_n82 S, sf_k83 S, sf_n83 S, sf_k84 S, sf_n84 S, sf_k6 S, sf_n6 S, sf_k7 S, sf_n7 S, sf_k8 S, sf_n8 S, sf_k9 S, sf_n9 S, sf_k10 S, sf_n10 S, sf_k11 S, sf_n11 S, sf_k12 S, sf_n12 S, sf_k13 S, sf_n13 S, sf_k14 S, sf_n14 S, sf_k15 S, sf_n15 S, sf_k16 S, sf_n16 S, sf_k18 S, sf_n18 S, sf_k19 S, sf_n19 S, sf_k20 S, sf_n20 S, sf_k21 S, sf_n21 S, sf_k22 S, sf_n22 S, sf_k23 S, sf_n23 S, sf_k24 S, sf_n24 S, sf_k25 S, sf_n25 S, sf_k26 S, sf_n26 S, sf_k27 S, sf_n27 S, sf_k28 S, sf_n28 S, sf_k30 S, sf_n30 S, sf_k31 S, sf_n31 S, sf_k32 S, sf_n32 S, sf_k33 S, sf_n33 S, sf_k34 S, sf_n34 S, sf_k35 S, sf_n35 S, sf_k36 S, sf_n36 S, sf_k37 S, sf_n37 S, sf_k38 S, sf_n38 S, sf_k39 S, sf_n39 S, sf_k40 S, sf_n40 S, sf_k43 S, sf_n43 S, sf_k44 S, sf_n44 S, sf_k45 S, sf_n45 S, sf_k46 S, sf_n46 S, sf_k47 S, sf_n47 S, sf_k48 S, sf_n48 S, sf_k49 S, sf_n49 S, sf_k50 S, sf_n50 S, sf_k52 S, sf_n52 S, sf_k53 S, sf_n53 S, sf_k54 S, sf_n54 S, sf_k55 S, sf_n55 S, sf_k56 S, sf_n56 S, sf_k57 S, sf_n57 S, sf_k58 S, sf_n58 S, sf_k59 S, sf_n59 S, sf_k61 S, sf_n61 S, sf_k62 S, sf_R62_0 S, ↓sf_v62_0 S, sf_R62_1 S, ↓sf_v62_1 S, sf_R62_2 S, ↓sf_v62_2 S, sf_R62_3 S, ↓sf_v62_3 S, sf_R62_4 S, ↓sf_v62_4 S, sf_R62_5 S, ↓sf_v62_5 S, sf_k69 S, sf_n69 S, sf_k70 S, sf_n70 S, sf_k71 S, sf_n71 S, sf_k73 S, sf_n73 S, sf_k74 S, sf_n74 S, sf_k76 S, sf_n76 S, sf_k77 S, sf_n77 S, sf_k78 S, sf_n78 S, sf_k79 S, sf_n79 S, sf_k80 S, sf_n80 S, sf_k63 S, sf_n63 S, sf_k64 S, sf_n64 S, sf_k65 S, sf_n65 S, sf_k66 S, sf_n66 S, sf_k67 S, sf_n67 S, sf_k68 S, sf_n68 S, e1]
  · rw [if_neg c]
    obtain ⟨v, hv⟩ : ∃ v, e.2.2.2 = v + 1 := ⟨e.2.2.2 - 1, by omega⟩
    rw [hv, Nat.add_sub_cancel]
    rw [hv, iV_s] at e3
    obtain ⟨s1, s2⟩ := e5 v hv
    replace s1 : j_I h 49 p = nI (ft_bs (ft_sh e.1 v) 25) := s1
    replace s2 : j_J h 50 p = lN (mrk e.1 v) := s2
    have z := U_hasWn (F := F) (h := h) (o := 5) (n := v) (m := k 177) (sf_k5 S) i2 (by omega) (by omega)
    rw [decide_eq_true (by omega : v < k 177)] at z
    have hw : ∀ ff : Int32 → jH → Option jO, jbI (m_L_hasWalker F 5 (j_I h 48 (j_I h 42 8).toNatClampNeg) h) ff = ff (nI 1) h := fun ff => by
      rw [np, ft_cl (by omega), e3]; exact bI_of z ff
    have x : jX (dS 5 v) jN h (j_sJ (j_sI h 11 v (nI (ft_bs (ft_sh e.1 v) 25))) 12 v (lN (mrk e.1 v))) := (jX.rf.sI (D := dS 5 v) (by unfold dS; omega)).sJ (by unfold dS; omega)
    refine ⟨_, ?_, x.up (fun a i d => by unfold dS at d; unfold dN; omega) (fun _ _ z => z), I.sheet bm (by omega) (shR_ag k e.1 v) x (by rw [shR_sh]; exact (I_sJ _ _ _ _ _ _).trans I_sIe) (by rw [shR_mr]; exact J_sJe)⟩
    rw [q_D_takeBack_134]
    simp (disch := first | exact sR_rfl _ _ rfl | omega) only [sf_k42 S, np, if_true, ↓sf_v42_5 S, ↓hw, ft_lit, ft_m1, ft_m2, ft_m3, ft_m5, ft_m6, ft_cl, ft_lt, ft_le, ft_eq, ft_mlt, ft_ltm, ft_mltm, ft_meq, ft_eqm, ft_meqm, ft_add, ft_mul, ft_sub, ft_nm, ft_m1p, ft_and, ft_or, ft_31, ft_shl, ft_shr, ft_bz, ft_z0, ft_z1, ft_z01, ft_bb, ft_zt, ft_zf, ft_or0, ft_rv, ft_rvr, ft_rf, ft_rfn, ft_bI, ft_bJ, ft_bV, ft_bR, ft_bRn, ft_isr, ft_isn, ft_ifn, ft_ifr, ft_ov, ft_ovn, ft_in, k_sI, n_sI, R_sI, J_sI, c_sI, z_sI, k_sJ, n_sJ, R_sJ, I_sJ, c_sJ, z_sJ, k_sR, n_sR, I_sR, J_sR, c_sR, z_sR, k_wI, n_wI, R_wI, J_wI, I_wIe, k_wJ, n_wJ, R_wJ, I_wJ, J_wJe, I_wIn, J_wJn, I_sIe, J_sJe, R_sRe, I_sIn, I_sIk, J_sJn, J_sJk, R_sRn, R_sRk, eq_self, if_true, if_false, ↓reduceIte, cond_true, cond_false, ↓cond_eq_ite, and_true, true_and, and_false, false_and, or_true, true_or, or_false, false_or, not_true_eq_false, not_false_eq_true, ft_ltT, ft_ltF, ft_eqT, ft_eqF, Bool.false_eq_true, Bool.true_eq_false, Bool.not_true, Bool.not_false, Bool.and_true, Bool.true_and, Bool.and_false, Bool.false_and, decide_true, decide_false, Nat.reduceAdd, Nat.reduceMul, Nat.reduceSub, Nat.reduceEqDiff, Nat.reduceLT, Nat.zero_add, Nat.add_zero, Nat.reduceDiv, Nat.reduceMod, sf_k4 S, sf_R4_0 S, ↓sf_v4_0 S, sf_R4_1 S, ↓sf_v4_1 S, sf_R4_2 S, ↓sf_v4_2 S, sf_R4_3 S, ↓sf_v4_3 S, sf_R4_4 S, ↓sf_v4_4 S, sf_R4_5 S, ↓sf_v4_5 S, sf_R4_6 S, ↓sf_v4_6 S, sf_R4_7 S, ↓sf_v4_7 S, sf_R4_8 S, ↓sf_v4_8 S, sf_R4_9 S, ↓sf_v4_9 S, sf_R4_10 S, ↓sf_v4_10 S, sf_R4_11 S, ↓sf_v4_11 S, sf_R4_12 S, ↓sf_v4_12 S, sf_k5 S, sf_R5_0 S, ↓sf_v5_0 S, sf_R5_1 S, ↓sf_v5_1 S, sf_R5_3 S, ↓sf_v5_3 S, sf_R5_4 S, ↓sf_v5_4 S, sf_R5_5 S, ↓sf_v5_5 S, sf_R5_6 S, ↓sf_v5_6 S, sf_R5_7 S, ↓sf_v5_7 S, sf_R5_9 S, ↓sf_v5_9 S, sf_R5_10 S, ↓sf_v5_10 S, sf_R5_11 S, ↓sf_v5_11 S, sf_R5_12 S, ↓sf_v5_12 S, sf_k17 S, sf_R17_0 S, ↓sf_v17_0 S, sf_R17_1 S, ↓sf_v17_1 S, sf_R17_3 S, ↓sf_v17_3 S, sf_R17_4 S, ↓sf_v17_4 S, sf_R17_5 S, ↓sf_v17_5 S, sf_R17_6 S, ↓sf_v17_6 S, sf_R17_7 S, ↓sf_v17_7 S, sf_R17_9 S, ↓sf_v17_9 S, sf_R17_10 S, ↓sf_v17_10 S, sf_R17_11 S, ↓sf_v17_11 S, sf_R17_12 S, ↓sf_v17_12 S, sf_k29 S, sf_R29_0 S, ↓sf_v29_0 S, sf_R29_1 S, ↓sf_v29_1 S, sf_R29_3 S, ↓sf_v29_3 S, sf_R29_4 S, ↓sf_v29_4 S, sf_R29_5 S, ↓sf_v29_5 S, sf_R29_6 S, ↓sf_v29_6 S, sf_R29_7 S, ↓sf_v29_7 S, sf_R29_9 S, ↓sf_v29_9 S, sf_R29_10 S, ↓sf_v29_10 S, sf_R29_11 S, ↓sf_v29_11 S, sf_R29_12 S, ↓sf_v29_12 S, sf_k41 S, sf_n41 S, sf_k42 S, sf_R42_0 S, ↓sf_v42_0 S, sf_R42_1 S, ↓sf_v42_1 S, sf_R42_2 S, ↓sf_v42_2 S, sf_R42_3 S, ↓sf_v42_3 S, sf_R42_4 S, ↓sf_v42_4 S, sf_R42_5 S, ↓sf_v42_5 S, sf_R42_6 S, ↓sf_v42_6 S, sf_R42_7 S, ↓sf_v42_7 S, sf_k51 S, sf_R51_0 S, ↓sf_v51_0 S, sf_R51_1 S, ↓sf_v51_1 S, sf_R51_2 S, ↓sf_v51_2 S, sf_R51_3 S, ↓sf_v51_3 S, sf_R51_4 S, ↓sf_v51_4 S, sf_R51_5 S, ↓sf_v51_5 S, sf_R51_6 S, ↓sf_v51_6 S, sf_R51_7 S, ↓sf_v51_7 S, sf_k60 S, sf_R60_0 S, ↓sf_v60_0 S, sf_R60_3 S, ↓sf_v60_3 S, sf_R60_4 S, ↓sf_v60_4 S, sf_R60_5 S, ↓sf_v60_5 S, sf_R60_6 S, ↓sf_v60_6 S, sf_k72 S, sf_R72_0 S, ↓sf_v72_0 S, sf_R72_1 S, ↓sf_v72_1 S, sf_k75 S, sf_R75_0 S, ↓sf_v75_0 S, sf_R75_1 S, ↓sf_v75_1 S, sf_R75_2 S, ↓sf_v75_2 S, sf_R75_3 S, ↓sf_v75_3 S, sf_R75_4 S, ↓sf_v75_4 S, sf_k81 S, sf_n81 S, sf_k82 S, sf_n82 S, sf_k83 S, sf_n83 S, sf_k84 S, sf_n84 S, sf_k6 S, sf_n6 S, sf_k7 S, sf_n7 S, sf_k8 S, sf_n8 S, sf_k9 S, sf_n9 S, sf_k10 S, sf_n10 S, sf_k11 S, sf_n11 S, sf_k12 S, sf_n12 S, sf_k13 S, sf_n13 S, sf_k14 S, sf_n14 S, sf_k15 S, sf_n15 S, sf_k16 S, sf_n16 S, sf_k18 S, sf_n18 S, sf_k19 S, sf_n19 S, sf_k20 S, sf_n20 S, sf_k21 S, sf_n21 S, sf_k22 S, sf_n22 S, sf_k23 S, sf_n23 S, sf_k24 S, sf_n24 S, sf_k25 S, sf_n25 S, sf_k26 S, sf_n26 S, sf_k27 S, sf_n27 S, sf_k28 S, sf_n28 S, sf_k30 S, sf_n30 S, sf_k31 S, sf_n31 S, sf_k32 S, sf_n32 S, sf_k33 S, sf_n33 S, sf_k34 S, sf_n34 S, sf_k35 S, sf_n35 S, sf_k36 S, sf_n36 S, sf_k37 S, sf_n37 S, sf_k38 S, sf_n38 S, sf_k39 S, sf_n39 S, sf_k40 S, sf_n40 S, sf_k43 S, sf_n43 S, sf_k44 S, sf_n44 S, sf_k45 S, sf_n45 S, sf_k46 S, sf_n46 S, sf_k47 S, sf_n47 S, sf_k48 S, sf_n48 S, sf_k49 S, sf_n49 S, sf_k50 S, sf_n50 S, sf_k52 S, sf_n52 S, sf_k53 S, sf_n53 S, sf_k54 S, sf_n54 S, sf_k55 S, sf_n55 S, sf_k56 S, sf_n56 S, sf_k57 S, sf_n57 S, sf_k58 S, sf_n58 S, sf_k59 S, sf_n59 S, sf_k61 S, sf_n61 S, sf_k62 S, sf_R62_0 S, ↓sf_v62_0 S, sf_R62_1 S, ↓sf_v62_1 S, sf_R62_2 S, ↓sf_v62_2 S, sf_R62_3 S, ↓sf_v62_3 S, sf_R62_4 S, ↓sf_v62_4 S, sf_R62_5 S, ↓sf_v62_5 S, sf_k69 S, sf_n69 S, sf_k70 S, sf_n70 S, sf_k71 S, sf_n71 S, sf_k73 S, sf_n73 S, sf_k74 S, sf_n74 S, sf_k76 S, sf_n76 S, sf_k77 S, sf_n77 S, sf_k78 S, sf_n78 S, sf_k79 S, sf_n79 S, sf_k80 S, sf_n80 S, sf_k63 S, sf_n63 S, sf_k64 S, sf_n64 S, sf_k65 S, sf_n65 S, sf_k66 S, sf_n66 S, sf_k67 S, sf_n67 S, sf_k68 S, sf_n68 S, e1, e3, s1, s2]
theorem D_back1 {F : Nat × Nat} {h : jH} (S : ShF h) {k : Nat → Nat} (I : LI h 5 k) (bm : k 177 ≤ 4) {e : Ue} {p : Nat} (hp : p < 16) (np : j_I h 42 8 = nI p) (E : CE h 42 p e) (hn : e.2.2.1 ≤ k 177) (ho : e.2.2.2 ≤ k 177) : ∃ h', m_D_takeBack_49 F 42 5 h = some (some (.int (nI e.2.1)), h') ∧ jX dN jN h h' ∧ LI h' 5 (bk2 (bk1 k e.1 e.2.2.1) e.1 e.2.2.2) := by
  obtain ⟨e1, e2, e3, e4, e5⟩ := id E
  replace e2 : j_I h 44 p = iV e.2.2.1 := e2
  have i2 : j_I h 5 2 = nI (k 177) := I.2.2.1
  by_cases c : e.2.2.1 = 0
  · have zk : bk1 k e.1 e.2.2.1 = k := by unfold bk1; rw [if_pos c]
    rw [zk]
    rw [c] at e2
    have z : iV 0 = mI 0 := rfl
    rw [z] at e2
    have hw : ∀ ff : Int32 → jH → Option jO, jbI (m_L_hasWalker F 5 (j_I h 44 (j_I h 42 8).toNatClampNeg) h) ff = ff (nI 0) h := fun ff => by
      rw [np, ft_cl (by omega), e2]; exact bI_of (U_hasWm (by omega)) ff
    obtain ⟨h', e1', x1, I1⟩ := D_back2 (F := F) S I bm hp np E ho
    refine ⟨h', ?_, x1, I1⟩
    rw [← e1', q_D_takeBack_49]
    simp (disch := first | exact sR_rfl _ _ rfl | omega) only [sf_k42 S, np, if_true, ↓sf_v42_1 S, ↓hw, ft_lit, ft_m1, ft_m2, ft_m3, ft_m5, ft_m6, ft_cl, ft_lt, ft_le, ft_eq, ft_mlt, ft_ltm, ft_mltm, ft_meq, ft_eqm, ft_meqm, ft_add, ft_mul, ft_sub, ft_nm, ft_m1p, ft_and, ft_or, ft_31, ft_shl, ft_shr, ft_bz, ft_z0, ft_z1, ft_z01, ft_bb, ft_zt, ft_zf, ft_or0, ft_rv, ft_rvr, ft_rf, ft_rfn, ft_bI, ft_bJ, ft_bV, ft_bR, ft_bRn, ft_isr, ft_isn, ft_ifn, ft_ifr, ft_ov, ft_ovn, ft_in, k_sI, n_sI, R_sI, J_sI, c_sI, z_sI, k_sJ, n_sJ, R_sJ, I_sJ, c_sJ, z_sJ, k_sR, n_sR, I_sR, J_sR, c_sR, z_sR, k_wI, n_wI, R_wI, J_wI, I_wIe, k_wJ, n_wJ, R_wJ, I_wJ, J_wJe, I_wIn, J_wJn, I_sIe, J_sJe, R_sRe, I_sIn, I_sIk, J_sJn, J_sJk, R_sRn, R_sRk, eq_self, if_true, if_false, ↓reduceIte, cond_true, cond_false, ↓cond_eq_ite, and_true, true_and, and_false, false_and, or_true, true_or, or_false, false_or, not_true_eq_false, not_false_eq_true, ft_ltT, ft_ltF, ft_eqT, ft_eqF, Bool.false_eq_true, Bool.true_eq_false, Bool.not_true, Bool.not_false, Bool.and_true, Bool.true_and, Bool.and_false, Bool.false_and, decide_true, decide_false, Nat.reduceAdd, Nat.reduceMul, Nat.reduceSub, Nat.reduceEqDiff, Nat.reduceLT, Nat.zero_add, Nat.add_zero, Nat.reduceDiv, Nat.reduceMod, sf_k4 S, sf_R4_0 S, ↓sf_v4_0 S, sf_R4_1 S, ↓sf_v4_1 S, sf_R4_2 S, ↓sf_v4_2 S, sf_R4_3 S, ↓sf_v4_3 S, sf_R4_4 S, ↓sf_v4_4 S, sf_R4_5 S, ↓sf_v4_5 S, sf_R4_6 S, ↓sf_v4_6 S, sf_R4_7 S, ↓sf_v4_7 S, sf_R4_8 S, ↓sf_v4_8 S, sf_R4_9 S, ↓sf_v4_9 S, sf_R4_10 S, ↓sf_v4_10 S, sf_R4_11 S, ↓sf_v4_11 S, sf_R4_12 S, ↓sf_v4_12 S, sf_k5 S, sf_R5_0 S, ↓sf_v5_0 S, sf_R5_1 S, ↓sf_v5_1 S, sf_R5_3 S, ↓sf_v5_3 S, sf_R5_4 S, ↓sf_v5_4 S, sf_R5_5 S, ↓sf_v5_5 S, sf_R5_6 S, ↓sf_v5_6 S, sf_R5_7 S, ↓sf_v5_7 S, sf_R5_9 S, ↓sf_v5_9 S, sf_R5_10 S, ↓sf_v5_10 S, sf_R5_11 S, ↓sf_v5_11 S, sf_R5_12 S, ↓sf_v5_12 S, sf_k17 S, sf_R17_0 S, ↓sf_v17_0 S, sf_R17_1 S, ↓sf_v17_1 S, sf_R17_3 S, ↓sf_v17_3 S, sf_R17_4 S, ↓sf_v17_4 S, sf_R17_5 S, ↓sf_v17_5 S, sf_R17_6 S, ↓sf_v17_6 S, sf_R17_7 S, ↓sf_v17_7 S, sf_R17_9 S, ↓sf_v17_9 S, sf_R17_10 S, ↓sf_v17_10 S, sf_R17_11 S, ↓sf_v17_11 S, sf_R17_12 S, ↓sf_v17_12 S, sf_k29 S, sf_R29_0 S, ↓sf_v29_0 S, sf_R29_1 S, ↓sf_v29_1 S, sf_R29_3 S, ↓sf_v29_3 S, sf_R29_4 S, ↓sf_v29_4 S, sf_R29_5 S, ↓sf_v29_5 S, sf_R29_6 S, ↓sf_v29_6 S, sf_R29_7 S, ↓sf_v29_7 S, sf_R29_9 S, ↓sf_v29_9 S, sf_R29_10 S, ↓sf_v29_10 S, sf_R29_11 S, ↓sf_v29_11 S, sf_R29_12 S, ↓sf_v29_12 S, sf_k41 S, sf_n41 S, sf_k42 S, sf_R42_0 S, ↓sf_v42_0 S, sf_R42_1 S, ↓sf_v42_1 S, sf_R42_2 S, ↓sf_v42_2 S, sf_R42_3 S, ↓sf_v42_3 S, sf_R42_4 S, ↓sf_v42_4 S, sf_R42_5 S, ↓sf_v42_5 S, sf_R42_6 S, ↓sf_v42_6 S, sf_R42_7 S, ↓sf_v42_7 S, sf_k51 S, sf_R51_0 S, ↓sf_v51_0 S, sf_R51_1 S, ↓sf_v51_1 S, sf_R51_2 S, ↓sf_v51_2 S, sf_R51_3 S, ↓sf_v51_3 S, sf_R51_4 S, ↓sf_v51_4 S, sf_R51_5 S, ↓sf_v51_5 S, sf_R51_6 S, ↓sf_v51_6 S, sf_R51_7 S, ↓sf_v51_7 S, sf_k60 S, sf_R60_0 S, ↓sf_v60_0 S, sf_R60_3 S, ↓sf_v60_3 S, sf_R60_4 S, ↓sf_v60_4 S, sf_R60_5 S, ↓sf_v60_5 S, sf_R60_6 S, ↓sf_v60_6 S, sf_k72 S, sf_R72_0 S, ↓sf_v72_0 S, sf_R72_1 S, ↓sf_v72_1 S, sf_k75 S, sf_R75_0 S, ↓sf_v75_0 S, sf_R75_1 S, ↓sf_v75_1 S, sf_R75_2 S, ↓sf_v75_2 S, sf_R75_3 S, ↓sf_v75_3 S, sf_R75_4 S, ↓sf_v75_4 S, sf_k81 S, sf_n81 S, sf_k82 S, sf_n82 S, sf_k83 S, sf_n83 S, sf_k84 S, sf_n84 S, sf_k6 S, sf_n6 S, sf_k7 S, sf_n7 S, sf_k8 S, sf_n8 S, sf_k9 S, sf_n9 S, sf_k10 S, sf_n10 S, sf_k11 S, sf_n11 S, sf_k12 S, sf_n12 S, sf_k13 S, sf_n13 S, sf_k14 S, sf_n14 S, sf_k15 S, sf_n15 S, sf_k16 S, sf_n16 S, sf_k18 S, sf_n18 S, sf_k19 S, sf_n19 S, sf_k20 S, sf_n20 S, sf_k21 S, sf_n21 S, sf_k22 S, sf_n22 S, sf_k23 S, sf_n23 S, sf_k24 S, sf_n24 S, sf_k25 S, sf_n25 S, sf_k26 S, sf_n26 S, sf_k27 S, sf_n27 S, sf_k28 S, sf_n28 S, sf_k30 S, sf_n30 S, sf_k31 S, sf_n31 S, sf_k32 S, sf_n32 S, sf_k33 S, sf_n33 S, sf_k34 S, sf_n34 S, sf_k35 S, sf_n35 S, sf_k36 S, sf_n36 S, sf_k37 S, sf_n37 S, sf_k38 S, sf_n38 S, sf_k39 S, sf_n39 S, sf_k40 S, sf_n40 S, sf_k43 S, sf_n43 S, sf_k44 S, sf_n44 S, sf_k45 S, sf_n45 S, sf_k46 S, sf_n46 S, sf_k47 S, sf_n47 S, sf_k48 S, sf_n48 S, sf_k49 S, sf_n49 S, sf_k50 S, sf_n50 S, sf_k52 S, sf_n52 S, sf_k53 S, sf_n53 S, sf_k54 S, sf_n54 S, sf_k55 S, sf_n55 S, sf_k56 S, sf_n56 S, sf_k57 S, sf_n57 S, sf_k58 S, sf_n58 S, sf_k59 S, sf_n59 S, sf_k61 S, sf_n61 S, sf_k62 S, sf_R62_0 S, ↓sf_v62_0 S, sf_R62_1 S, ↓sf_v62_1 S, sf_R62_2 S, ↓sf_v62_2 S, sf_R62_3 S, ↓sf_v62_3 S, sf_R62_4 S, ↓sf_v62_4 S, sf_R62_5 S, ↓sf_v62_5 S, sf_k69 S, sf_n69 S, sf_k70 S, sf_n70 S, sf_k71 S, sf_n71 S, sf_k73 S, sf_n73 S, sf_k74 S, sf_n74 S, sf_k76 S, sf_n76 S, sf_k77 S, sf_n77 S, sf_k78 S, sf_n78 S, sf_k79 S, sf_n79 S, sf_k80 S, sf_n80 S, sf_k63 S, sf_n63 S, sf_k64 S, sf_n64 S, sf_k65 S, sf_n65 S, sf_k66 S, sf_n66 S, sf_k67 S, sf_n67 S, sf_k68 S, sf_n68 S]
  · obtain ⟨w, hw0⟩ : ∃ w, e.2.2.1 = w + 1 := ⟨e.2.2.1 - 1, by omega⟩
    have zk : bk1 k e.1 e.2.2.1 = shR (va_up k w (e.1 w)) e.1 w := by unfold bk1; rw [if_neg c, hw0, Nat.add_sub_cancel]
    rw [zk]
    rw [hw0, iV_s] at e2
    obtain ⟨s1, s2, s3⟩ := e4 w hw0
    replace s1 : j_I h 45 p = nI (e.1 w) := s1
    replace s2 : j_I h 46 p = nI (ft_bs (ft_sh e.1 w) 25) := s2
    replace s3 : j_J h 47 p = lN (mrk e.1 w) := s3
    have z := U_hasWn (F := F) (h := h) (o := 5) (n := w) (m := k 177) (sf_k5 S) i2 (by omega) (by omega)
    rw [decide_eq_true (by omega : w < k 177)] at z
    have hw : ∀ ff : Int32 → jH → Option jO, jbI (m_L_hasWalker F 5 (j_I h 44 (j_I h 42 8).toNatClampNeg) h) ff = ff (nI 1) h := fun ff => by
      rw [np, ft_cl (by omega), e2]; exact bI_of z ff
    have I1 := I.spot (w := w) (c := e.1 w) (by omega)
    have b1 : va_up k w (e.1 w) 177 = k 177 := va_n (by omega)
    have x : jX (dS 5 w) jN (j_sI h 8 w (nI (e.1 w))) (j_sJ (j_sI (j_sI h 8 w (nI (e.1 w))) 11 w (nI (ft_bs (ft_sh e.1 w) 25))) 12 w (lN (mrk e.1 w))) := (jX.rf.sI (D := dS 5 w) (by unfold dS; omega)).sJ (by unfold dS; omega)
    have I2 := I1.sheet (k' := shR (va_up k w (e.1 w)) e.1 w) (by omega) (by omega) (shR_ag _ e.1 w) x (by rw [shR_sh]; exact (I_sJ _ _ _ _ _ _).trans I_sIe) (by rw [shR_mr]; exact J_sJe)
    have xa : jX dN jN h (j_sJ (j_sI (j_sI h 8 w (nI (e.1 w))) 11 w (nI (ft_bs (ft_sh e.1 w) 25))) 12 w (lN (mrk e.1 w))) := ((jX.rf.sI (D := dN) (by unfold dN; omega)).sI (by unfold dN; omega)).sJ (by unfold dN; omega)
    have b3 : shR (va_up k w (e.1 w)) e.1 w 177 = k 177 := by unfold shR; rw [if_neg (by omega)]; exact b1
    have E2 := E.fr xa (fun a i h1 h2 z => by unfold dN dV at z; omega)
    obtain ⟨h', e1', x1, I3⟩ := D_back2 (F := F) (h := j_sJ (j_sI (j_sI h 8 w (nI (e.1 w))) 11 w (nI (ft_bs (ft_sh e.1 w) 25))) 12 w (lN (mrk e.1 w))) (S.fr xa (fun _ _ z => z)) I2 (by omega) hp (by simp (disch := omega) only [I_sIn, I_sJ]; exact np) E2 (by omega)
    refine ⟨h', ?_, xa.t x1, I3⟩
    rw [← e1', q_D_takeBack_49]
    simp (disch := first | exact sR_rfl _ _ rfl | omega) only [sf_k42 S, np, if_true, ↓sf_v42_1 S, ↓hw, ft_lit, ft_m1, ft_m2, ft_m3, ft_m5, ft_m6, ft_cl, ft_lt, ft_le, ft_eq, ft_mlt, ft_ltm, ft_mltm, ft_meq, ft_eqm, ft_meqm, ft_add, ft_mul, ft_sub, ft_nm, ft_m1p, ft_and, ft_or, ft_31, ft_shl, ft_shr, ft_bz, ft_z0, ft_z1, ft_z01, ft_bb, ft_zt, ft_zf, ft_or0, ft_rv, ft_rvr, ft_rf, ft_rfn, ft_bI, ft_bJ, ft_bV, ft_bR, ft_bRn, ft_isr, ft_isn, ft_ifn, ft_ifr, ft_ov, ft_ovn, ft_in, k_sI, n_sI, R_sI, J_sI, c_sI, z_sI, k_sJ, n_sJ, R_sJ, I_sJ, c_sJ, z_sJ, k_sR, n_sR, I_sR, J_sR, c_sR, z_sR, k_wI, n_wI, R_wI, J_wI, I_wIe, k_wJ, n_wJ, R_wJ, I_wJ, J_wJe, I_wIn, J_wJn, I_sIe, J_sJe, R_sRe, I_sIn, I_sIk, J_sJn, J_sJk, R_sRn, R_sRk, eq_self, if_true, if_false, ↓reduceIte, cond_true, cond_false, ↓cond_eq_ite, and_true, true_and, and_false, false_and, or_true, true_or, or_false, false_or, not_true_eq_false, not_false_eq_true, ft_ltT, ft_ltF, ft_eqT, ft_eqF, Bool.false_eq_true, Bool.true_eq_false, Bool.not_true, Bool.not_false, Bool.and_true, Bool.true_and, Bool.and_false, Bool.false_and, decide_true, decide_false, Nat.reduceAdd, Nat.reduceMul, Nat.reduceSub, Nat.reduceEqDiff, Nat.reduceLT, Nat.zero_add, Nat.add_zero, Nat.reduceDiv, Nat.reduceMod, sf_k4 S, sf_R4_0 S, ↓sf_v4_0 S, sf_R4_1 S, ↓sf_v4_1 S, sf_R4_2 S, ↓sf_v4_2 S, sf_R4_3 S, ↓sf_v4_3 S, sf_R4_4 S, ↓sf_v4_4 S, sf_R4_5 S, ↓sf_v4_5 S, sf_R4_6 S, ↓sf_v4_6 S, sf_R4_7 S, ↓sf_v4_7 S, sf_R4_8 S, ↓sf_v4_8 S, sf_R4_9 S, ↓sf_v4_9 S, sf_R4_10 S, ↓sf_v4_10 S, sf_R4_11 S, ↓sf_v4_11 S, sf_R4_12 S, ↓sf_v4_12 S, sf_k5 S, sf_R5_0 S, ↓sf_v5_0 S, sf_R5_1 S, ↓sf_v5_1 S, sf_R5_3 S, ↓sf_v5_3 S, sf_R5_4 S, ↓sf_v5_4 S, sf_R5_5 S, ↓sf_v5_5 S, sf_R5_6 S, ↓sf_v5_6 S, sf_R5_7 S, ↓sf_v5_7 S, sf_R5_9 S, ↓sf_v5_9 S, sf_R5_10 S, ↓sf_v5_10 S, sf_R5_11 S, ↓sf_v5_11 S, sf_R5_12 S, ↓sf_v5_12 S, sf_k17 S, sf_R17_0 S, ↓sf_v17_0 S, sf_R17_1 S, ↓sf_v17_1 S, sf_R17_3 S, ↓sf_v17_3 S, sf_R17_4 S, ↓sf_v17_4 S, sf_R17_5 S, ↓sf_v17_5 S, sf_R17_6 S, ↓sf_v17_6 S, sf_R17_7 S, ↓sf_v17_7 S, sf_R17_9 S, ↓sf_v17_9 S, sf_R17_10 S, ↓sf_v17_10 S, sf_R17_11 S, ↓sf_v17_11 S, sf_R17_12 S, ↓sf_v17_12 S, sf_k29 S, sf_R29_0 S, ↓sf_v29_0 S, sf_R29_1 S, ↓sf_v29_1 S, sf_R29_3 S, ↓sf_v29_3 S, sf_R29_4 S, ↓sf_v29_4 S, sf_R29_5 S, ↓sf_v29_5 S, sf_R29_6 S, ↓sf_v29_6 S, sf_R29_7 S, ↓sf_v29_7 S, sf_R29_9 S, ↓sf_v29_9 S, sf_R29_10 S, ↓sf_v29_10 S, sf_R29_11 S, ↓sf_v29_11 S, sf_R29_12 S, ↓sf_v29_12 S, sf_k41 S, sf_n41 S, sf_k42 S, sf_R42_0 S, ↓sf_v42_0 S, sf_R42_1 S, ↓sf_v42_1 S, sf_R42_2 S, ↓sf_v42_2 S, sf_R42_3 S, ↓sf_v42_3 S, sf_R42_4 S, ↓sf_v42_4 S, sf_R42_5 S, ↓sf_v42_5 S, sf_R42_6 S, ↓sf_v42_6 S, sf_R42_7 S, ↓sf_v42_7 S, sf_k51 S, sf_R51_0 S, ↓sf_v51_0 S, sf_R51_1 S, ↓sf_v51_1 S, sf_R51_2 S, ↓sf_v51_2 S, sf_R51_3 S, ↓sf_v51_3 S, sf_R51_4 S, ↓sf_v51_4 S, sf_R51_5 S, ↓sf_v51_5 S, sf_R51_6 S, ↓sf_v51_6 S, sf_R51_7 S, ↓sf_v51_7 S, sf_k60 S, sf_R60_0 S, ↓sf_v60_0 S, sf_R60_3 S, ↓sf_v60_3 S, sf_R60_4 S, ↓sf_v60_4 S, sf_R60_5 S, ↓sf_v60_5 S, sf_R60_6 S, ↓sf_v60_6 S, sf_k72 S, sf_R72_0 S, ↓sf_v72_0 S, sf_R72_1 S, ↓sf_v72_1 S, sf_k75 S, sf_R75_0 S, ↓sf_v75_0 S, sf_R75_1 S, ↓sf_v75_1 S, sf_R75_2 S, ↓sf_v75_2 S, sf_R75_3 S, ↓sf_v75_3 S, sf_R75_4 S, ↓sf_v75_4 S, sf_k81 S, sf_n81 S, sf_k82 S, sf_n82 S, sf_k83 S, sf_n83 S, sf_k84 S, sf_n84 S, sf_k6 S, sf_n6 S, sf_k7 S, sf_n7 S, sf_k8 S, sf_n8 S, sf_k9 S, sf_n9 S, sf_k10 S, sf_n10 S, sf_k11 S, sf_n11 S, sf_k12 S, sf_n12 S, sf_k13 S, sf_n13 S, sf_k14 S, sf_n14 S, sf_k15 S, sf_n15 S, sf_k16 S, sf_n16 S, sf_k18 S, sf_n18 S, sf_k19 S, sf_n19 S, sf_k20 S, sf_n20 S, sf_k21 S, sf_n21 S, sf_k22 S, sf_n22 S, sf_k23 S, sf_n23 S, sf_k24 S, sf_n24 S, sf_k25 S, sf_n25 S, sf_k26 S, sf_n26 S, sf_k27 S, sf_n27 S, sf_k28 S, sf_n28 S, sf_k30 S, sf_n30 S, sf_k31 S, sf_n31 S, sf_k32 S, sf_n32 S, sf_k33 S, sf_n33 S, sf_k34 S, sf_n34 S, sf_k35 S, sf_n35 S, sf_k36 S, sf_n36 S, sf_k37 S, sf_n37 S, sf_k38 S, sf_n38 S, sf_k39 S, sf_n39 S, sf_k40 S, sf_n40 S, sf_k43 S, sf_n43 S, sf_k44 S, sf_n44 S, sf_k45 S, sf_n45 S, sf_k46 S, sf_n46 S, sf_k47 S, sf_n47 S, sf_k48 S, sf_n48 S, sf_k49 S, sf_n49 S, sf_k50 S, sf_n50 S, sf_k52 S, sf_n52 S, sf_k53 S, sf_n53 S, sf_k54 S, sf_n54 S, sf_k55 S, sf_n55 S, sf_k56 S, sf_n56 S, sf_k57 S, sf_n57 S, sf_k58 S, sf_n58 S, sf_k59 S, sf_n59 S, sf_k61 S, sf_n61 S, sf_k62 S, sf_R62_0 S, ↓sf_v62_0 S, sf_R62_1 S, ↓sf_v62_1 S, sf_R62_2 S, ↓sf_v62_2 S, sf_R62_3 S, ↓sf_v62_3 S, sf_R62_4 S, ↓sf_v62_4 S, sf_R62_5 S, ↓sf_v62_5 S, sf_k69 S, sf_n69 S, sf_k70 S, sf_n70 S, sf_k71 S, sf_n71 S, sf_k73 S, sf_n73 S, sf_k74 S, sf_n74 S, sf_k76 S, sf_n76 S, sf_k77 S, sf_n77 S, sf_k78 S, sf_n78 S, sf_k79 S, sf_n79 S, sf_k80 S, sf_n80 S, sf_k63 S, sf_n63 S, sf_k64 S, sf_n64 S, sf_k65 S, sf_n65 S, sf_k66 S, sf_n66 S, sf_k67 S, sf_n67 S, sf_k68 S, sf_n68 S, e2, s1, s2, s3]
theorem bk_eq {k : Nat → Nat} {e : Ue} {n : Nat} (hn : n ≤ 4) (E : UE1 e k n) : bk2 (bk1 (if e.2.1 = 3 then va_up k 104 (e.1 104) else k) e.1 e.2.2.1) e.1 e.2.2.2 = bkK k e.1 := by
  obtain ⟨a1, a2, a3, a4, a5, a6, a7, a8⟩ := E
  funext i
  have k0 : ¬ tch e i → i < 105 → (if e.2.1 = 3 then va_up k 104 (e.1 104) else k) i = e.1 i := by
    intro t hi
    by_cases q : e.2.1 = 3
    · rw [if_pos q]
      by_cases q2 : i = 104
      · rw [q2, va_e]
      · rw [va_n q2]; exact a1 i hi t
    · rw [if_neg q]; exact a1 i hi t
  have k0' : e.2.1 = 3 → i = 104 → (if e.2.1 = 3 then va_up k 104 (e.1 104) else k) i = e.1 i := by
    intro q q2
    rw [if_pos q, q2, va_e]
  have k1 : 105 ≤ i → (if e.2.1 = 3 then va_up k 104 (e.1 104) else k) i = k i := by
    intro hi
    by_cases q : e.2.1 = 3
    · rw [if_pos q, va_n (by omega)]
    · rw [if_neg q]
  generalize (if e.2.1 = 3 then va_up k 104 (e.1 104) else k) = k0v at k0 k0' k1
  have b1t : (∃ w, e.2.2.1 = w + 1 ∧ (i = w ∨ (4 + 25 * w ≤ i ∧ i < 4 + 25 * w + 25))) → bk1 k0v e.1 e.2.2.1 i = e.1 i := by
    rintro ⟨w, hw, h2⟩
    unfold bk1
    rw [if_neg (by omega), hw, Nat.add_sub_cancel]
    unfold shR
    by_cases c2 : 4 + 25 * w ≤ i ∧ i < 4 + 25 * w + 25
    · rw [if_pos c2]
    · rw [if_neg c2]
      have c3 : i = w := h2.elim id (fun z => absurd z c2)
      rw [c3, va_e]
  have b1f : ¬ (∃ w, e.2.2.1 = w + 1 ∧ (i = w ∨ (4 + 25 * w ≤ i ∧ i < 4 + 25 * w + 25))) → bk1 k0v e.1 e.2.2.1 i = k0v i := by
    intro ne
    unfold bk1
    by_cases c : e.2.2.1 = 0
    · rw [if_pos c]
    · obtain ⟨w, hw⟩ : ∃ w, e.2.2.1 = w + 1 := ⟨e.2.2.1 - 1, by omega⟩
      rw [if_neg c, hw, Nat.add_sub_cancel]
      unfold shR
      rw [if_neg (fun z => ne ⟨w, hw, Or.inr z⟩), va_n (fun z => ne ⟨w, hw, Or.inl z⟩)]
  have b2t : (∃ w, e.2.2.2 = w + 1 ∧ 4 + 25 * w ≤ i ∧ i < 4 + 25 * w + 25) → bk2 (bk1 k0v e.1 e.2.2.1) e.1 e.2.2.2 i = e.1 i := by
    rintro ⟨w, hw, h2⟩
    unfold bk2
    rw [if_neg (by omega), hw, Nat.add_sub_cancel]
    unfold shR
    rw [if_pos h2]
  have b2f : ¬ (∃ w, e.2.2.2 = w + 1 ∧ 4 + 25 * w ≤ i ∧ i < 4 + 25 * w + 25) → bk2 (bk1 k0v e.1 e.2.2.1) e.1 e.2.2.2 i = bk1 k0v e.1 e.2.2.1 i := by
    intro ne
    unfold bk2
    by_cases c : e.2.2.2 = 0
    · rw [if_pos c]
    · obtain ⟨w, hw⟩ : ∃ w, e.2.2.2 = w + 1 := ⟨e.2.2.2 - 1, by omega⟩
      rw [if_neg c, hw, Nat.add_sub_cancel]
      unfold shR
      rw [if_neg (fun z => ne ⟨w, hw, z⟩)]
  by_cases hi : i < 105
  · have z : bkK k e.1 i = e.1 i := by unfold bkK; rw [if_pos hi]
    rw [z]
    by_cases t2 : ∃ w, e.2.2.2 = w + 1 ∧ 4 + 25 * w ≤ i ∧ i < 4 + 25 * w + 25
    · exact b2t t2
    · rw [b2f t2]
      by_cases t1 : ∃ w, e.2.2.1 = w + 1 ∧ (i = w ∨ (4 + 25 * w ≤ i ∧ i < 4 + 25 * w + 25))
      · exact b1t t1
      · rw [b1f t1]
        by_cases t3 : e.2.1 = 3 ∧ i = 104
        · exact k0' t3.1 t3.2
        · refine k0 (fun t => ?_) hi
          rcases t with t | t | t
          · exact t1 t
          · exact t2 t
          · exact t3 t
  · have z : bkK k e.1 i = k i := by unfold bkK; rw [if_neg hi]
    rw [z, b2f (by rintro ⟨w, hw, h2⟩; omega), b1f (by rintro ⟨w, hw, h2⟩; omega)]
    exact k1 (by omega)
theorem K_undo {F : Nat × Nat} (hF : FF F) {s : St} (w : WJ s) : Alk (m_M_undo F 85) (m_F_undo F 4) s := by
  obtain ⟨k, im, u, tp, tl, sc, kd⟩ := s
  have w' : WS k im u := w
  have W := w'.1
  have bm := W.many
  have hF1 := hF.1
  have hu : u = [] ∨ ∃ L b, u = L ++ [b] := by
    rcases List.eq_nil_or_concat u with h | ⟨L, b, h⟩
    · exact Or.inl h
    · exact Or.inr ⟨L, b, by rw [h, List.concat_eq_append]⟩
  rcases hu with rfl | ⟨u, e, rfl⟩
  · refine ⟨(mI 2), (k, im, [], tp, tl, rfC sc 2, kd), w, Mst.eta (m2 := m_M_refuses F 85 (mI 2)) (fun h M => ?_) (M_ref (by omega)), Cst.eta (m2 := m_F_refuse F 4 (mI 2)) (fun h C => ?_) (C_ref (by omega))⟩
    · have M' : MI h k im [] tp tl sc kd := M
      have S := M'.1
      have n0 : j_I h 85 31 = nI 0 := M'.2.2.2.2.2.1.1
      rw [q_M_undo, if_pos (sm_k85 S), n0, if_pos rfl, if_pos (sm_k85 S)]
    · have C' : CI h k im [] tp tl sc kd := C
      have S := C'.1
      have n0 : j_I h 42 9 = nI 0 := C'.2.2.2.2.1.1
      rw [q_F_undo, if_pos (sf_k4 S), sf_v4_4 S (sR_rfl _ _ rfl), if_pos (sf_k42 S), n0, if_pos rfl, if_pos (sf_k4 S)]
  · obtain ⟨E, U⟩ := UC.last w'.2.2
    obtain ⟨a1, a2, a3, a4, a5, a6, a7, a8⟩ := id E
    have W2 : WK (bkK k e.1) := W.mv (fun i hi => by unfold bkK; rw [if_neg (by omega)]) (fun v hv => by unfold bkK; rw [if_pos (by omega)]; exact a6 v hv) (fun i hi => by unfold bkK; rw [if_pos (by omega)]; exact a7 i hi) (by unfold bkK; rw [if_pos (by omega)]; exact a8)
    have U2 : UC (bkK k e.1 177) (bkK k e.1) u := by
      have z : bkK k e.1 177 = k 177 := by unfold bkK; rw [if_neg (by omega)]
      rw [z]; exact U.e (fun i hi => by unfold bkK; rw [if_pos hi])
    refine ⟨(nI e.2.1), (bkK k e.1, im, u, tp, tl, gdC sc, kd), ⟨W2, w'.2.1, U2⟩, Mst.pre (s1 := (bkK k e.1, im, u, tp, tl, sc, kd)) (fun h M => ?_) (M_gd (F := F) _), Cst.pre (s1 := (bkK k e.1, im, u, tp, tl, sc, kd)) (fun h C => ?_) (C_gd (F := F) _)⟩
    · have M' : MI h k im (u ++ [e]) tp tl sc kd := M
      have S := M'.1
      obtain ⟨u1, u2, u3⟩ := M'.2.2.2.2.2.1
      rw [List.length_append] at u1 u2
      have ul : [e].length = 1 := rfl
      rw [ul] at u1 u2
      have ue := u3 u.length e (by rw [List.getElem?_append_right (Nat.le_refl _), Nat.sub_self]; rfl)
      have x0 : jX dKp jN h (j_sI h 85 31 (nI u.length)) := jX.rf.sI (by unfold dKp; omega)
      have M1 := M'.u1 (u' := u) x0 ⟨I_sIe, by omega, fun j y q => by
        have q2 : (u ++ [e])[j]? = some y := by
          have : j < u.length := by
            rcases Nat.lt_or_ge j u.length with z | z
            · exact z
            · rw [List.getElem?_eq_none z] at q; cases q
          rw [List.getElem?_append_left this]; exact q
        obtain ⟨v1, v2⟩ := u3 j y q2
        exact ⟨fun i hi => by rw [I_sIn (by omega)]; exact v1 i hi, by rw [I_sIn (by omega)]; exact v2⟩⟩
      obtain ⟨h1, e1, x1, K1⟩ := M_undo_34 (F := F) (k := k) (e := e) (n := u.length) (by omega) 105 0 F.1 (j_sI h 85 31 (nI u.length)) rfl (by omega) M1.1 (by
        have z : (fun i => if i < 0 then e.1 i else k i) = k := by funext i; rw [if_neg (by omega)]
        rw [z]; exact M1.2.2.2.1) ⟨fun i hi => by rw [I_sIn (by omega)]; exact ue.1 i hi, by rw [I_sIn (by omega)]; exact ue.2⟩
      refine ⟨h1, ?_, M1.k1 x1 K1, (dKp_MM x0).t (d87_MM x1)⟩
      have k1 : j_k (j_sI h 85 31 (nI u.length)) 85 = 17 := sm_k85 S
      have n2 : nI (u.length + 1) - nI 1 = nI u.length := by rw [ft_sub (by omega)]; rfl
      rw [← e1, q_M_undo, if_pos (sm_k85 S), u1, if_neg (by rw [ft_eq (by omega) (by omega)]; omega), if_pos (sm_k85 S), if_pos (sm_k85 S), n2]
      show (if j_k (j_sI h 85 31 (nI u.length)) 85 = 17 then m_M_undo_34 F F.1 85 (nI 106 * j_I (j_sI h 85 31 (nI u.length)) 85 31) (nI 0) (j_sI h 85 31 (nI u.length)) else none) = _
      rw [if_pos k1, I_sIe, ft_mul]
    · have C' : CI h k im (u ++ [e]) tp tl sc kd := C
      have S := C'.1
      obtain ⟨c1, c2, s, c3, c4, c5⟩ := C'.2.2.2.2.1
      rw [List.length_append] at c1 c2 c4
      have ul : [e].length = 1 := rfl
      rw [ul] at c1 c2 c4
      have ce := c5 u.length e (by rw [List.getElem?_append_right (Nat.le_refl _), Nat.sub_self]; rfl)
      have hp : (s + u.length) % 16 < 16 := by omega
      have x0 : jX dDw jN h (j_sI (j_sI h 42 8 (nI ((s + u.length) % 16))) 42 9 (nI u.length)) := (jX.rf.sI (D := dDw) (by unfold dDw; omega)).sI (by unfold dDw; omega)
      have xe : jX (fun a i => a = 42) jN h (j_sI (j_sI h 42 8 (nI ((s + u.length) % 16))) 42 9 (nI u.length)) := (jX.rf.sI (D := fun a i => a = 42) rfl).sI rfl
      have cefr : ∀ j y, (u ++ [e])[j]? = some y → CE (j_sI (j_sI h 42 8 (nI ((s + u.length) % 16))) 42 9 (nI u.length)) 42 ((s + j) % 16) y := by
        intro j y q
        have := c5 j y q
        unfold CE at this ⊢
        rw [xe.I (by omega), xe.I (by omega), xe.I (by omega), xe.I (by omega), xe.I (by omega), xe.J (by omega), xe.I (by omega), xe.J (by omega)]
        exact this
      have C1 := C'.u1 (u' := u) x0 ⟨I_sIe, by omega, s, c3, by rw [I_sIk (by omega), I_sIe], fun j y q => cefr j y (by
        have : j < u.length := by
          rcases Nat.lt_or_ge j u.length with z | z
          · exact z
          · rw [List.getElem?_eq_none z] at q; cases q
        rw [List.getElem?_append_left this]; exact q)⟩
      have S1 := C1.1
      have E1 := cefr u.length e (by rw [List.getElem?_append_right (Nat.le_refl _), Nat.sub_self]; rfl)
      have np : j_I (j_sI (j_sI h 42 8 (nI ((s + u.length) % 16))) 42 9 (nI u.length)) 42 8 = nI ((s + u.length) % 16) := by rw [I_sIk (by omega), I_sIe]
      have e43 : j_I (j_sI (j_sI h 42 8 (nI ((s + u.length) % 16))) 42 9 (nI u.length)) 43 ((s + u.length) % 16) = nI e.2.1 := E1.1
      have n15 : (s + (u.length + 1)) % 16 + 16 - 1 - ((s + (u.length + 1)) % 16 + 16 - 1) / 16 * 16 = (s + u.length) % 16 := by omega
      have n1 : u.length + 1 - 1 = u.length := by omega
      have key : ∃ h', m_D_takeBack F 42 5 h = some (some (.int (nI e.2.1)), h') ∧ jX dN jN (j_sI (j_sI h 42 8 (nI ((s + u.length) % 16))) 42 9 (nI u.length)) h' ∧ LI h' 5 (bkK k e.1) := by
        by_cases c3' : e.2.1 = 3
        · have m1 := a2 c3'
          have b104 : k 104 = e.1 104 + 1 := m1
          have i0 : j_I (j_sI (j_sI h 42 8 (nI ((s + u.length) % 16))) 42 9 (nI u.length)) 15 0 = nI (k 104) := C1.2.2.1.2.1.2.2.2.2.2.2.1
          have xm : jX dN jN (j_sI (j_sI h 42 8 (nI ((s + u.length) % 16))) 42 9 (nI u.length)) (j_sI (j_sI (j_sI h 42 8 (nI ((s + u.length) % 16))) 42 9 (nI u.length)) 15 0 (nI (e.1 104))) := jX.rf.sI (by unfold dN; omega)
          have Im := C1.2.2.1.2.1.min (x := e.1 104) bm W.glm
          have bmm : va_up k 104 (e.1 104) 177 = k 177 := va_n (by omega)
          obtain ⟨h', e1', x1, I1⟩ := D_back1 (F := F) (h := j_sI (j_sI (j_sI h 42 8 (nI ((s + u.length) % 16))) 42 9 (nI u.length)) 15 0 (nI (e.1 104))) (S1.fr xm (fun _ _ z => z)) Im (by omega) hp (by rw [I_sIn (by omega)]; exact np) (E1.fr xm (fun a i h1 h2 z => by unfold dN dV at z; omega)) (by omega) (by omega)
          have zk := bk_eq (k := k) (e := e) (n := k 177) bm E
          rw [if_pos c3'] at zk
          rw [zk] at I1
          refine ⟨h', ?_, xm.t x1, I1⟩
          have e43' : j_I h 43 ((s + u.length) % 16) = nI 3 := by rw [← c3']; exact ce.1
          have i0' : j_I h 15 0 = nI (k 104) := C'.2.2.1.2.1.2.2.2.2.2.2.1
          have k104 : k 104 - 1 = e.1 104 := by omega
          rw [← e1', q_D_takeBack]
          simp (disch := first | exact sR_rfl _ _ rfl | omega) only [ft_lit, ft_m1, ft_m2, ft_m3, ft_m5, ft_m6, ft_cl, ft_lt, ft_le, ft_eq, ft_mlt, ft_ltm, ft_mltm, ft_meq, ft_eqm, ft_meqm, ft_add, ft_mul, ft_sub, ft_nm, ft_m1p, ft_and, ft_or, ft_31, ft_shl, ft_shr, ft_bz, ft_z0, ft_z1, ft_z01, ft_bb, ft_zt, ft_zf, ft_or0, ft_rv, ft_rvr, ft_rf, ft_rfn, ft_bI, ft_bJ, ft_bV, ft_bR, ft_bRn, ft_isr, ft_isn, ft_ifn, ft_ifr, ft_ov, ft_ovn, ft_in, k_sI, n_sI, R_sI, J_sI, c_sI, z_sI, k_sJ, n_sJ, R_sJ, I_sJ, c_sJ, z_sJ, k_sR, n_sR, I_sR, J_sR, c_sR, z_sR, k_wI, n_wI, R_wI, J_wI, I_wIe, k_wJ, n_wJ, R_wJ, I_wJ, J_wJe, I_wIn, J_wJn, I_sIe, J_sJe, R_sRe, I_sIn, I_sIk, J_sJn, J_sJk, R_sRn, R_sRk, eq_self, if_true, if_false, ↓reduceIte, cond_true, cond_false, ↓cond_eq_ite, and_true, true_and, and_false, false_and, or_true, true_or, or_false, false_or, not_true_eq_false, not_false_eq_true, ft_ltT, ft_ltF, ft_eqT, ft_eqF, Bool.false_eq_true, Bool.true_eq_false, Bool.not_true, Bool.not_false, Bool.and_true, Bool.true_and, Bool.and_false, Bool.false_and, decide_true, decide_false, Nat.reduceAdd, Nat.reduceMul, Nat.reduceSub, Nat.reduceEqDiff, Nat.reduceLT, Nat.zero_add, Nat.add_zero, Nat.reduceDiv, Nat.reduceMod, sf_k4 S, sf_R4_0 S, ↓sf_v4_0 S, sf_R4_1 S, ↓sf_v4_1 S, sf_R4_2 S, ↓sf_v4_2 S, sf_R4_3 S, ↓sf_v4_3 S, sf_R4_4 S, ↓sf_v4_4 S, sf_R4_5 S, ↓sf_v4_5 S, sf_R4_6 S, ↓sf_v4_6 S, sf_R4_7 S, ↓sf_v4_7 S, sf_R4_8 S, ↓sf_v4_8 S, sf_R4_9 S, ↓sf_v4_9 S, sf_R4_10 S, ↓sf_v4_10 S, sf_R4_11 S, ↓sf_v4_11 S, sf_R4_12 S, ↓sf_v4_12 S, sf_k5 S, sf_R5_0 S, ↓sf_v5_0 S, sf_R5_1 S, ↓sf_v5_1 S, sf_R5_3 S, ↓sf_v5_3 S, sf_R5_4 S, ↓sf_v5_4 S, sf_R5_5 S, ↓sf_v5_5 S, sf_R5_6 S, ↓sf_v5_6 S, sf_R5_7 S, ↓sf_v5_7 S, sf_R5_9 S, ↓sf_v5_9 S, sf_R5_10 S, ↓sf_v5_10 S, sf_R5_11 S, ↓sf_v5_11 S, sf_R5_12 S, ↓sf_v5_12 S, sf_k17 S, sf_R17_0 S, ↓sf_v17_0 S, sf_R17_1 S, ↓sf_v17_1 S, sf_R17_3 S, ↓sf_v17_3 S, sf_R17_4 S, ↓sf_v17_4 S, sf_R17_5 S, ↓sf_v17_5 S, sf_R17_6 S, ↓sf_v17_6 S, sf_R17_7 S, ↓sf_v17_7 S, sf_R17_9 S, ↓sf_v17_9 S, sf_R17_10 S, ↓sf_v17_10 S, sf_R17_11 S, ↓sf_v17_11 S, sf_R17_12 S, ↓sf_v17_12 S, sf_k29 S, sf_R29_0 S, ↓sf_v29_0 S, sf_R29_1 S, ↓sf_v29_1 S, sf_R29_3 S, ↓sf_v29_3 S, sf_R29_4 S, ↓sf_v29_4 S, sf_R29_5 S, ↓sf_v29_5 S, sf_R29_6 S, ↓sf_v29_6 S, sf_R29_7 S, ↓sf_v29_7 S, sf_R29_9 S, ↓sf_v29_9 S, sf_R29_10 S, ↓sf_v29_10 S, sf_R29_11 S, ↓sf_v29_11 S, sf_R29_12 S, ↓sf_v29_12 S, sf_k41 S, sf_n41 S, sf_k42 S, sf_R42_0 S, ↓sf_v42_0 S, sf_R42_1 S, ↓sf_v42_1 S, sf_R42_2 S, ↓sf_v42_2 S, sf_R42_3 S, ↓sf_v42_3 S, sf_R42_4 S, ↓sf_v42_4 S, sf_R42_5 S, ↓sf_v42_5 S, sf_R42_6 S, ↓sf_v42_6 S, sf_R42_7 S, ↓sf_v42_7 S, sf_k51 S, sf_R51_0 S, ↓sf_v51_0 S, sf_R51_1 S, ↓sf_v51_1 S, sf_R51_2 S, ↓sf_v51_2 S, sf_R51_3 S, ↓sf_v51_3 S, sf_R51_4 S, ↓sf_v51_4 S, sf_R51_5 S, ↓sf_v51_5 S, sf_R51_6 S, ↓sf_v51_6 S, sf_R51_7 S, ↓sf_v51_7 S, sf_k60 S, sf_R60_0 S, ↓sf_v60_0 S, sf_R60_3 S, ↓sf_v60_3 S, sf_R60_4 S, ↓sf_v60_4 S, sf_R60_5 S, ↓sf_v60_5 S, sf_R60_6 S, ↓sf_v60_6 S, sf_k72 S, sf_R72_0 S, ↓sf_v72_0 S, sf_R72_1 S, ↓sf_v72_1 S, sf_k75 S, sf_R75_0 S, ↓sf_v75_0 S, sf_R75_1 S, ↓sf_v75_1 S, sf_R75_2 S, ↓sf_v75_2 S, sf_R75_3 S, ↓sf_v75_3 S, sf_R75_4 S, ↓sf_v75_4 S, sf_k81 S, sf_n81 S, sf_k82 S, sf_n82 S, sf_k83 S, sf_n83 S, sf_k84 S, sf_n84 S, sf_k6 S, sf_n6 S, sf_k7 S, sf_n7 S, sf_k8 S, sf_n8 S, sf_k9 S, sf_n9 S, sf_k10 S, sf_n10 S, sf_k11 S, sf_n11 S, sf_k12 S, sf_n12 S, sf_k13 S, sf_n13 S, sf_k14 S, sf_n14 S, sf_k15 S, sf_n15 S, sf_k16 S, sf_n16 S, sf_k18 S, sf_n18 S, sf_k19 S, sf_n19 S, sf_k20 S, sf_n20 S, sf_k21 S, sf_n21 S, sf_k22 S, sf_n22 S, sf_k23 S, sf_n23 S, sf_k24 S, sf_n24 S, sf_k25 S, sf_n25 S, sf_k26 S, sf_n26 S, sf_k27 S, sf_n27 S, sf_k28 S, sf_n28 S, sf_k30 S, sf_n30 S, sf_k31 S, sf_n31 S, sf_k32 S, sf_n32 S, sf_k33 S, sf_n33 S, sf_k34 S, sf_n34 S, sf_k35 S, sf_n35 S, sf_k36 S, sf_n36 S, sf_k37 S, sf_n37 S, sf_k38 S, sf_n38 S, sf_k39 S, sf_n39 S, sf_k40 S, sf_n40 S, sf_k43 S, sf_n43 S, sf_k44 S, sf_n44 S, sf_k45 S, sf_n45 S, sf_k46 S, sf_n46 S, sf_k47 S, sf_n47 S, sf_k48 S, sf_n48 S, sf_k49 S, sf_n49 S, sf_k50 S, sf_n50 S, sf_k52 S, sf_n52 S, sf_k53 S, sf_n53 S, sf_k54 S, sf_n54 S, sf_k55 S, sf_n55 S, sf_k56 S, sf_n56 S, sf_k57 S, sf_n57 S, sf_k58 S, sf_n58 S, sf_k59 S, sf_n59 S, sf_k61 S, sf_n61 S, sf_k62 S, sf_R62_0 S, ↓sf_v62_0 S, sf_R62_1 S, ↓sf_v62_1 S, sf_R62_2 S, ↓sf_v62_2 S, sf_R62_3 S, ↓sf_v62_3 S, sf_R62_4 S, ↓sf_v62_4 S, sf_R62_5 S, ↓sf_v62_5 S, sf_k69 S, sf_n69 S, sf_k70 S, sf_n70 S, sf_k71 S, sf_n71 S, sf_k73 S, sf_n73 S, sf_k74 S, sf_n74 S, sf_k76 S, sf_n76 S, sf_k77 S, sf_n77 S, sf_k78 S, sf_n78 S, sf_k79 S, sf_n79 S, sf_k80 S, sf_n80 S, sf_k63 S, sf_n63 S, sf_k64 S, sf_n64 S, sf_k65 S, sf_n65 S, sf_k66 S, sf_n66 S, sf_k67 S, sf_n67 S, sf_k68 S, sf_n68 S, c4, ft_div, n15, c1, n1, e43', i0', k104]
        · obtain ⟨h', e1', x1, I1⟩ := D_back1 (F := F) (h := j_sI (j_sI h 42 8 (nI ((s + u.length) % 16))) 42 9 (nI u.length)) S1 C1.2.2.1.2.1 bm hp np E1 (by omega) (by omega)
          have zk := bk_eq (k := k) (e := e) (n := k 177) bm E
          rw [if_neg c3'] at zk
          rw [zk] at I1
          refine ⟨h', ?_, x1, I1⟩
          have e43' : j_I h 43 ((s + u.length) % 16) = nI e.2.1 := ce.1
          rw [← e1', q_D_takeBack]
          simp (disch := first | exact sR_rfl _ _ rfl | omega) only [ft_lit, ft_m1, ft_m2, ft_m3, ft_m5, ft_m6, ft_cl, ft_lt, ft_le, ft_eq, ft_mlt, ft_ltm, ft_mltm, ft_meq, ft_eqm, ft_meqm, ft_add, ft_mul, ft_sub, ft_nm, ft_m1p, ft_and, ft_or, ft_31, ft_shl, ft_shr, ft_bz, ft_z0, ft_z1, ft_z01, ft_bb, ft_zt, ft_zf, ft_or0, ft_rv, ft_rvr, ft_rf, ft_rfn, ft_bI, ft_bJ, ft_bV, ft_bR, ft_bRn, ft_isr, ft_isn, ft_ifn, ft_ifr, ft_ov, ft_ovn, ft_in, k_sI, n_sI, R_sI, J_sI, c_sI, z_sI, k_sJ, n_sJ, R_sJ, I_sJ, c_sJ, z_sJ, k_sR, n_sR, I_sR, J_sR, c_sR, z_sR, k_wI, n_wI, R_wI, J_wI, I_wIe, k_wJ, n_wJ, R_wJ, I_wJ, J_wJe, I_wIn, J_wJn, I_sIe, J_sJe, R_sRe, I_sIn, I_sIk, J_sJn, J_sJk, R_sRn, R_sRk, eq_self, if_true, if_false, ↓reduceIte, cond_true, cond_false, ↓cond_eq_ite, and_true, true_and, and_false, false_and, or_true, true_or, or_false, false_or, not_true_eq_false, not_false_eq_true, ft_ltT, ft_ltF, ft_eqT, ft_eqF, Bool.false_eq_true, Bool.true_eq_false, Bool.not_true, Bool.not_false, Bool.and_true, Bool.true_and, Bool.and_false, Bool.false_and, decide_true, decide_false, Nat.reduceAdd, Nat.reduceMul, Nat.reduceSub, Nat.reduceEqDiff, Nat.reduceLT, Nat.zero_add, Nat.add_zero, Nat.reduceDiv, Nat.reduceMod, sf_k4 S, sf_R4_0 S, ↓sf_v4_0 S, sf_R4_1 S, ↓sf_v4_1 S, sf_R4_2 S, ↓sf_v4_2 S, sf_R4_3 S, ↓sf_v4_3 S, sf_R4_4 S, ↓sf_v4_4 S, sf_R4_5 S, ↓sf_v4_5 S, sf_R4_6 S, ↓sf_v4_6 S, sf_R4_7 S, ↓sf_v4_7 S, sf_R4_8 S, ↓sf_v4_8 S, sf_R4_9 S, ↓sf_v4_9 S, sf_R4_10 S, ↓sf_v4_10 S, sf_R4_11 S, ↓sf_v4_11 S, sf_R4_12 S, ↓sf_v4_12 S, sf_k5 S, sf_R5_0 S, ↓sf_v5_0 S, sf_R5_1 S, ↓sf_v5_1 S, sf_R5_3 S, ↓sf_v5_3 S, sf_R5_4 S, ↓sf_v5_4 S, sf_R5_5 S, ↓sf_v5_5 S, sf_R5_6 S, ↓sf_v5_6 S, sf_R5_7 S, ↓sf_v5_7 S, sf_R5_9 S, ↓sf_v5_9 S, sf_R5_10 S, ↓sf_v5_10 S, sf_R5_11 S, ↓sf_v5_11 S, sf_R5_12 S, ↓sf_v5_12 S, sf_k17 S, sf_R17_0 S, ↓sf_v17_0 S, sf_R17_1 S, ↓sf_v17_1 S, sf_R17_3 S, ↓sf_v17_3 S, sf_R17_4 S, ↓sf_v17_4 S, sf_R17_5 S, ↓sf_v17_5 S, sf_R17_6 S, ↓sf_v17_6 S, sf_R17_7 S, ↓sf_v17_7 S, sf_R17_9 S, ↓sf_v17_9 S, sf_R17_10 S, ↓sf_v17_10 S, sf_R17_11 S, ↓sf_v17_11 S, sf_R17_12 S, ↓sf_v17_12 S, sf_k29 S, sf_R29_0 S, ↓sf_v29_0 S, sf_R29_1 S, ↓sf_v29_1 S, sf_R29_3 S, ↓sf_v29_3 S, sf_R29_4 S, ↓sf_v29_4 S, sf_R29_5 S, ↓sf_v29_5 S, sf_R29_6 S, ↓sf_v29_6 S, sf_R29_7 S, ↓sf_v29_7 S, sf_R29_9 S, ↓sf_v29_9 S, sf_R29_10 S, ↓sf_v29_10 S, sf_R29_11 S, ↓sf_v29_11 S, sf_R29_12 S, ↓sf_v29_12 S, sf_k41 S, sf_n41 S, sf_k42 S, sf_R42_0 S, ↓sf_v42_0 S, sf_R42_1 S, ↓sf_v42_1 S, sf_R42_2 S, ↓sf_v42_2 S, sf_R42_3 S, ↓sf_v42_3 S, sf_R42_4 S, ↓sf_v42_4 S, sf_R42_5 S, ↓sf_v42_5 S, sf_R42_6 S, ↓sf_v42_6 S, sf_R42_7 S, ↓sf_v42_7 S, sf_k51 S, sf_R51_0 S, ↓sf_v51_0 S, sf_R51_1 S, ↓sf_v51_1 S, sf_R51_2 S, ↓sf_v51_2 S, sf_R51_3 S, ↓sf_v51_3 S, sf_R51_4 S, ↓sf_v51_4 S, sf_R51_5 S, ↓sf_v51_5 S, sf_R51_6 S, ↓sf_v51_6 S, sf_R51_7 S, ↓sf_v51_7 S, sf_k60 S, sf_R60_0 S, ↓sf_v60_0 S, sf_R60_3 S, ↓sf_v60_3 S, sf_R60_4 S, ↓sf_v60_4 S, sf_R60_5 S, ↓sf_v60_5 S, sf_R60_6 S, ↓sf_v60_6 S, sf_k72 S, sf_R72_0 S, ↓sf_v72_0 S, sf_R72_1 S, ↓sf_v72_1 S, sf_k75 S, sf_R75_0 S, ↓sf_v75_0 S, sf_R75_1 S, ↓sf_v75_1 S, sf_R75_2 S, ↓sf_v75_2 S, sf_R75_3 S, ↓sf_v75_3 S, sf_R75_4 S, ↓sf_v75_4 S, sf_k81 S, sf_n81 S, sf_k82 S, sf_n82 S, sf_k83 S, sf_n83 S, sf_k84 S, sf_n84 S, sf_k6 S, sf_n6 S, sf_k7 S, sf_n7 S, sf_k8 S, sf_n8 S, sf_k9 S, sf_n9 S, sf_k10 S, sf_n10 S, sf_k11 S, sf_n11 S, sf_k12 S, sf_n12 S, sf_k13 S, sf_n13 S, sf_k14 S, sf_n14 S, sf_k15 S, sf_n15 S, sf_k16 S, sf_n16 S, sf_k18 S, sf_n18 S, sf_k19 S, sf_n19 S, sf_k20 S, sf_n20 S, sf_k21 S, sf_n21 S, sf_k22 S, sf_n22 S, sf_k23 S, sf_n23 S, sf_k24 S, sf_n24 S, sf_k25 S, sf_n25 S, sf_k26 S, sf_n26 S, sf_k27 S, sf_n27 S, sf_k28 S, sf_n28 S, sf_k30 S, sf_n30 S, sf_k31 S, sf_n31 S, sf_k32 S, sf_n32 S, sf_k33 S, sf_n33 S, sf_k34 S, sf_n34 S, sf_k35 S, sf_n35 S, sf_k36 S, sf_n36 S, sf_k37 S, sf_n37 S, sf_k38 S, sf_n38 S, sf_k39 S, sf_n39 S, sf_k40 S, sf_n40 S, sf_k43 S, sf_n43 S, sf_k44 S, sf_n44 S, sf_k45 S, sf_n45 S, sf_k46 S, sf_n46 S, sf_k47 S, sf_n47 S, sf_k48 S, sf_n48 S, sf_k49 S, sf_n49 S, sf_k50 S, sf_n50 S, sf_k52 S, sf_n52 S, sf_k53 S, sf_n53 S, sf_k54 S, sf_n54 S, sf_k55 S, sf_n55 S, sf_k56 S, sf_n56 S, sf_k57 S, sf_n57 S, sf_k58 S, sf_n58 S, sf_k59 S, sf_n59 S, sf_k61 S, sf_n61 S, sf_k62 S, sf_R62_0 S, ↓sf_v62_0 S, sf_R62_1 S, ↓sf_v62_1 S, sf_R62_2 S, ↓sf_v62_2 S, sf_R62_3 S, ↓sf_v62_3 S, sf_R62_4 S, ↓sf_v62_4 S, sf_R62_5 S, ↓sf_v62_5 S, sf_k69 S, sf_n69 S, sf_k70 S, sf_n70 S, sf_k71 S, sf_n71 S, sf_k73 S, sf_n73 S, sf_k74 S, sf_n74 S, sf_k76 S, sf_n76 S, sf_k77 S, sf_n77 S, sf_k78 S, sf_n78 S, sf_k79 S, sf_n79 S, sf_k80 S, sf_n80 S, sf_k63 S, sf_n63 S, sf_k64 S, sf_n64 S, sf_k65 S, sf_n65 S, sf_k66 S, sf_n66 S, sf_k67 S, sf_n67 S, sf_k68 S, sf_n68 S, c4, ft_div, n15, c1, n1, e43', c3']
      obtain ⟨h', e1', x1, I1⟩ := key
      refine ⟨h', ?_, C1.n1 (k' := bkK k e.1) x1 I1 (by unfold bkK; rw [if_neg (by omega)]) (fun i hi => by unfold bkK; rw [if_neg (by omega)]), (dDw_85 x0).t (dN_85 x1)⟩
      have S2 := S1.fr x1 (fun _ _ z => z)
      rw [q_F_undo, if_pos (sf_k4 S), sf_v4_4 S (sR_rfl _ _ rfl), if_pos (sf_k42 S), c1, if_neg (by rw [ft_eq (by omega) (by omega)]; omega), if_pos (sf_k4 S), if_pos (sf_k4 S), sf_v4_4 S (sR_rfl _ _ rfl), sf_v4_0 S (sR_rfl _ _ rfl), if_pos (sf_k42 S), bI_of e1', if_pos (sf_k4 S2), bI_eta (C_accept S2 _), C_accept S2]
