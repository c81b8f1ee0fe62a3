/-! ORDERS: THE REFERENCE GOES ALONG A CLAUSE -/
theorem sI_wI (h : jH) (a k : Nat) (x : Int32) : j_sI h a k x = j_wI h a (fun i => if i = k then x else j_I h a i) := by
  have := wI_s (h := h) (a := a) (k := k) (f := fun i => j_I h a i) (x := x) (g := fun i => if i = k then x else j_I h a i) (fun i => rfl)
  rw [wI_0 h a (fun i => rfl)] at this
  exact this
theorem hE_cI {h : jH} {j0 g i : Nat} {b : Bool} {x : Int32} (h1 : i < 22 ∨ i = 23 ∨ 24 < i) : j_sI (hE h j0 g b) 85 i x = hE (j_sI h 85 i x) j0 g b := by
  unfold hE
  rw [wI_s (g := fun j => if j = 22 then nI (j0 + g) else if j = 24 then nI (ft_z b) else j_I (j_sI h 85 i x) 85 j) (fun j => by
    by_cases e : j = i
    · rw [if_pos e, e, if_neg (by omega), if_neg (by omega), I_sIe]
    · rw [if_neg e, I_sIk e])]
  rw [sI_wI h 85 i x, wI_w]
theorem hE_cJ (h : jH) (j0 g : Nat) (b : Bool) (p i : Nat) (x : Int64) : j_sJ (hE h j0 g b) p i x = hE (j_sJ h p i x) j0 g b := rfl
theorem hE_at {h : jH} {j0 g : Nat} {b : Bool} (h2 : j_I h 85 24 = nI (ft_z b)) : j_sI h 85 22 (nI (j0 + g)) = hE h j0 g b := by
  rw [sI_wI]
  unfold hE
  refine congrArg (j_wI h 85) (funext fun i => ?_)
  by_cases e : i = 22
  · rw [if_pos e, if_pos e]
  · rw [if_neg e, if_neg e]
    by_cases e2 : i = 24
    · rw [if_pos e2, e2, h2]
    · rw [if_neg e2]
theorem OB.sI {h : jH} {k : Nat → Nat} {m : Nat} {v : Int} (O : OB h k m v) {i : Nat} {x : Int32} (h1 : 28 < i) : OB (j_sI h 85 i x) k m v :=
  ⟨O.1, O.2.1.oth (by omega), by rw [I_sIk (by omega)]; exact O.2.2.1, by rw [I_sIk (by omega)]; exact O.2.2.2.1, by rw [I_sIk (by omega)]; exact O.2.2.2.2.1, by rw [I_sIk (by omega)]; exact O.2.2.2.2.2⟩
theorem OB.sJ {h : jH} {k : Nat → Nat} {m : Nat} {v : Int} (O : OB h k m v) {i : Nat} {x : Int64} : OB (j_sJ h 109 i x) k m v := O
theorem G_84 {F : Nat × Nat} (hF : FF F) {h : jH} {k : Nat → Nat} {m : Nat} {v : Int} (W : WK k) (hm : m ≤ 1000000) (hv : -1 ≤ v ∧ v ≤ 1000000) (O : OB h k m v) {t l t1 l1 j : Nat} (hj : j < 2) (ht : t ≤ k 187) (b live fi : Bool) (f46 : j_I h 85 46 = nI (ft_z fi)) (hs : (h_sum (kT k 6) true 8 (true, t, l)).1 = (true, t1, l1)) (k63 : Nat → Int32 → Int32 → Int32 → jH → Option jO) : m_M_goesAlong_84 F k63 85 (nI (ft_z live)) (nI 2) (nI j) (hE h 2400 t b) = k63 85 (nI (ft_z live)) (nI 2) (nI (j + 1)) (hE (j_sI (j_sJ h 109 j (iL (hvl live false ((h_sum (kT k 6) true 8 (true, t, l)).2.2 (oE k m v))))) 85 46 (nI (ft_z (fi && !hbk live false ((h_sum (kT k 6) true 8 (true, t, l)).2.2 (oE k m v)).isNone)))) 2400 t1 (hbk live false ((h_sum (kT k 6) true 8 (true, t, l)).2.2 (oE k m v)).isNone)) := by
  have hsz : k 187 ≤ 400 := W.size (j := 6) (by omega)
  have S := O.1
  have r1 := E_sumF hF (O.EM W) (O.EV (F := F) hF W hm hv) hsz (d := 8) (by omega) t l live false ht (by rw [hs])
  rw [hs] at r1
  generalize (h_sum (kT k 6) true 8 (true, t, l)).2.2 (oE k m v) = w at *
  generalize hbk live false w.isNone = b2 at *
  have rs := bJ_of r1
  rw [q_M_goesAlong_84]
  cases fi <;> cases b2 <;> simp (disch := first | exact sR_rfl _ _ rfl | omega) only [ft_lit, ft_m1, ft_m2, ft_m3, ft_m5, ft_m6, ft_cl, ft_lt, ft_le, ft_eq, ft_mlt, ft_ltm, ft_mltm, ft_meq, ft_eqm, ft_meqm, ft_add, ft_mul, ft_sub, ft_nm, ft_m1p, ft_and, ft_or, ft_31, ft_shl, ft_shr, ft_bz, ft_z0, ft_z1, ft_z01, ft_bb, ft_zt, ft_zf, ft_or0, ft_rv, ft_rvr, ft_rf, ft_rfn, ft_bI, ft_bJ, ft_bV, ft_bR, ft_bRn, ft_isr, ft_isn, ft_ifn, ft_ifr, ft_ov, ft_ovn, ft_in, k_sI, n_sI, R_sI, J_sI, c_sI, z_sI, k_sJ, n_sJ, R_sJ, I_sJ, c_sJ, z_sJ, k_sR, n_sR, I_sR, J_sR, c_sR, z_sR, k_wI, n_wI, R_wI, J_wI, I_wIe, k_wJ, n_wJ, R_wJ, I_wJ, J_wJe, I_wIn, J_wJn, I_sIe, J_sJe, R_sRe, I_sIn, I_sIk, J_sJn, J_sJk, R_sRn, R_sRk, eq_self, if_true, if_false, ↓reduceIte, cond_true, cond_false, ↓cond_eq_ite, and_true, true_and, and_false, false_and, or_true, true_or, or_false, false_or, not_true_eq_false, not_false_eq_true, ft_ltT, ft_ltF, ft_eqT, ft_eqF, Bool.false_eq_true, Bool.true_eq_false, Bool.not_true, Bool.not_false, Bool.and_true, Bool.true_and, Bool.and_false, Bool.false_and, decide_true, decide_false, Nat.reduceAdd, Nat.reduceMul, Nat.reduceSub, Nat.reduceEqDiff, Nat.reduceLT, Nat.zero_add, Nat.add_zero, Nat.reduceDiv, Nat.reduceMod, sm_k85 S, sm_R85_1 S, ↓sm_v85_1 S, sm_R85_2 S, ↓sm_v85_2 S, sm_R85_3 S, ↓sm_v85_3 S, sm_R85_4 S, ↓sm_v85_4 S, sm_R85_5 S, ↓sm_v85_5 S, sm_R85_7 S, ↓sm_v85_7 S, sm_R85_11 S, ↓sm_v85_11 S, sm_R85_12 S, ↓sm_v85_12 S, sm_R85_15 S, ↓sm_v85_15 S, sm_R85_16 S, ↓sm_v85_16 S, sm_R85_17 S, ↓sm_v85_17 S, sm_R85_26 S, ↓sm_v85_26 S, sm_R85_29 S, ↓sm_v85_29 S, sm_R85_30 S, ↓sm_v85_30 S, sm_R85_32 S, ↓sm_v85_32 S, sm_R85_33 S, ↓sm_v85_33 S, sm_R85_34 S, ↓sm_v85_34 S, sm_R85_35 S, ↓sm_v85_35 S, sm_R85_36 S, ↓sm_v85_36 S, sm_R85_37 S, ↓sm_v85_37 S, sm_R85_38 S, ↓sm_v85_38 S, sm_R85_40 S, ↓sm_v85_40 S, sm_R85_41 S, ↓sm_v85_41 S, sm_R85_48 S, ↓sm_v85_48 S, sm_R85_49 S, ↓sm_v85_49 S, sm_k86 S, sm_n86 S, sm_k87 S, sm_n87 S, sm_k88 S, sm_n88 S, sm_k89 S, sm_n89 S, sm_k90 S, sm_n90 S, sm_k91 S, sm_n91 S, sm_k92 S, sm_n92 S, sm_k93 S, sm_n93 S, sm_k94 S, sm_n94 S, sm_k95 S, sm_n95 S, sm_k96 S, sm_n96 S, sm_k97 S, sm_n97 S, sm_k98 S, sm_n98 S, sm_k99 S, sm_n99 S, sm_k100 S, sm_n100 S, sm_k101 S, sm_n101 S, sm_k102 S, sm_n102 S, sm_k103 S, sm_n103 S, sm_k104 S, sm_n104 S, sm_k105 S, sm_n105 S, sm_k106 S, sm_n106 S, sm_k107 S, sm_n107 S, sm_k108 S, sm_n108 S, sm_k109 S, sm_n109 S, sm_k110 S, sm_n110 S, hE_k, hE_n, hE_22, hE_24, hE_o, hE_s0, ↓rs, hE_cJ, hE_cI, I_sJ, f46, Bool.and_true, Bool.and_false, Bool.not_true, Bool.not_false]
