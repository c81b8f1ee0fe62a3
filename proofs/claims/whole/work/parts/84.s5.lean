/-! ORDERS: THE REFERENCE GOES ALONG -/
def dGl : Nat → Nat → Prop := fun a i => (a = 85 ∧ ((22 ≤ i ∧ i ≤ 25) ∨ (44 ≤ i ∧ i ≤ 47))) ∨ a = 109
def oFn (e : Ev) (c : Cz) : Bool := (match c.2.1 with
  | none => true
  | some d => (d.2 e).isSome) && (match c.2.2.1 with
  | none => true
  | some d => (d.2 e).isSome)
theorem nSm (x : Option Int) : (!x.isNone) = x.isSome := by cases x <;> rfl
theorem G_al {F : Nat × Nat} (hF : FF F) {h : jH} {k : Nat → Nat} {m : Nat} {v : Int} (W : WK k) (hm : m ≤ 1000000) (hv : -1 ≤ v ∧ v ≤ 1000000) (S : ShM h) (K : KM h k) (B : SB h) (h27 : j_I h 85 27 = nI m) (h28 : j_I h 85 28 = iI v) {t l : Nat} (h43 : j_I h 85 43 = nI (2400 + t)) (ht : t ≤ k 187) (hok : (h_one (kT k 6) true (true, t, l)).1.1 = true) (live : Bool) : ∃ h', m_M_goesAlong F 85 (nI (2400 + k 187)) (nI (ft_z live)) h = some (none, h') ∧ jX dGl jN h h' ∧ SB h' ∧ j_I h' 85 22 = nI (2400 + ((h_one (kT k 6) true (true, t, l)).1.2.1 + 1)) ∧ j_I h' 85 44 = nI (h_one (kT k 6) true (true, t, l)).2.2.2.2.1 ∧ (live = true → j_I h' 85 45 = nI ((kT k 6).1 t) ∧ j_I h' 85 46 = nI (ft_z (oFn (oE k m v) (h_one (kT k 6) true (true, t, l)).2)) ∧ j_I h' 85 47 = nI (ft_z (h_holds (oE k m v) (h_one (kT k 6) true (true, t, l)).2)) ∧ (∀ d, (h_one (kT k 6) true (true, t, l)).2.2.1 = some d → j_J h' 109 0 = iL ((d.2 (oE k m v)).getD 0)) ∧ (∀ d, (h_one (kT k 6) true (true, t, l)).2.2.2.1 = some d → j_J h' 109 1 = iL ((d.2 (oE k m v)).getD 0))) := by
  have hsz : k 187 ≤ 400 := W.size (j := 6) (by omega)
  obtain ⟨b, hb⟩ := B
  have O2 : OB (j_sI (j_sI h 85 25 (nI 1)) 85 23 (nI (2400 + k 187))) k m v := ⟨S, (K.oth (by omega)).oth (by omega), by rw [I_sIk (by omega), I_sIk (by omega)]; exact h27, by rw [I_sIk (by omega), I_sIk (by omega)]; exact h28, I_sIe, by rw [I_sIk (by omega), I_sIe]⟩
  have x2 : jX dGl jN h (j_sI (j_sI h 85 25 (nI 1)) 85 23 (nI (2400 + k 187))) := (jX.rf.sI (Or.inl ⟨rfl, Or.inl ⟨by omega, by omega⟩⟩)).sI (Or.inl ⟨rfl, Or.inl ⟨by omega, by omega⟩⟩)
  have h24 : j_I (j_sI (j_sI h 85 25 (nI 1)) 85 23 (nI (2400 + k 187))) 85 24 = nI (ft_z b) := by rw [I_sIk (by omega), I_sIk (by omega)]; exact hb
  have h43' : j_I (j_sI (j_sI h 85 25 (nI 1)) 85 23 (nI (2400 + k 187))) 85 43 = nI (2400 + t) := by rw [I_sIk (by omega), I_sIk (by omega)]; exact h43
  have start : m_M_goesAlong F 85 (nI (2400 + k 187)) (nI (ft_z live)) h = (if (nI ((kT k 6).1 t)) = nI 26 then m_M_goesAlong_63 F F.1 85 (nI (ft_z live)) (nI 0) (nI 0) (hE (j_sI (j_sI (j_sI (j_sI h 85 25 (nI 1)) 85 23 (nI (2400 + k 187))) 85 45 (nI ((kT k 6).1 t))) 85 46 (nI 1)) 2400 (t + 1) b) else m_M_goesAlong_63 F F.1 85 (nI (ft_z live)) (nI 2) (nI 0) (hE (j_sI (j_sI (j_sI (j_sI h 85 25 (nI 1)) 85 23 (nI (2400 + k 187))) 85 45 (nI ((kT k 6).1 t))) 85 46 (nI 1)) 2400 (t + 1) b)) := by
    have ca := bI_of (E_ca (F := F) (O2.EM W) (g := t) (by omega) b)
    generalize hg : j_sI (j_sI h 85 25 (nI 1)) 85 23 (nI (2400 + k 187)) = g at *
    have Sg := O2.1
    have e3 : j_sI g 85 22 (j_I g 85 43) = hE g 2400 t b := by rw [h43']; exact hE_at h24
    rw [q_M_goesAlong, if_pos ⟨sm_k85 S, Or.inr rfl⟩]
    show (if j_k (j_sI h 85 25 (nI 1)) 85 = 17 then _ else _) = _
    rw [if_pos (show j_k (j_sI h 85 25 (nI 1)) 85 = 17 from sm_k85 S)]
    show (if j_k (j_sI (j_sI h 85 25 (nI 1)) 85 23 (nI (2400 + k 187))) 85 = 17 then _ else _) = _
    rw [hg, if_pos (sm_k85 Sg), if_pos (sm_k85 Sg)]
    show (if j_k (j_sI g 85 22 (j_I g 85 43)) 85 = 17 then _ else _) = _
    rw [e3, if_pos (show j_k (hE g 2400 t b) 85 = 17 from sm_k85 Sg), if_pos (show j_k (hE g 2400 t b) 85 = 17 from sm_k85 Sg), ca]
    simp (disch := first | exact sR_rfl _ _ rfl | omega) only [ft_lit, ft_m1, ft_m2, ft_m3, ft_m5, ft_m6, ft_cl, ft_lt, ft_le, ft_eq, ft_mlt, ft_ltm, ft_mltm, ft_meq, ft_eqm, ft_meqm, ft_add, ft_mul, ft_sub, ft_nm, ft_m1p, ft_and, ft_or, ft_31, ft_shl, ft_shr, ft_bz, ft_z0, ft_z1, ft_z01, ft_bb, ft_zt, ft_zf, ft_or0, ft_rv, ft_rvr, ft_rf, ft_rfn, ft_bI, ft_bJ, ft_bV, ft_bR, ft_bRn, ft_isr, ft_isn, ft_ifn, ft_ifr, ft_ov, ft_ovn, ft_in, k_sI, n_sI, R_sI, J_sI, c_sI, z_sI, k_sJ, n_sJ, R_sJ, I_sJ, c_sJ, z_sJ, k_sR, n_sR, I_sR, J_sR, c_sR, z_sR, k_wI, n_wI, R_wI, J_wI, I_wIe, k_wJ, n_wJ, R_wJ, I_wJ, J_wJe, I_wIn, J_wJn, I_sIe, J_sJe, R_sRe, I_sIn, I_sIk, J_sJn, J_sJk, R_sRn, R_sRk, eq_self, if_true, if_false, ↓reduceIte, cond_true, cond_false, ↓cond_eq_ite, and_true, true_and, and_false, false_and, or_true, true_or, or_false, false_or, not_true_eq_false, not_false_eq_true, ft_ltT, ft_ltF, ft_eqT, ft_eqF, Bool.false_eq_true, Bool.true_eq_false, Bool.not_true, Bool.not_false, Bool.and_true, Bool.true_and, Bool.and_false, Bool.false_and, decide_true, decide_false, Nat.reduceAdd, Nat.reduceMul, Nat.reduceSub, Nat.reduceEqDiff, Nat.reduceLT, Nat.zero_add, Nat.add_zero, Nat.reduceDiv, Nat.reduceMod, sm_k85 Sg, sm_R85_1 Sg, ↓sm_v85_1 Sg, sm_R85_2 Sg, ↓sm_v85_2 Sg, sm_R85_3 Sg, ↓sm_v85_3 Sg, sm_R85_4 Sg, ↓sm_v85_4 Sg, sm_R85_5 Sg, ↓sm_v85_5 Sg, sm_R85_7 Sg, ↓sm_v85_7 Sg, sm_R85_11 Sg, ↓sm_v85_11 Sg, sm_R85_12 Sg, ↓sm_v85_12 Sg, sm_R85_15 Sg, ↓sm_v85_15 Sg, sm_R85_16 Sg, ↓sm_v85_16 Sg, sm_R85_17 Sg, ↓sm_v85_17 Sg, sm_R85_26 Sg, ↓sm_v85_26 Sg, sm_R85_29 Sg, ↓sm_v85_29 Sg, sm_R85_30 Sg, ↓sm_v85_30 Sg, sm_R85_32 Sg, ↓sm_v85_32 Sg, sm_R85_33 Sg, ↓sm_v85_33 Sg, sm_R85_34 Sg, ↓sm_v85_34 Sg, sm_R85_35 Sg, ↓sm_v85_35 Sg, sm_R85_36 Sg, ↓sm_v85_36 Sg, sm_R85_37 Sg, ↓sm_v85_37 Sg, sm_R85_38 Sg, ↓sm_v85_38 Sg, sm_R85_40 Sg, ↓sm_v85_40 Sg, sm_R85_41 Sg, ↓sm_v85_41 Sg, sm_R85_48 Sg, ↓sm_v85_48 Sg, sm_R85_49 Sg, ↓sm_v85_49 Sg, sm_k86 Sg, sm_n86 Sg, sm_k87 Sg, sm_n87 Sg, sm_k88 Sg, sm_n88 Sg, sm_k89 Sg, sm_n89 Sg, sm_k90 Sg, sm_n90 Sg, sm_k91 Sg, sm_n91 Sg, sm_k92 Sg, sm_n92 Sg, sm_k93 Sg, sm_n93 Sg, sm_k94 Sg, sm_n94 Sg, sm_k95 Sg, sm_n95 Sg, sm_k96 Sg, sm_n96 Sg, sm_k97 Sg, sm_n97 Sg, sm_k98 Sg, sm_n98 Sg, sm_k99 Sg, sm_n99 Sg, sm_k100 Sg, sm_n100 Sg, sm_k101 Sg, sm_n101 Sg, sm_k102 Sg, sm_n102 Sg, sm_k103 Sg, sm_n103 Sg, sm_k104 Sg, sm_n104 Sg, sm_k105 Sg, sm_n105 Sg, sm_k106 Sg, sm_n106 Sg, sm_k107 Sg, sm_n107 Sg, sm_k108 Sg, sm_n108 Sg, sm_k109 Sg, sm_n109 Sg, sm_k110 Sg, sm_n110 Sg, hE_k, hE_n, hE_22, hE_24, hE_o, hE_cI, hE_sg, I_sIe, I_sIk]
  have O0 : OB (j_sI (j_sI (j_sI (j_sI h 85 25 (nI 1)) 85 23 (nI (2400 + k 187))) 85 45 (nI ((kT k 6).1 t))) 85 46 (nI 1)) k m v := (O2.sI (by omega)).sI (by omega)
  have x0 : jX dGl jN h (j_sI (j_sI (j_sI (j_sI h 85 25 (nI 1)) 85 23 (nI (2400 + k 187))) 85 45 (nI ((kT k 6).1 t))) 85 46 (nI 1)) := (x2.sI (Or.inl ⟨rfl, Or.inr ⟨by omega, by omega⟩⟩)).sI (Or.inl ⟨rfl, Or.inr ⟨by omega, by omega⟩⟩)
  have f45 : j_I (j_sI (j_sI (j_sI (j_sI h 85 25 (nI 1)) 85 23 (nI (2400 + k 187))) 85 45 (nI ((kT k 6).1 t))) 85 46 (nI 1)) 85 45 = nI ((kT k 6).1 t) := by rw [I_sIk (by omega), I_sIe]
  have f46 : j_I (j_sI (j_sI (j_sI (j_sI h 85 25 (nI 1)) 85 23 (nI (2400 + k 187))) 85 45 (nI ((kT k 6).1 t))) 85 46 (nI 1)) 85 46 = nI (ft_z true) := I_sIe
  rw [start]
  clear start
  have H2 := O2.EM W
  clear O2 x2 h24 h43'
  generalize j_sI (j_sI (j_sI (j_sI h 85 25 (nI 1)) 85 23 (nI (2400 + k 187))) 85 45 (nI ((kT k 6).1 t))) 85 46 (nI 1) = g at *
  have hn : (kT k 6).1 (k 187) = 0 := H2.2.2.2.2.1 _ (Nat.le_refl _)
  have tb := (H2.2.2.2.2.2.1 t).1
  obtain ⟨t2, l2, t3, l3, a1, a2, a3, a4, a5, a6, a7⟩ := h_one_o hn ht hok
  have c1 : (h_one (kT k 6) true (true, t, l)).1.2.1 = (h_if (kT k 6) true (true, t3, l3)).1.2.1 := by
    show (h_if (kT k 6) true (h_tms (kT k 6) (h_osum (kT k 6) (true, t, l)).1).1).1.2.1 = _
    rw [a5]
    rcases a6 with ⟨_, _, _, _, _, e⟩ | ⟨_, _, e⟩ <;> rw [e]
  have c2 : (h_one (kT k 6) true (true, t, l)).2.2.2.2.1 = (h_tms (kT k 6) (true, t2, l2)).2 := by
    show (h_tms (kT k 6) (h_osum (kT k 6) (true, t, l)).1).2 = _
    rw [a5]
  have c3 : h_holds (oE k m v) (h_one (kT k 6) true (true, t, l)).2 = tHd (oE k m v) (h_if (kT k 6) true (true, t3, l3)).2 := by
    show tHd (oE k m v) (h_if (kT k 6) true (h_tms (kT k 6) (h_osum (kT k 6) (true, t, l)).1).1).2 = _
    rw [a5]
    rcases a6 with ⟨_, _, _, _, _, e⟩ | ⟨_, _, e⟩ <;> rw [e]
  have c4 : ((h_one (kT k 6) true (true, t, l)).2.2.1, (h_one (kT k 6) true (true, t, l)).2.2.2.1) = (h_osum (kT k 6) (true, t, l)).2 := rfl
  rw [c1, c2, c3]
  rcases a4 with ⟨v1, v2, v3⟩ | ⟨w, t1, l1, v1, v2, v3, v4, v5, v6⟩
  · rw [if_pos (by rw [v1])]
    obtain ⟨gg, hgg⟩ : ∃ gg, F.1 = gg + 1 := ⟨F.1 - 1, by have := hF.1; omega⟩
    rw [hgg, ← v2]
    obtain ⟨hb, b4, e, O', x', f44, f47⟩ := G_end (F := F) hF W hm hv O0 (x := 0) (by omega) a1 a2 b live a6 a7 gg
    refine ⟨_, e, hE_X ((x0.tr x').up (fun a i d => by unfold dG4 at d; unfold dGl at *; omega) (fun a i d => d.elim id id)) (Or.inl ⟨rfl, by omega⟩) (Or.inl ⟨rfl, by omega⟩), ⟨b4, hE_24 _ _ _ _⟩, hE_22 _ _ _ _, by rw [hE_o (by omega)]; exact f44, fun lv => ?_⟩
    rw [v3] at c4
    have s1 : (h_one (kT k 6) true (true, t, l)).2.2.1 = none := congrArg Prod.fst c4
    have s2 : (h_one (kT k 6) true (true, t, l)).2.2.2.1 = none := congrArg Prod.snd c4
    refine ⟨by rw [hE_o (by omega), x'.I (fun z => by unfold dG4 at z; omega)]; exact f45, ?_, by rw [hE_o (by omega)]; exact f47 lv, (fun d z => by rw [s1] at z; cases z), (fun d z => by rw [s2] at z; cases z)⟩
    rw [hE_o (by omega), x'.I (fun z => by unfold dG4 at z; omega), f46]
    unfold oFn
    rw [s1, s2]
    rfl
  · have nv : ¬ nI ((kT k 6).1 t) = nI 26 := by
      rw [ft_eq tb (by omega)]
      rcases v1 with ⟨z, _⟩ | ⟨z, _⟩ | ⟨z, _⟩ <;> omega
    rw [if_neg nv]
    obtain ⟨gg, hgg⟩ : ∃ gg, F.1 = gg + 3 := ⟨F.1 - 3, by have := hF.1; omega⟩
    rw [hgg]
    have S0 := O0.1
    have e1 := G_84 (F := F) hF W hm hv O0 (j := 0) (by omega) (t := t + 1) (l := l) (by omega) b live true f46 v3 (m_M_goesAlong_63 F (gg + 2))
    have O1 : OB (j_sI (j_sJ g 109 0 (iL (hvl live false ((h_sum (kT k 6) true 8 (true, t + 1, l)).2.2 (oE k m v))))) 85 46 (nI (ft_z (true && !hbk live false ((h_sum (kT k 6) true 8 (true, t + 1, l)).2.2 (oE k m v)).isNone)))) k m v := (O0.sJ (i := 0)).sI (by omega)
    have e2 := G_84 (F := F) hF W hm hv O1 (j := 1) (by omega) (t := t1 + 1) (l := l1) (by omega) (hbk live false ((h_sum (kT k 6) true 8 (true, t + 1, l)).2.2 (oE k m v)).isNone) live _ I_sIe v5 (m_M_goesAlong_63 F (gg + 1))
    have q1 : m_M_goesAlong_63 F (gg + 3) 85 (nI (ft_z live)) (nI 2) (nI 0) (hE g 2400 (t + 1) b) = m_M_goesAlong_84 F (m_M_goesAlong_63 F (gg + 2)) 85 (nI (ft_z live)) (nI 2) (nI 0) (hE g 2400 (t + 1) b) := by
      rw [q_M_goesAlong_63, if_pos (by decide), if_neg (by decide)]
    rw [q1, e1]
    clear q1 e1
    have f1 : j_J (j_sI (j_sJ g 109 0 (iL (hvl live false ((h_sum (kT k 6) true 8 (true, t + 1, l)).2.2 (oE k m v))))) 85 46 (nI (ft_z (true && !hbk live false ((h_sum (kT k 6) true 8 (true, t + 1, l)).2.2 (oE k m v)).isNone)))) 109 0 = iL (hvl live false ((h_sum (kT k 6) true 8 (true, t + 1, l)).2.2 (oE k m v))) := J_sJe
    have f2 : j_I (j_sI (j_sJ g 109 0 (iL (hvl live false ((h_sum (kT k 6) true 8 (true, t + 1, l)).2.2 (oE k m v))))) 85 46 (nI (ft_z (true && !hbk live false ((h_sum (kT k 6) true 8 (true, t + 1, l)).2.2 (oE k m v)).isNone)))) 85 45 = nI ((kT k 6).1 t) := by rw [I_sIk (by omega)]; exact f45
    have x1 : jX dGl jN h (j_sI (j_sJ g 109 0 (iL (hvl live false ((h_sum (kT k 6) true 8 (true, t + 1, l)).2.2 (oE k m v))))) 85 46 (nI (ft_z (true && !hbk live false ((h_sum (kT k 6) true 8 (true, t + 1, l)).2.2 (oE k m v)).isNone)))) := (x0.sJ (Or.inr rfl)).sI (Or.inl ⟨rfl, Or.inr ⟨by omega, by omega⟩⟩)
    generalize j_sI (j_sJ g 109 0 (iL (hvl live false ((h_sum (kT k 6) true 8 (true, t + 1, l)).2.2 (oE k m v))))) 85 46 (nI (ft_z (true && !hbk live false ((h_sum (kT k 6) true 8 (true, t + 1, l)).2.2 (oE k m v)).isNone))) = g1 at *
    have S1 := O1.1
    have q2 : m_M_goesAlong_63 F (gg + 2) 85 (nI (ft_z live)) (nI 2) (nI (0 + 1)) (hE g1 2400 t1 (hbk live false ((h_sum (kT k 6) true 8 (true, t + 1, l)).2.2 (oE k m v)).isNone)) = m_M_goesAlong_84 F (m_M_goesAlong_63 F (gg + 1)) 85 (nI (ft_z live)) (nI 2) (nI 1) (hE g1 2400 (t1 + 1) (hbk live false ((h_sum (kT k 6) true 8 (true, t + 1, l)).2.2 (oE k m v)).isNone)) := by
      rw [q_M_goesAlong_63, if_pos (by decide), if_pos (by decide), if_pos (show j_k (hE g1 2400 t1 _) 85 = 17 from sm_k85 S1), if_pos (show j_k (hE g1 2400 t1 _) 85 = 17 from sm_k85 S1)]
      simp (disch := first | exact sR_rfl _ _ rfl | omega) only [ft_lit, ft_m1, ft_m2, ft_m3, ft_m5, ft_m6, ft_cl, ft_lt, ft_le, ft_eq, ft_mlt, ft_ltm, ft_mltm, ft_meq, ft_eqm, ft_meqm, ft_add, ft_mul, ft_sub, ft_nm, ft_m1p, ft_and, ft_or, ft_31, ft_shl, ft_shr, ft_bz, ft_z0, ft_z1, ft_z01, ft_bb, ft_zt, ft_zf, ft_or0, ft_rv, ft_rvr, ft_rf, ft_rfn, ft_bI, ft_bJ, ft_bV, ft_bR, ft_bRn, ft_isr, ft_isn, ft_ifn, ft_ifr, ft_ov, ft_ovn, ft_in, k_sI, n_sI, R_sI, J_sI, c_sI, z_sI, k_sJ, n_sJ, R_sJ, I_sJ, c_sJ, z_sJ, k_sR, n_sR, I_sR, J_sR, c_sR, z_sR, k_wI, n_wI, R_wI, J_wI, I_wIe, k_wJ, n_wJ, R_wJ, I_wJ, J_wJe, I_wIn, J_wJn, I_sIe, J_sJe, R_sRe, I_sIn, I_sIk, J_sJn, J_sJk, R_sRn, R_sRk, eq_self, if_true, if_false, ↓reduceIte, cond_true, cond_false, ↓cond_eq_ite, and_true, true_and, and_false, false_and, or_true, true_or, or_false, false_or, not_true_eq_false, not_false_eq_true, ft_ltT, ft_ltF, ft_eqT, ft_eqF, Bool.false_eq_true, Bool.true_eq_false, Bool.not_true, Bool.not_false, Bool.and_true, Bool.true_and, Bool.and_false, Bool.false_and, decide_true, decide_false, Nat.reduceAdd, Nat.reduceMul, Nat.reduceSub, Nat.reduceEqDiff, Nat.reduceLT, Nat.zero_add, Nat.add_zero, Nat.reduceDiv, Nat.reduceMod, hE_22, hE_sg]
    rw [q2, e2]
    clear q2 e2
    have O3 : OB (j_sI (j_sJ g1 109 1 (iL (hvl live false ((h_sum (kT k 6) true 8 (true, t1 + 1, l1)).2.2 (oE k m v))))) 85 46 (nI (ft_z ((true && !hbk live false ((h_sum (kT k 6) true 8 (true, t + 1, l)).2.2 (oE k m v)).isNone) && !hbk live false ((h_sum (kT k 6) true 8 (true, t1 + 1, l1)).2.2 (oE k m v)).isNone)))) k m v := (O1.sJ (i := 1)).sI (by omega)
    have g0 : j_J (j_sI (j_sJ g1 109 1 (iL (hvl live false ((h_sum (kT k 6) true 8 (true, t1 + 1, l1)).2.2 (oE k m v))))) 85 46 (nI (ft_z ((true && !hbk live false ((h_sum (kT k 6) true 8 (true, t + 1, l)).2.2 (oE k m v)).isNone) && !hbk live false ((h_sum (kT k 6) true 8 (true, t1 + 1, l1)).2.2 (oE k m v)).isNone)))) 109 0 = iL (hvl live false ((h_sum (kT k 6) true 8 (true, t + 1, l)).2.2 (oE k m v))) := by rw [J_sI, J_sJk (by omega)]; exact f1
    have g1' : j_J (j_sI (j_sJ g1 109 1 (iL (hvl live false ((h_sum (kT k 6) true 8 (true, t1 + 1, l1)).2.2 (oE k m v))))) 85 46 (nI (ft_z ((true && !hbk live false ((h_sum (kT k 6) true 8 (true, t + 1, l)).2.2 (oE k m v)).isNone) && !hbk live false ((h_sum (kT k 6) true 8 (true, t1 + 1, l1)).2.2 (oE k m v)).isNone)))) 109 1 = iL (hvl live false ((h_sum (kT k 6) true 8 (true, t1 + 1, l1)).2.2 (oE k m v))) := J_sJe
    have g45 : j_I (j_sI (j_sJ g1 109 1 (iL (hvl live false ((h_sum (kT k 6) true 8 (true, t1 + 1, l1)).2.2 (oE k m v))))) 85 46 (nI (ft_z ((true && !hbk live false ((h_sum (kT k 6) true 8 (true, t + 1, l)).2.2 (oE k m v)).isNone) && !hbk live false ((h_sum (kT k 6) true 8 (true, t1 + 1, l1)).2.2 (oE k m v)).isNone)))) 85 45 = nI ((kT k 6).1 t) := by rw [I_sIk (by omega)]; exact f2
    have g46 : j_I (j_sI (j_sJ g1 109 1 (iL (hvl live false ((h_sum (kT k 6) true 8 (true, t1 + 1, l1)).2.2 (oE k m v))))) 85 46 (nI (ft_z ((true && !hbk live false ((h_sum (kT k 6) true 8 (true, t + 1, l)).2.2 (oE k m v)).isNone) && !hbk live false ((h_sum (kT k 6) true 8 (true, t1 + 1, l1)).2.2 (oE k m v)).isNone)))) 85 46 = nI (ft_z ((true && !hbk live false ((h_sum (kT k 6) true 8 (true, t + 1, l)).2.2 (oE k m v)).isNone) && !hbk live false ((h_sum (kT k 6) true 8 (true, t1 + 1, l1)).2.2 (oE k m v)).isNone)) := I_sIe
    have x3 : jX dGl jN h (j_sI (j_sJ g1 109 1 (iL (hvl live false ((h_sum (kT k 6) true 8 (true, t1 + 1, l1)).2.2 (oE k m v))))) 85 46 (nI (ft_z ((true && !hbk live false ((h_sum (kT k 6) true 8 (true, t + 1, l)).2.2 (oE k m v)).isNone) && !hbk live false ((h_sum (kT k 6) true 8 (true, t1 + 1, l1)).2.2 (oE k m v)).isNone)))) := (x1.sJ (Or.inr rfl)).sI (Or.inl ⟨rfl, Or.inr ⟨by omega, by omega⟩⟩)
    generalize j_sI (j_sJ g1 109 1 (iL (hvl live false ((h_sum (kT k 6) true 8 (true, t1 + 1, l1)).2.2 (oE k m v))))) 85 46 (nI (ft_z ((true && !hbk live false ((h_sum (kT k 6) true 8 (true, t + 1, l)).2.2 (oE k m v)).isNone) && !hbk live false ((h_sum (kT k 6) true 8 (true, t1 + 1, l1)).2.2 (oE k m v)).isNone))) = g2 at *
    obtain ⟨hb, b4, e, O', x', f44, f47⟩ := G_end (F := F) hF W hm hv O3 (x := 2) (by omega) a1 a2 (hbk live false ((h_sum (kT k 6) true 8 (true, t1 + 1, l1)).2.2 (oE k m v)).isNone) live a6 a7 gg
    refine ⟨_, e, hE_X ((x3.tr x').up (fun a i d => by unfold dG4 at d; unfold dGl at *; omega) (fun a i d => d.elim id id)) (Or.inl ⟨rfl, by omega⟩) (Or.inl ⟨rfl, by omega⟩), ⟨b4, hE_24 _ _ _ _⟩, hE_22 _ _ _ _, by rw [hE_o (by omega)]; exact f44, fun lv => ?_⟩
    rw [v6] at c4
    have s1 : (h_one (kT k 6) true (true, t, l)).2.2.1 = some (h_sum (kT k 6) true 8 (true, t + 1, l)).2 := congrArg Prod.fst c4
    have s2 : (h_one (kT k 6) true (true, t, l)).2.2.2.1 = some (h_sum (kT k 6) true 8 (true, t1 + 1, l1)).2 := congrArg Prod.snd c4
    subst lv
    rw [hvl_t] at g0 g1'
    rw [hbk_t, hbk_t] at g46
    refine ⟨by rw [hE_o (by omega), x'.I (fun z => by unfold dG4 at z; omega)]; exact g45, ?_, by rw [hE_o (by omega)]; exact f47 rfl, fun d z => ?_, fun d z => ?_⟩
    · rw [hE_o (by omega), x'.I (fun z => by unfold dG4 at z; omega), g46]
      unfold oFn
      rw [s1, s2]
      show _ = nI (ft_z (((h_sum (kT k 6) true 8 (true, t + 1, l)).2.2 (oE k m v)).isSome && ((h_sum (kT k 6) true 8 (true, t1 + 1, l1)).2.2 (oE k m v)).isSome))
      rw [nSm, nSm, Bool.true_and]
    · rw [s1] at z
      cases z
      show j_J hb 109 0 = _
      rw [x'.J (fun z => by unfold dG4 at z; omega)]
      exact g0
    · rw [s2] at z
      cases z
      show j_J hb 109 1 = _
      rw [x'.J (fun z => by unfold dG4 at z; omega)]
      exact g1'
