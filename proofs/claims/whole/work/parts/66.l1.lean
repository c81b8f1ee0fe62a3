/-! A WHOLE TEXT IS READ: the class -/
theorem hC_in {h : jH} {ct vt : Nat → Nat} {l sz u : Nat} (h1 : j_I h 60 10 = nI l) (h2 : j_I h 62 6 = nI sz) : j_sI (j_sI (j_sI h 60 7 (nI u)) 60 8 (nI (ct u))) 60 9 (nI (vt u)) = hC h ct vt u l sz (j_I h 63) := by
  refine heq_of (by rfl) (by rfl) ?_
  intro a i
  by_cases ha : a = 60
  · subst ha
    by_cases h9 : i = 9
    · subst h9; rw [I_sIe, hC_9]
    · rw [I_sIk h9]
      by_cases h8 : i = 8
      · subst h8; rw [I_sIe, hC_8]
      · rw [I_sIk h8]
        by_cases h7 : i = 7
        · subst h7; rw [I_sIe, hC_7]
        · rw [I_sIk h7]
          by_cases h10 : i = 10
          · subst h10; rw [hC_10, h1]
          · rw [hC_o (by omega)]
  · rw [I_sIn ha, I_sIn ha, I_sIn ha]
    by_cases h3 : a = 63
    · subst h3; rw [hC_63]
    · by_cases h4 : a = 62
      · subst h4
        by_cases h6 : i = 6
        · subst h6; rw [hC_6, h2]
        · rw [hC_62 h6]
      · rw [hC_I (by omega)]
def dQ : Nat → Nat → Prop := fun a _ => a = 60 ∨ (62 ≤ a ∧ a ≤ 71)
theorem hC_X' (h : jH) (ct vt : Nat → Nat) (t l sz : Nat) (code : Nat → Int32) : jX (fun a _ => a = 60 ∨ a = 62 ∨ a = 63) jN h (hC h ct vt t l sz code) := by
  unfold hC
  exact ((jX.rf.wI (fun i n => absurd (Or.inl rfl) n)).wI (fun i n => absurd (Or.inr (Or.inl rfl)) n)).wI (fun i n => absurd (Or.inr (Or.inr rfl)) n)
theorem hC_X (h : jH) (ct vt : Nat → Nat) (t l sz : Nat) (code : Nat → Int32) : jX dQ jN h (hC h ct vt t l sz code) := (hC_X' h ct vt t l sz code).up (fun a i q => by unfold dQ; omega) (fun _ _ q => q)
theorem dR_dQ {a i : Nat} (q : dR 0 a i) : dQ a i := by unfold dR at q; unfold dQ; omega
theorem hK_X (h : jH) (A B C : Nat → Int32) : jX dQ jN h (hK h A B C) := by
  unfold hK
  exact ((jX.rf.wI (fun i n => absurd (Or.inr ⟨by omega, by omega⟩) n)).wI (fun i n => absurd (Or.inr ⟨by omega, by omega⟩) n)).wI (fun i n => absurd (Or.inr ⟨by omega, by omega⟩) n)
/-- before the split -/
def hL7 (h : jH) (od : Bool) : jH := j_sI (j_sI (j_sI (j_sI (j_sI h 60 11 (nI (ft_z od))) 60 10 (nI 0)) 60 2 (mI 0)) 62 6 (nI 0)) 62 7 (nI 0)
def hL9 (h : jH) (tp : Nat → Nat) (tl : Nat) (od : Bool) : jH := j_sI (hKp (hL7 h od) tp tl) 60 1 (nI 0)
theorem hL9_X (h : jH) (tp : Nat → Nat) (tl : Nat) (od : Bool) : jX dQ jN h (hL9 h tp tl od) := by
  have x1 : jX dQ jN h (hL7 h od) := ((((jX.rf.sI (Or.inl rfl)).sI (Or.inl rfl)).sI (Or.inl rfl)).sI (Or.inr ⟨by omega, by omega⟩)).sI (Or.inr ⟨by omega, by omega⟩)
  exact (x1.t (hK_X _ _ _ _)).sI (Or.inl rfl)
theorem hL9_60 {h : jH} {tp : Nat → Nat} {tl : Nat} {od : Bool} {i : Nat} (e : i ≠ 1) : j_I (hL9 h tp tl od) 60 i = j_I (hL7 h od) 60 i := by
  unfold hL9 hKp
  rw [I_sIk e, hK_I (by omega)]
theorem hL9_62 {h : jH} {tp : Nat → Nat} {tl : Nat} {od : Bool} {i : Nat} : j_I (hL9 h tp tl od) 62 i = j_I (hL7 h od) 62 i := by
  unfold hL9 hKp
  rw [I_sIn (by omega), hK_I (by omega)]
theorem hL7_TP {h : jH} {tp : Nat → Nat} {tl : Nat} (P : TP h tp tl) (od : Bool) : TP (hL7 h od) tp tl := by
  unfold hL7
  refine ⟨?_, P.2.1, fun i hi => ?_⟩
  · rw [I_sIn (by omega), I_sIn (by omega), I_sIk (by omega), I_sIk (by omega), I_sIk (by omega)]; exact P.1
  · rw [I_sIn (by omega), I_sIn (by omega), I_sIn (by omega), I_sIn (by omega), I_sIn (by omega)]; exact P.2.2 i hi
theorem hL9_CT {h : jH} {tp : Nat → Nat} {tl : Nat} (P : TP h tp tl) (od : Bool) : CT (hL9 h tp tl od) (tT tp tl) (tCt tp tl) (tVt tp tl) (tPl tp tl) (tN tp tl) := by
  refine tCT (A := j_I (hL7 h od) 69) (B := j_I (hL7 h od) 70) (C := j_I (hL7 h od) 71) (fun i hi => (P.2.2 i hi).2) P.2.1 (fun i _ => ?_) (fun i _ => ?_) (fun i _ => ?_)
  · unfold hL9 hKp hK
    rw [I_sIn (by omega), I_wIn (by omega), I_wIn (by omega), I_wIe]
  · unfold hL9 hKp hK
    rw [I_sIn (by omega), I_wIn (by omega), I_wIe]
  · unfold hL9 hKp hK
    rw [I_sIn (by omega), I_wIe]
theorem C_go0 {F : Nat × Nat} {h : jH} {T : Tk} {ct vt pl : Nat → Nat} {n : Nat} (S : ShP h) (C : CT h T ct vt pl n) (h1 : j_I h 60 10 = nI 0) (h2 : j_I h 62 6 = nI 0) : m_P_goTo F 60 (nI 0) h = some (none, hC h ct vt 0 0 0 (j_I h 63)) := by
  have hn := C.2.1
  have e1 := (C.1 0 (Nat.zero_le _)).2.1
  have e2 := (C.1 0 (Nat.zero_le _)).2.2
  have e3 := hC_in (u := 0) (ct := ct) (vt := vt) h1 h2
  simp (disch := first | exact sR_rfl _ _ rfl | omega) only [q_P_goTo, ft_lit, ft_m1, ft_m2, ft_m3, ft_m5, ft_m6, ft_cl, ft_lt, ft_le, ft_eq, ft_mlt, ft_ltm, ft_mltm, ft_meq, ft_eqm, ft_meqm, ft_add, ft_mul, ft_sub, ft_nm, ft_m1p, ft_and, ft_or, ft_31, ft_shl, ft_shr, ft_bz, ft_z0, ft_z1, ft_z01, ft_bb, ft_zt, ft_zf, ft_or0, ft_rv, ft_rvr, ft_rf, ft_rfn, ft_bI, ft_bJ, ft_bV, ft_bR, ft_bRn, ft_isr, ft_isn, ft_ifn, ft_ifr, ft_ov, ft_ovn, ft_in, k_sI, n_sI, R_sI, J_sI, c_sI, z_sI, k_sJ, n_sJ, R_sJ, I_sJ, c_sJ, z_sJ, k_sR, n_sR, I_sR, J_sR, c_sR, z_sR, k_wI, n_wI, R_wI, J_wI, I_wIe, k_wJ, n_wJ, R_wJ, I_wJ, J_wJe, I_wIn, J_wJn, I_sIe, J_sJe, R_sRe, I_sIn, I_sIk, J_sJn, J_sJk, R_sRn, R_sRk, eq_self, if_true, if_false, ↓reduceIte, cond_true, cond_false, ↓cond_eq_ite, and_true, true_and, and_false, false_and, or_true, true_or, or_false, false_or, not_true_eq_false, not_false_eq_true, ft_ltT, ft_ltF, ft_eqT, ft_eqF, Bool.false_eq_true, Bool.true_eq_false, Bool.not_true, Bool.not_false, Bool.and_true, Bool.true_and, Bool.and_false, Bool.false_and, decide_true, decide_false, Nat.reduceAdd, Nat.reduceMul, Nat.reduceSub, Nat.reduceEqDiff, Nat.reduceLT, Nat.zero_add, Nat.add_zero, Nat.reduceDiv, Nat.reduceMod, S.1, S.2.1, S.2.2.1, S.2.2.2.1, S.2.2.2.2.1, S.2.2.2.2.2.1, S.2.2.2.2.2.2.1, S.2.2.2.2.2.2.2.1, S.2.2.2.2.2.2.2.2.1, S.2.2.2.2.2.2.2.2.2.1, S.2.2.2.2.2.2.2.2.2.2.1, S.2.2.2.2.2.2.2.2.2.2.2.1, S.2.2.2.2.2.2.2.2.2.2.2.2.1, S.2.2.2.2.2.2.2.2.2.2.2.2.2.1, S.2.2.2.2.2.2.2.2.2.2.2.2.2.2, ↓sp_3 S, ↓sp_4 S, ↓sp_5 S, ↓sp_6 S, ↓sp_0 S, e1, e2, e3]
theorem C_go0_b {F : Nat × Nat} {h : jH} {T : Tk} {ct vt pl : Nat → Nat} {n : Nat} (S : ShP h) (C : CT h T ct vt pl n) (h1 : j_I h 60 10 = nI 0) (h2 : j_I h 62 6 = nI 0) (ff : jH → Option jO) : jbV (m_P_goTo F 60 (nI 0) h) ff = ff (hC h ct vt 0 0 0 (j_I h 63)) := bV_of (C_go0 (F := F) (h := h) (T := T) (ct := ct) (vt := vt) (pl := pl) (n := n) (S := S) (C := C) (h1 := h1) (h2 := h2)) ff
theorem C_reads0 {F : Nat × Nat} (hF : FF F) {h : jH} (S : ShF h) {tp : Nat → Nat} {tl : Nat} (P : TP h tp tl) (od : Bool) : m_P_reads F 60 (nI (ft_z od)) h = m_P_reads_47 F F.1 60 (nI (ft_z od)) (nI 0) (hC (hL9 h tp tl od) (tCt tp tl) (tVt tp tl) 0 0 0 (j_I (hL9 h tp tl od) 63)) := by
  have fd := C_find hF (h := hL7 h od) S (hL7_TP P od)
  have C := hL9_CT P od
  have g0 := C_go0 (F := F) (h := hL9 h tp tl od) (ShF.P (h := hL9 h tp tl od) S) C (by rw [hL9_60 (by omega)]; unfold hL7; rw [I_sIn (by omega), I_sIn (by omega), I_sIk (by omega), I_sIe]) (by rw [hL9_62]; unfold hL7; rw [I_sIk (by omega), I_sIe])
  have fd := bV_of fd
  have g0 := bV_of g0
  unfold hL7 at fd
  have e1 : ∀ h2 : jH, j_k (hKp h2 tp tl) 60 = j_k h2 60 := fun _ => rfl
  have g1 : ∀ ff : jH → Option jO, jbV (m_P_goTo F 60 (nI 0) (j_sI (hKp (j_sI (j_sI (j_sI (j_sI (j_sI h 60 11 (nI (ft_z od))) 60 10 (nI 0)) 60 2 (mI 0)) 62 6 (nI 0)) 62 7 (nI 0)) tp tl) 60 1 (nI 0))) ff = ff (hC (hL9 h tp tl od) (tCt tp tl) (tVt tp tl) 0 0 0 (j_I (hL9 h tp tl od) 63)) := g0
  have SP := S.P
  rw [q_P_reads]
  simp (disch := first | exact sR_rfl _ _ rfl | omega) only [ft_lit, ft_m1, ft_m2, ft_m3, ft_m5, ft_m6, ft_cl, ft_lt, ft_le, ft_eq, ft_mlt, ft_ltm, ft_mltm, ft_meq, ft_eqm, ft_meqm, ft_add, ft_mul, ft_sub, ft_nm, ft_m1p, ft_and, ft_or, ft_31, ft_shl, ft_shr, ft_bz, ft_z0, ft_z1, ft_z01, ft_bb, ft_zt, ft_zf, ft_or0, ft_rv, ft_rvr, ft_rf, ft_rfn, ft_bI, ft_bJ, ft_bV, ft_bR, ft_bRn, ft_isr, ft_isn, ft_ifn, ft_ifr, ft_ov, ft_ovn, ft_in, k_sI, n_sI, R_sI, J_sI, c_sI, z_sI, k_sJ, n_sJ, R_sJ, I_sJ, c_sJ, z_sJ, k_sR, n_sR, I_sR, J_sR, c_sR, z_sR, k_wI, n_wI, R_wI, J_wI, I_wIe, k_wJ, n_wJ, R_wJ, I_wJ, J_wJe, I_wIn, J_wJn, I_sIe, J_sJe, R_sRe, I_sIn, I_sIk, J_sJn, J_sJk, R_sRn, R_sRk, eq_self, if_true, if_false, ↓reduceIte, cond_true, cond_false, ↓cond_eq_ite, and_true, true_and, and_false, false_and, or_true, true_or, or_false, false_or, not_true_eq_false, not_false_eq_true, ft_ltT, ft_ltF, ft_eqT, ft_eqF, Bool.false_eq_true, Bool.true_eq_false, Bool.not_true, Bool.not_false, Bool.and_true, Bool.true_and, Bool.and_false, Bool.false_and, decide_true, decide_false, Nat.reduceAdd, Nat.reduceMul, Nat.reduceSub, Nat.reduceEqDiff, Nat.reduceLT, Nat.zero_add, Nat.add_zero, Nat.reduceDiv, Nat.reduceMod, SP.1, SP.2.1, SP.2.2.1, SP.2.2.2.1, SP.2.2.2.2.1, SP.2.2.2.2.2.1, SP.2.2.2.2.2.2.1, SP.2.2.2.2.2.2.2.1, SP.2.2.2.2.2.2.2.2.1, SP.2.2.2.2.2.2.2.2.2.1, SP.2.2.2.2.2.2.2.2.2.2.1, SP.2.2.2.2.2.2.2.2.2.2.2.1, SP.2.2.2.2.2.2.2.2.2.2.2.2.1, SP.2.2.2.2.2.2.2.2.2.2.2.2.2.1, SP.2.2.2.2.2.2.2.2.2.2.2.2.2.2, ↓sp_3 SP, ↓sp_4 SP, ↓sp_5 SP, ↓sp_6 SP, ↓sp_0 SP, ↓fd, e1, ↓g1]
theorem C_reads {F : Nat × Nat} (hF : FF F) {h : jH} (S : ShF h) {tp : Nat → Nat} {tl : Nat} (P : TP h tp tl) (od : Bool) : ((tX tp tl od).1.1 = true → ∃ h1, m_P_reads F 60 (nI (ft_z od)) h = some (some (.int (nI 1)), h1) ∧ jX dQ jN h h1 ∧ KL h1 0 0 (tX tp tl od).2 ∧ j_I h1 62 7 = nI (tX tp tl od).2.length ∧ (tX tp tl od).2.length ≤ 12 ∧ j_I h1 62 6 = nI (czL 0 (tX tp tl od).2).length ∧ (czL 0 (tX tp tl od).2).length ≤ 400 ∧ (∀ i, i < (czL 0 (tX tp tl od).2).length → j_I h1 63 i = nI ((czL 0 (tX tp tl od).2).getD i 0)) ∧ j_I h1 60 2 = mI 0 ∧ j_I h1 60 1 = nI 0) ∧ ((tX tp tl od).1.1 = false → ∃ h1, m_P_reads F 60 (nI (ft_z od)) h = some (some (.int (nI 0)), h1) ∧ jX dQ jN h h1 ∧ j_I h1 60 2 = nI (tPl tp tl (tX tp tl od).1.2.1) ∧ j_I h1 60 1 = nI 0) := by
  have hF1 := hF.1
  have C := hL9_CT P od
  have hn := C.2.1
  obtain ⟨g, hg⟩ : ∃ g, F.1 = g + 1 := ⟨F.1 - 1, by omega⟩
  have O : j_I (hL9 h tp tl od) 60 11 = nI (ft_z od) := by rw [hL9_60 (by omega)]; unfold hL7; rw [I_sIn (by omega), I_sIn (by omega), I_sIk (by omega), I_sIk (by omega), I_sIe]
  have O2 : j_I (hL9 h tp tl od) 60 2 = mI 0 := by rw [hL9_60 (by omega)]; unfold hL7; rw [I_sIn (by omega), I_sIn (by omega), I_sIe]
  have O1 : j_I (hL9 h tp tl od) 60 1 = nI 0 := by unfold hL9; rw [I_sIe]
  have k := C_47 hF (T := tT tp tl) (ct := tCt tp tl) (vt := tVt tp tl) (pl := tPl tp tl) (n := tN tp tl) (od := od) hN g 0 (hL9 h tp tl od) 0 0 0 (j_I (hL9 h tp tl od) 63) [] (ShF.P (h := hL9 h tp tl od) S) (ShF.Q (h := hL9 h tp tl od) S) C O (by omega) (by omega) (by omega) (by omega) (by unfold hN; omega) (by omega)
  rw [← hg, ← C_reads0 hF S P od] at k
  have X0 := hL9_X h tp tl od
  refine ⟨fun e => ?_, fun e => ?_⟩
  · obtain ⟨h1, cs, l', a1, a2, a3, a4, a5, a6, a7⟩ := k.1 e
    have a1 : (tX tp tl od).2 = cs := a1
    rw [a1]
    rw [Nat.zero_add] at a4 a5 a6 a7
    have hc := hC_X h1 (tCt tp tl) (tVt tp tl) (tN tp tl) l' (czL 0 cs).length (cput (j_I (hL9 h tp tl od) 63) 0 (czL 0 cs))
    refine ⟨_, a7, (X0.t (a2.up (fun a i q => dR_dQ q) (fun _ _ q => q))).t hc, a3.fr (hC_X' _ _ _ _ _ _ _) cs (fun a j h1 h2 h3 q => by omega), ?_, a5, hC_6 _ _ _ _ _ _ _, by omega, fun i hi => ?_, ?_, ?_⟩
    · rw [hC_62 (by omega)]; exact a4
    · rw [hC_63, cput_r hi]
    · rw [hC_o (by omega), a2.I (by unfold dR; omega)]; exact O2
    · rw [hC_o (by omega), a2.I (by unfold dR; omega)]; exact O1
  · obtain ⟨h1, l', sz', code', a2, a7⟩ := k.2 e
    have hc := hC_X h1 (tCt tp tl) (tVt tp tl) (tX tp tl od).1.2.1 l' sz' code'
    refine ⟨_, a7, ((X0.t (a2.up (fun a i q => dR_dQ q) (fun _ _ q => q))).t hc).sI (Or.inl rfl), ?_, ?_⟩
    · rw [I_sIe]; rfl
    · rw [I_sIk (by omega), hC_o (by omega), a2.I (by unfold dR; omega)]; exact O1
