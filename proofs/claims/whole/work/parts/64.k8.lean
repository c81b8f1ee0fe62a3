/-! TOKENS: both rows of one text -/
theorem gd_map {f : Nat × Nat × Nat × Nat → Nat} {z : Nat} : ∀ {L : Tz} {i : Nat} (hi : i < L.length), (L.map f ++ [z]).getD i 0 = f (L[i])
  | [], i, hi => absurd hi (by simp)
  | q :: L, 0, hi => rfl
  | q :: L, i + 1, hi => by
    have := gd_map (f := f) (z := z) (L := L) (i := i) (by simpa using hi)
    simpa using this
theorem gd_end {f : Nat × Nat × Nat × Nat → Nat} {z : Nat} : ∀ {L : Tz}, (L.map f ++ [z]).getD L.length 0 = z
  | [] => rfl
  | q :: L => by
    have := gd_end (f := f) (z := z) (L := L)
    simpa using this
theorem gd_out {f : Nat × Nat × Nat × Nat → Nat} {z : Nat} {L : Tz} {i : Nat} (hi : L.length < i) : (L.map f ++ [z]).getD i 0 = 0 := by
  rw [List.getD_eq_getElem?_getD, List.getElem?_eq_none (by simp; omega)]
  rfl
theorem gd_all {f : Nat × Nat × Nat × Nat → Nat} {z : Nat} {L : Tz} {p : Nat → Prop} (h1 : ∀ q ∈ L, p (f q)) (h2 : p z) (h3 : p 0) (i : Nat) : p ((L.map f ++ [z]).getD i 0) := by
  rcases Nat.lt_trichotomy i L.length with h | h | h
  · rw [gd_map h]; exact h1 _ (List.getElem_mem h)
  · rw [h, gd_end]; exact h2
  · rw [gd_out h]; exact h3
/-- the tokens of a tape -/
def tL (tp : Nat → Nat) (tl : Nat) : Tz := tz tp tl (tl + 1) 0
def tT (tp : Nat → Nat) (tl : Nat) : Tk := (fun i => (tzM (tL tp tl)).getD i 0, fun i => (tzW (tL tp tl)).getD i 0)
def tPl (tp : Nat → Nat) (tl : Nat) : Nat → Nat := fun i => (tzP (tL tp tl) tl).getD i 0
def tCt (tp : Nat → Nat) (tl : Nat) : Nat → Nat := fun i => (tzC (tL tp tl)).getD i 0
def tVt (tp : Nat → Nat) (tl : Nat) : Nat → Nat := fun i => (tzV (tL tp tl)).getD i 0
def tN (tp : Nat → Nat) (tl : Nat) : Nat := (tL tp tl).length
theorem cput_r {A : Nat → Int32} {c : List Nat} {i : Nat} (h : i < c.length) : cput A 0 c i = nI (c.getD i 0) := by
  unfold cput
  rw [if_pos ⟨Nat.zero_le _, by omega⟩]
  rfl
theorem tN_le {tp : Nat → Nat} {tl : Nat} (h : tl ≤ 400) : tN tp tl ≤ 400 := by
  have := tz_len tp tl (tl + 1) 0
  unfold tN tL
  omega
theorem tTM {h : jH} {tp : Nat → Nat} {tl : Nat} (hb : ∀ i, i < tl → tp i < 256) (hl : tl ≤ 400) {A B C : Nat → Int32} (e1 : ∀ i, i ≤ tN tp tl → j_I h 94 i = cput A 0 (tzM (tL tp tl)) i) (e2 : ∀ i, i ≤ tN tp tl → j_I h 95 i = cput B 0 (tzW (tL tp tl)) i) (e3 : ∀ i, i ≤ tN tp tl → j_I h 96 i = cput C 0 (tzP (tL tp tl) tl) i) : TM h (tT tp tl) (tPl tp tl) (tN tp tl) := by
  have g := tz_good hb hl (tl + 1) 0
  refine ⟨fun i hi => ⟨?_, ?_, ?_⟩, tN_le hl, ?_, fun i => ⟨?_, ?_, ?_⟩⟩
  · rw [e1 i hi, cput_r (by unfold tzM; unfold tN at hi; simp; omega)]; rfl
  · rw [e2 i hi, cput_r (by unfold tzW; unfold tN at hi; simp; omega)]; rfl
  · rw [e3 i hi, cput_r (by unfold tzP; unfold tN at hi; simp; omega)]; rfl
  · exact gd_end
  · exact gd_all (p := fun x => x < 2147483648) (fun q hq => by have := (g q hq).2.1; omega) (by omega) (by omega) i
  · exact gd_all (p := fun x => x < 2147483648) (fun q hq => by have := (g q hq).2.2.1; omega) (by omega) (by omega) i
  · exact gd_all (p := fun x => x < 2147483648) (fun q hq => by have := (g q hq).1; omega) (by omega) (by omega) i
theorem gC_lt : ∀ c, c < 356 → gC c < 1000 := by decide +kernel
theorem tCT {h : jH} {tp : Nat → Nat} {tl : Nat} (hb : ∀ i, i < tl → tp i < 256) (hl : tl ≤ 400) {A B C : Nat → Int32} (e1 : ∀ i, i ≤ tN tp tl → j_I h 69 i = cput A 0 (tzP (tL tp tl) tl) i) (e2 : ∀ i, i ≤ tN tp tl → j_I h 70 i = cput B 0 (tzC (tL tp tl)) i) (e3 : ∀ i, i ≤ tN tp tl → j_I h 71 i = cput C 0 (tzV (tL tp tl)) i) : CT h (tT tp tl) (tCt tp tl) (tVt tp tl) (tPl tp tl) (tN tp tl) := by
  have g := tz_good hb hl (tl + 1) 0
  refine ⟨fun i hi => ⟨?_, ?_, ?_⟩, tN_le hl, ?_, ?_, fun i hi => ?_, fun i => ?_, fun i => ⟨?_, ?_, ?_⟩, fun i e => ?_⟩
  · rw [e1 i hi, cput_r (by unfold tzP; unfold tN at hi; simp; omega)]; rfl
  · rw [e2 i hi, cput_r (by unfold tzC; unfold tN at hi; simp; omega)]; rfl
  · rw [e3 i hi, cput_r (by unfold tzV; unfold tN at hi; simp; omega)]; rfl
  · exact gd_end
  · exact gd_end
  · have a : (tCt tp tl) i = gC ((tL tp tl)[i]).2.1 := gd_map hi
    have b : (tT tp tl).1 i = ((tL tp tl)[i]).2.1 := gd_map hi
    rw [a, b]
  · exact gd_all (p := fun x => x < 356) (fun q hq => (g q hq).2.1) (by omega) (by omega) i
  · exact gd_all (p := fun x => x < 1000) (fun q hq => gC_lt _ (g q hq).2.1) (by omega) (by omega) i
  · exact gd_all (p := fun x => x < 100000) (fun q hq => by have := (g q hq).2.2.2.1; omega) (by omega) (by omega) i
  · exact gd_all (p := fun x => x < 1000) (fun q hq => by have := (g q hq).1; omega) (by omega) (by omega) i
  · rcases Nat.lt_or_ge i (tL tp tl).length with w | w
    · have a : (tVt tp tl) i = ((tL tp tl)[i]).2.2.2 := gd_map w
      have b : (tT tp tl).1 i = ((tL tp tl)[i]).2.1 := gd_map w
      have c : (tT tp tl).2 i = ((tL tp tl)[i]).2.2.1 := gd_map w
      rw [b] at e
      rw [a, c]
      exact (g _ (List.getElem_mem w)).2.2.2.2 e
    · exfalso
      have z : (tT tp tl).1 i = 0 := by
        rcases Nat.lt_or_ge (tL tp tl).length i with y | y
        · exact gd_out y
        · have : i = (tL tp tl).length := by omega
          rw [this]; exact gd_end
      omega
theorem hS_in (h : jH) : j_sI h 85 18 (nI 0) = hS h 0 (j_I h 94) (j_I h 95) (j_I h 96) := by
  refine heq_of (by rfl) (by rfl) ?_
  intro b i
  unfold hS
  by_cases e : b = 85
  · subst e
    by_cases e2 : i = 18
    · subst e2; simp (disch := first | exact sR_rfl _ _ rfl | omega) only [ft_lit, ft_m1, ft_m2, ft_m3, ft_m5, ft_m6, ft_cl, ft_lt, ft_le, ft_eq, ft_mlt, ft_ltm, ft_mltm, ft_meq, ft_eqm, ft_meqm, ft_add, ft_mul, ft_sub, ft_nm, ft_m1p, ft_and, ft_or, ft_31, ft_shl, ft_shr, ft_bz, ft_z0, ft_z1, ft_z01, ft_bb, ft_zt, ft_zf, ft_or0, ft_rv, ft_rvr, ft_rf, ft_rfn, ft_bI, ft_bJ, ft_bV, ft_bR, ft_bRn, ft_isr, ft_isn, ft_ifn, ft_ifr, ft_ov, ft_ovn, ft_in, k_sI, n_sI, R_sI, J_sI, c_sI, z_sI, k_sJ, n_sJ, R_sJ, I_sJ, c_sJ, z_sJ, k_sR, n_sR, I_sR, J_sR, c_sR, z_sR, k_wI, n_wI, R_wI, J_wI, I_wIe, k_wJ, n_wJ, R_wJ, I_wJ, J_wJe, I_wIn, J_wJn, I_sIe, J_sJe, R_sRe, I_sIn, I_sIk, J_sJn, J_sJk, R_sRn, R_sRk, eq_self, if_true, if_false, ↓reduceIte, cond_true, cond_false, ↓cond_eq_ite, and_true, true_and, and_false, false_and, or_true, true_or, or_false, false_or, not_true_eq_false, not_false_eq_true, ft_ltT, ft_ltF, ft_eqT, ft_eqF, Bool.false_eq_true, Bool.true_eq_false, Bool.not_true, Bool.not_false, Bool.and_true, Bool.true_and, Bool.and_false, Bool.false_and, decide_true, decide_false, Nat.reduceAdd, Nat.reduceMul, Nat.reduceSub, Nat.reduceEqDiff, Nat.reduceLT, Nat.zero_add, Nat.add_zero, Nat.reduceDiv, Nat.reduceMod]
    · simp (disch := first | exact sR_rfl _ _ rfl | omega) only [ft_lit, ft_m1, ft_m2, ft_m3, ft_m5, ft_m6, ft_cl, ft_lt, ft_le, ft_eq, ft_mlt, ft_ltm, ft_mltm, ft_meq, ft_eqm, ft_meqm, ft_add, ft_mul, ft_sub, ft_nm, ft_m1p, ft_and, ft_or, ft_31, ft_shl, ft_shr, ft_bz, ft_z0, ft_z1, ft_z01, ft_bb, ft_zt, ft_zf, ft_or0, ft_rv, ft_rvr, ft_rf, ft_rfn, ft_bI, ft_bJ, ft_bV, ft_bR, ft_bRn, ft_isr, ft_isn, ft_ifn, ft_ifr, ft_ov, ft_ovn, ft_in, k_sI, n_sI, R_sI, J_sI, c_sI, z_sI, k_sJ, n_sJ, R_sJ, I_sJ, c_sJ, z_sJ, k_sR, n_sR, I_sR, J_sR, c_sR, z_sR, k_wI, n_wI, R_wI, J_wI, I_wIe, k_wJ, n_wJ, R_wJ, I_wJ, J_wJe, I_wIn, J_wJn, I_sIe, J_sJe, R_sRe, I_sIn, I_sIk, J_sJn, J_sJk, R_sRn, R_sRk, eq_self, if_true, if_false, ↓reduceIte, cond_true, cond_false, ↓cond_eq_ite, and_true, true_and, and_false, false_and, or_true, true_or, or_false, false_or, not_true_eq_false, not_false_eq_true, ft_ltT, ft_ltF, ft_eqT, ft_eqF, Bool.false_eq_true, Bool.true_eq_false, Bool.not_true, Bool.not_false, Bool.and_true, Bool.true_and, Bool.and_false, Bool.false_and, decide_true, decide_false, Nat.reduceAdd, Nat.reduceMul, Nat.reduceSub, Nat.reduceEqDiff, Nat.reduceLT, Nat.zero_add, Nat.add_zero, Nat.reduceDiv, Nat.reduceMod]
  · simp (disch := first | exact sR_rfl _ _ rfl | omega) only [ft_lit, ft_m1, ft_m2, ft_m3, ft_m5, ft_m6, ft_cl, ft_lt, ft_le, ft_eq, ft_mlt, ft_ltm, ft_mltm, ft_meq, ft_eqm, ft_meqm, ft_add, ft_mul, ft_sub, ft_nm, ft_m1p, ft_and, ft_or, ft_31, ft_shl, ft_shr, ft_bz, ft_z0, ft_z1, ft_z01, ft_bb, ft_zt, ft_zf, ft_or0, ft_rv, ft_rvr, ft_rf, ft_rfn, ft_bI, ft_bJ, ft_bV, ft_bR, ft_bRn, ft_isr, ft_isn, ft_ifn, ft_ifr, ft_ov, ft_ovn, ft_in, k_sI, n_sI, R_sI, J_sI, c_sI, z_sI, k_sJ, n_sJ, R_sJ, I_sJ, c_sJ, z_sJ, k_sR, n_sR, I_sR, J_sR, c_sR, z_sR, k_wI, n_wI, R_wI, J_wI, I_wIe, k_wJ, n_wJ, R_wJ, I_wJ, J_wJe, I_wIn, J_wJn, I_sIe, J_sJe, R_sRe, I_sIn, I_sIk, J_sJn, J_sJk, R_sRn, R_sRk, eq_self, if_true, if_false, ↓reduceIte, cond_true, cond_false, ↓cond_eq_ite, and_true, true_and, and_false, false_and, or_true, true_or, or_false, false_or, not_true_eq_false, not_false_eq_true, ft_ltT, ft_ltF, ft_eqT, ft_eqF, Bool.false_eq_true, Bool.true_eq_false, Bool.not_true, Bool.not_false, Bool.and_true, Bool.true_and, Bool.and_false, Bool.false_and, decide_true, decide_false, Nat.reduceAdd, Nat.reduceMul, Nat.reduceSub, Nat.reduceEqDiff, Nat.reduceLT, Nat.zero_add, Nat.add_zero, Nat.reduceDiv, Nat.reduceMod]
    by_cases e3 : b = 96
    · subst e3; rw [I_wIe]
    · by_cases e4 : b = 94
      · subst e4; simp (disch := first | exact sR_rfl _ _ rfl | omega) only [ft_lit, ft_m1, ft_m2, ft_m3, ft_m5, ft_m6, ft_cl, ft_lt, ft_le, ft_eq, ft_mlt, ft_ltm, ft_mltm, ft_meq, ft_eqm, ft_meqm, ft_add, ft_mul, ft_sub, ft_nm, ft_m1p, ft_and, ft_or, ft_31, ft_shl, ft_shr, ft_bz, ft_z0, ft_z1, ft_z01, ft_bb, ft_zt, ft_zf, ft_or0, ft_rv, ft_rvr, ft_rf, ft_rfn, ft_bI, ft_bJ, ft_bV, ft_bR, ft_bRn, ft_isr, ft_isn, ft_ifn, ft_ifr, ft_ov, ft_ovn, ft_in, k_sI, n_sI, R_sI, J_sI, c_sI, z_sI, k_sJ, n_sJ, R_sJ, I_sJ, c_sJ, z_sJ, k_sR, n_sR, I_sR, J_sR, c_sR, z_sR, k_wI, n_wI, R_wI, J_wI, I_wIe, k_wJ, n_wJ, R_wJ, I_wJ, J_wJe, I_wIn, J_wJn, I_sIe, J_sJe, R_sRe, I_sIn, I_sIk, J_sJn, J_sJk, R_sRn, R_sRk, eq_self, if_true, if_false, ↓reduceIte, cond_true, cond_false, ↓cond_eq_ite, and_true, true_and, and_false, false_and, or_true, true_or, or_false, false_or, not_true_eq_false, not_false_eq_true, ft_ltT, ft_ltF, ft_eqT, ft_eqF, Bool.false_eq_true, Bool.true_eq_false, Bool.not_true, Bool.not_false, Bool.and_true, Bool.true_and, Bool.and_false, Bool.false_and, decide_true, decide_false, Nat.reduceAdd, Nat.reduceMul, Nat.reduceSub, Nat.reduceEqDiff, Nat.reduceLT, Nat.zero_add, Nat.add_zero, Nat.reduceDiv, Nat.reduceMod]
      · by_cases e5 : b = 95
        · subst e5; simp (disch := first | exact sR_rfl _ _ rfl | omega) only [ft_lit, ft_m1, ft_m2, ft_m3, ft_m5, ft_m6, ft_cl, ft_lt, ft_le, ft_eq, ft_mlt, ft_ltm, ft_mltm, ft_meq, ft_eqm, ft_meqm, ft_add, ft_mul, ft_sub, ft_nm, ft_m1p, ft_and, ft_or, ft_31, ft_shl, ft_shr, ft_bz, ft_z0, ft_z1, ft_z01, ft_bb, ft_zt, ft_zf, ft_or0, ft_rv, ft_rvr, ft_rf, ft_rfn, ft_bI, ft_bJ, ft_bV, ft_bR, ft_bRn, ft_isr, ft_isn, ft_ifn, ft_ifr, ft_ov, ft_ovn, ft_in, k_sI, n_sI, R_sI, J_sI, c_sI, z_sI, k_sJ, n_sJ, R_sJ, I_sJ, c_sJ, z_sJ, k_sR, n_sR, I_sR, J_sR, c_sR, z_sR, k_wI, n_wI, R_wI, J_wI, I_wIe, k_wJ, n_wJ, R_wJ, I_wJ, J_wJe, I_wIn, J_wJn, I_sIe, J_sJe, R_sRe, I_sIn, I_sIk, J_sJn, J_sJk, R_sRn, R_sRk, eq_self, if_true, if_false, ↓reduceIte, cond_true, cond_false, ↓cond_eq_ite, and_true, true_and, and_false, false_and, or_true, true_or, or_false, false_or, not_true_eq_false, not_false_eq_true, ft_ltT, ft_ltF, ft_eqT, ft_eqF, Bool.false_eq_true, Bool.true_eq_false, Bool.not_true, Bool.not_false, Bool.and_true, Bool.true_and, Bool.and_false, Bool.false_and, decide_true, decide_false, Nat.reduceAdd, Nat.reduceMul, Nat.reduceSub, Nat.reduceEqDiff, Nat.reduceLT, Nat.zero_add, Nat.add_zero, Nat.reduceDiv, Nat.reduceMod]
        · simp (disch := first | exact sR_rfl _ _ rfl | omega) only [ft_lit, ft_m1, ft_m2, ft_m3, ft_m5, ft_m6, ft_cl, ft_lt, ft_le, ft_eq, ft_mlt, ft_ltm, ft_mltm, ft_meq, ft_eqm, ft_meqm, ft_add, ft_mul, ft_sub, ft_nm, ft_m1p, ft_and, ft_or, ft_31, ft_shl, ft_shr, ft_bz, ft_z0, ft_z1, ft_z01, ft_bb, ft_zt, ft_zf, ft_or0, ft_rv, ft_rvr, ft_rf, ft_rfn, ft_bI, ft_bJ, ft_bV, ft_bR, ft_bRn, ft_isr, ft_isn, ft_ifn, ft_ifr, ft_ov, ft_ovn, ft_in, k_sI, n_sI, R_sI, J_sI, c_sI, z_sI, k_sJ, n_sJ, R_sJ, I_sJ, c_sJ, z_sJ, k_sR, n_sR, I_sR, J_sR, c_sR, z_sR, k_wI, n_wI, R_wI, J_wI, I_wIe, k_wJ, n_wJ, R_wJ, I_wJ, J_wJe, I_wIn, J_wJn, I_sIe, J_sJe, R_sRe, I_sIn, I_sIk, J_sJn, J_sJk, R_sRn, R_sRk, eq_self, if_true, if_false, ↓reduceIte, cond_true, cond_false, ↓cond_eq_ite, and_true, true_and, and_false, false_and, or_true, true_or, or_false, false_or, not_true_eq_false, not_false_eq_true, ft_ltT, ft_ltF, ft_eqT, ft_eqF, Bool.false_eq_true, Bool.true_eq_false, Bool.not_true, Bool.not_false, Bool.and_true, Bool.true_and, Bool.and_false, Bool.false_and, decide_true, decide_false, Nat.reduceAdd, Nat.reduceMul, Nat.reduceSub, Nat.reduceEqDiff, Nat.reduceLT, Nat.zero_add, Nat.add_zero, Nat.reduceDiv, Nat.reduceMod]
/-- the reference, split -/
def hSp (h : jH) (tp : Nat → Nat) (tl : Nat) : jH := hS h (tN tp tl) (cput (j_I h 94) 0 (tzM (tL tp tl))) (cput (j_I h 95) 0 (tzW (tL tp tl))) (cput (j_I h 96) 0 (tzP (tL tp tl) tl))
theorem M_splits {F : Nat × Nat} (hF : FF F) {h : jH} (S : ShM h) (W : WM h) {tp : Nat → Nat} {tl : Nat} (Q : TQ h tp tl) : m_M_splits F 85 (nI tl) h = some (none, hSp h tp tl) := by
  have hF1 := hF.1
  have q := Q.1
  have k := M_7 hF S W Q (tl + 1) 0 0 F.1 (j_I h 94) (j_I h 95) (j_I h 96) (by omega) (by omega) (by omega) (by omega)
  rw [q_M_splits, if_pos (sm_k85 S)]
  show m_M_splits_7 F F.1 85 (nI tl) (nI 0) (j_sI h 85 18 (nI 0)) = _
  rw [hS_in, k, Nat.zero_add]
  rfl
theorem M_splits_b {F : Nat × Nat} (hF : FF F) {h : jH} (S : ShM h) (W : WM h) {tp : Nat → Nat} {tl : Nat} (Q : TQ h tp tl) (ff : jH → Option jO) : jbV (m_M_splits F 85 (nI tl) h) ff = ff (hSp h tp tl) := bV_of (M_splits (F := F) (hF := hF) (h := h) (S := S) (W := W) (tp := tp) (tl := tl) (Q := Q)) ff
/-- the class, split -/
def hKp (h : jH) (tp : Nat → Nat) (tl : Nat) : jH := hK h (cput (j_I h 69) 0 (tzP (tL tp tl) tl)) (cput (j_I h 70) 0 (tzC (tL tp tl))) (cput (j_I h 71) 0 (tzV (tL tp tl)))
theorem hK_in (h : jH) : h = hK h (j_I h 69) (j_I h 70) (j_I h 71) := by
  unfold hK
  rw [wI_0 h 69 (fun _ => rfl), wI_0 h 70 (fun _ => rfl), wI_0 h 71 (fun _ => rfl)]
theorem C_find {F : Nat × Nat} (hF : FF F) {h : jH} (S : ShF h) {tp : Nat → Nat} {tl : Nat} (P : TP h tp tl) : m_P_findTokens F 60 h = some (none, hKp h tp tl) := by
  have hF1 := hF.1
  have q := P.2.1
  have k := C_f4 hF S P (tl + 1) 0 0 F.1 (j_I h 69) (j_I h 70) (j_I h 71) (by omega) (by omega) (by omega) (by omega)
  rw [q_P_findTokens]
  rw [← hK_in] at k
  rw [k]
  rfl
theorem C_find_b {F : Nat × Nat} (hF : FF F) {h : jH} (S : ShF h) {tp : Nat → Nat} {tl : Nat} (P : TP h tp tl) (ff : jH → Option jO) : jbV (m_P_findTokens F 60 h) ff = ff (hKp h tp tl) := bV_of (C_find (F := F) (hF := hF) (h := h) (S := S) (tp := tp) (tl := tl) (P := P)) ff
