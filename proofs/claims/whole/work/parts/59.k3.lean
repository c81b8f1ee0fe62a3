/-! TOKENS: the split -/
def kL (b : Nat) : Bool := decide (97 ≤ b ∧ b ≤ 122)
def kD (b : Nat) : Bool := decide (48 ≤ b ∧ b ≤ 57)
/-- where a run ends -/
def rn (p : Nat → Bool) (tp : Nat → Nat) : Nat → Nat → Nat
  | 0, i => i
  | d + 1, i => if p (tp i) then rn p tp d (i + 1) else i
theorem rn_le (p : Nat → Bool) (tp : Nat → Nat) : ∀ d i, i ≤ rn p tp d i ∧ rn p tp d i ≤ i + d
  | 0, i => ⟨Nat.le_refl _, Nat.le_refl _⟩
  | d + 1, i => by
    unfold rn
    have ih := rn_le p tp d (i + 1)
    split <;> constructor <;> omega
theorem rn_all (p : Nat → Bool) (tp : Nat → Nat) : ∀ d i x, i ≤ x → x < rn p tp d i → p (tp x) = true
  | 0, i, x, h1, h2 => by unfold rn at h2; omega
  | d + 1, i, x, h1, h2 => by
    unfold rn at h2
    by_cases w : p (tp i) = true
    · rw [if_pos w] at h2
      by_cases e : i = x
      · rw [← e]; exact w
      · exact rn_all p tp d (i + 1) x (by omega) h2
    · rw [if_neg w] at h2; omega
/-- a number, read until it is above cap -/
def nV (cap : Nat) (tp : Nat → Nat) : Nat → Nat → Nat → Nat
  | 0, _, v => v
  | d + 1, i, v => if cap < v then v else nV cap tp d (i + 1) (10 * v + (tp i - 48))
theorem nV_ge (cap : Nat) (tp : Nat → Nat) : ∀ d i v, v ≤ nV cap tp d i v
  | 0, i, v => Nat.le_refl _
  | d + 1, i, v => by
    unfold nV
    split
    · exact Nat.le_refl _
    · have := nV_ge cap tp d (i + 1) (10 * v + (tp i - 48)); omega
theorem nV_lt (cap : Nat) (tp : Nat → Nat) : ∀ d i v, (∀ x, i ≤ x → x < i + d → tp x - 48 < 10) → v ≤ 10 * cap + 9 → nV cap tp d i v ≤ 10 * cap + 9
  | 0, i, v, _, hv => hv
  | d + 1, i, v, ht, hv => by
    unfold nV
    split
    · exact hv
    · have := ht i (Nat.le_refl _) (by omega)
      exact nV_lt cap tp d (i + 1) _ (fun x a b => ht x (by omega) (by omega)) (by omega)
theorem nV_out {cap : Nat} {tp : Nat → Nat} {d i v : Nat} (h : cap < v) : nV cap tp d i v = v := by
  cases d with
  | zero => rfl
  | succ d => unfold nV; rw [if_pos h]
theorem nV_two (tp : Nat → Nat) : ∀ d i v, v ≤ 10009 → (nV 1000000 tp d i v ≤ 1000 → nV 1000 tp d i v = nV 1000000 tp d i v) ∧ (1000 < nV 1000000 tp d i v → 1000 < nV 1000 tp d i v)
  | 0, i, v, _ => ⟨fun _ => rfl, fun h => h⟩
  | d + 1, i, v, hv => by
    by_cases w : 1000 < v
    · have := nV_ge 1000000 tp (d + 1) i v
      rw [nV_out (cap := 1000) w]
      exact ⟨fun z => absurd z (by omega), fun _ => w⟩
    · unfold nV
      rw [if_neg w, if_neg (by omega)]
      by_cases y : 10 * v + (tp i - 48) ≤ 10009
      · exact nV_two tp d (i + 1) _ y
      · have h1 := nV_ge 1000000 tp d (i + 1) (10 * v + (tp i - 48))
        have h2 := nV_ge 1000 tp d (i + 1) (10 * v + (tp i - 48))
        constructor <;> intro z <;> omega
abbrev Tz : Type := List (Nat × Nat × Nat × Nat)
/-- place, the reference's code and value, the class's value -/
def tz (tp : Nat → Nat) (tl : Nat) : Nat → Nat → Tz
  | 0, _ => []
  | d + 1, i => if i < tl then
      (if kL (tp i) then (i, mWc (tby tp i (rn kL tp (tl - (i + 1)) (i + 1))), 0, 0) :: tz tp tl d (rn kL tp (tl - (i + 1)) (i + 1))
      else if kD (tp i) then (i, 50, nV 1000000 tp (rn kD tp (tl - (i + 1)) (i + 1) - i) i 0, nV 1000 tp (rn kD tp (tl - (i + 1)) (i + 1) - i) i 0) :: tz tp tl d (rn kD tp (tl - (i + 1)) (i + 1))
      else if tp i = 32 then tz tp tl d (i + 1) else (i, 100 + tp i, 0, 0) :: tz tp tl d (i + 1)) else []
theorem tz_len (tp : Nat → Nat) (tl : Nat) : ∀ d i, (tz tp tl d i).length ≤ tl - i
  | 0, i => Nat.zero_le _
  | d + 1, i => by
    unfold tz
    have h1 := rn_le kL tp (tl - (i + 1)) (i + 1)
    have h2 := rn_le kD tp (tl - (i + 1)) (i + 1)
    have a := tz_len tp tl d (rn kL tp (tl - (i + 1)) (i + 1))
    have b := tz_len tp tl d (rn kD tp (tl - (i + 1)) (i + 1))
    have c := tz_len tp tl d (i + 1)
    split
    · split
      · simp only [List.length_cons]; omega
      · split
        · simp only [List.length_cons]; omega
        · split
          · omega
          · simp only [List.length_cons]; omega
    · exact Nat.zero_le _
theorem mWc_lt (w : List Nat) : mWc w < 28 := by unfold mWc; split <;> omega
/-- each token's bounds -/
def tzG (q : Nat × Nat × Nat × Nat) : Prop := q.1 < 400 ∧ q.2.1 < 356 ∧ q.2.2.1 ≤ 10000009 ∧ q.2.2.2 ≤ 10009 ∧ (q.2.1 = 50 → (q.2.2.1 ≤ 1000 → q.2.2.2 = q.2.2.1) ∧ (1000 < q.2.2.1 → 1000 < q.2.2.2))
theorem tz_good {tp : Nat → Nat} {tl : Nat} (hb : ∀ i, i < tl → tp i < 256) (hl : tl ≤ 400) : ∀ d i, ∀ q ∈ tz tp tl d i, tzG q
  | 0, i, q, h => by unfold tz at h; cases h
  | d + 1, i, q, h => by
    unfold tz at h
    have h1 := rn_le kL tp (tl - (i + 1)) (i + 1)
    have h2 := rn_le kD tp (tl - (i + 1)) (i + 1)
    by_cases w : i < tl
    · rw [if_pos w] at h
      by_cases w1 : kL (tp i) = true
      · rw [if_pos w1] at h
        rcases List.mem_cons.mp h with e | e
        · subst e
          have := mWc_lt (tby tp i (rn kL tp (tl - (i + 1)) (i + 1)))
          exact ⟨by show i < 400; omega, by show mWc _ < 356; omega, by show 0 ≤ _; omega, by show 0 ≤ _; omega, fun z => by have : mWc (tby tp i (rn kL tp (tl - (i + 1)) (i + 1))) = 50 := z; omega⟩
        · exact tz_good hb hl d _ q e
      · rw [if_neg w1] at h
        by_cases w2 : kD (tp i) = true
        · rw [if_pos w2] at h
          rcases List.mem_cons.mp h with e | e
          · subst e
            have hd : ∀ x, i ≤ x → x < i + (rn kD tp (tl - (i + 1)) (i + 1) - i) → tp x - 48 < 10 := fun x a b => by
              have : kD (tp x) = true := by
                by_cases y : i = x
                · rw [← y]; exact w2
                · exact rn_all kD tp (tl - (i + 1)) (i + 1) x (by omega) (by omega)
              unfold kD at this
              have := of_decide_eq_true this
              omega
            exact ⟨by show i < 400; omega, by show 50 < 356; omega, nV_lt 1000000 tp _ i 0 hd (by omega), nV_lt 1000 tp _ i 0 hd (by omega), fun _ => nV_two tp _ i 0 (by omega)⟩
          · exact tz_good hb hl d _ q e
        · rw [if_neg w2] at h
          by_cases w3 : tp i = 32
          · rw [if_pos w3] at h
            exact tz_good hb hl d _ q h
          · rw [if_neg w3] at h
            rcases List.mem_cons.mp h with e | e
            · subst e
              have := hb i w
              exact ⟨by show i < 400; omega, by show 100 + tp i < 356; omega, by show 0 ≤ _; omega, by show 0 ≤ _; omega, fun z => by have : 100 + tp i = 50 := z; omega⟩
            · exact tz_good hb hl d _ q e
    · rw [if_neg w] at h; cases h
/-- the class's rows of tokens -/
def hK (h : jH) (A B C : Nat → Int32) : jH := j_wI (j_wI (j_wI h 69 A) 70 B) 71 C
theorem C_put {F : Nat × Nat} {h : jH} (S : ShP h) {A B C : Nat → Int32} {c : Nat} (hc : c < 401) (p x y : Int32) : m_P_putToken F 60 (nI c) p x y (hK h A B C) = some (none, hK h (va_up A c p) (va_up B c x) (va_up C c y)) := by
  unfold hK
  simp (disch := first | exact sR_rfl _ _ rfl | omega) only [q_P_putToken, ft_lit, ft_m1, ft_m2, ft_m3, ft_m5, ft_m6, ft_cl, ft_lt, ft_le, ft_eq, ft_mlt, ft_ltm, ft_mltm, ft_meq, ft_eqm, ft_meqm, ft_add, ft_mul, ft_sub, ft_nm, ft_m1p, ft_and, ft_or, ft_31, ft_shl, ft_shr, ft_bz, ft_z0, ft_z1, ft_z01, ft_bb, ft_zt, ft_zf, ft_or0, ft_rv, ft_rvr, ft_rf, ft_rfn, ft_bI, ft_bJ, ft_bV, ft_bR, ft_bRn, ft_isr, ft_isn, ft_ifn, ft_ifr, ft_ov, ft_ovn, ft_in, k_sI, n_sI, R_sI, J_sI, c_sI, z_sI, k_sJ, n_sJ, R_sJ, I_sJ, c_sJ, z_sJ, k_sR, n_sR, I_sR, J_sR, c_sR, z_sR, k_wI, n_wI, R_wI, J_wI, I_wIe, k_wJ, n_wJ, R_wJ, I_wJ, J_wJe, I_wIn, J_wJn, I_sIe, J_sJe, R_sRe, I_sIn, I_sIk, J_sJn, J_sJk, R_sRn, R_sRk, eq_self, if_true, if_false, ↓reduceIte, cond_true, cond_false, ↓cond_eq_ite, and_true, true_and, and_false, false_and, or_true, true_or, or_false, false_or, not_true_eq_false, not_false_eq_true, ft_ltT, ft_ltF, ft_eqT, ft_eqF, Bool.false_eq_true, Bool.true_eq_false, Bool.not_true, Bool.not_false, Bool.and_true, Bool.true_and, Bool.and_false, Bool.false_and, decide_true, decide_false, Nat.reduceAdd, Nat.reduceMul, Nat.reduceSub, Nat.reduceEqDiff, Nat.reduceLT, Nat.zero_add, Nat.add_zero, Nat.reduceDiv, Nat.reduceMod, S.1, S.2.1, S.2.2.1, S.2.2.2.1, S.2.2.2.2.1, S.2.2.2.2.2.1, S.2.2.2.2.2.2.1, S.2.2.2.2.2.2.2.1, S.2.2.2.2.2.2.2.2.1, S.2.2.2.2.2.2.2.2.2.1, S.2.2.2.2.2.2.2.2.2.2.1, S.2.2.2.2.2.2.2.2.2.2.2.1, S.2.2.2.2.2.2.2.2.2.2.2.2.1, S.2.2.2.2.2.2.2.2.2.2.2.2.2.1, S.2.2.2.2.2.2.2.2.2.2.2.2.2.2, ↓sp_3 S, ↓sp_4 S, ↓sp_5 S, ↓sp_6 S, ↓sp_0 S]
  congr 2
  refine heq_of (by rfl) (by rfl) ?_
  intro a i
  by_cases e1 : a = 71
  · subst e1
    rw [I_wIe]
    by_cases e : i = c
    · subst e; rw [I_sIe]; unfold va_up; rw [if_pos rfl]
    · simp (disch := first | exact sR_rfl _ _ rfl | omega) only [ft_lit, ft_m1, ft_m2, ft_m3, ft_m5, ft_m6, ft_cl, ft_lt, ft_le, ft_eq, ft_mlt, ft_ltm, ft_mltm, ft_meq, ft_eqm, ft_meqm, ft_add, ft_mul, ft_sub, ft_nm, ft_m1p, ft_and, ft_or, ft_31, ft_shl, ft_shr, ft_bz, ft_z0, ft_z1, ft_z01, ft_bb, ft_zt, ft_zf, ft_or0, ft_rv, ft_rvr, ft_rf, ft_rfn, ft_bI, ft_bJ, ft_bV, ft_bR, ft_bRn, ft_isr, ft_isn, ft_ifn, ft_ifr, ft_ov, ft_ovn, ft_in, k_sI, n_sI, R_sI, J_sI, c_sI, z_sI, k_sJ, n_sJ, R_sJ, I_sJ, c_sJ, z_sJ, k_sR, n_sR, I_sR, J_sR, c_sR, z_sR, k_wI, n_wI, R_wI, J_wI, I_wIe, k_wJ, n_wJ, R_wJ, I_wJ, J_wJe, I_wIn, J_wJn, I_sIe, J_sJe, R_sRe, I_sIn, I_sIk, J_sJn, J_sJk, R_sRn, R_sRk, eq_self, if_true, if_false, ↓reduceIte, cond_true, cond_false, ↓cond_eq_ite, and_true, true_and, and_false, false_and, or_true, true_or, or_false, false_or, not_true_eq_false, not_false_eq_true, ft_ltT, ft_ltF, ft_eqT, ft_eqF, Bool.false_eq_true, Bool.true_eq_false, Bool.not_true, Bool.not_false, Bool.and_true, Bool.true_and, Bool.and_false, Bool.false_and, decide_true, decide_false, Nat.reduceAdd, Nat.reduceMul, Nat.reduceSub, Nat.reduceEqDiff, Nat.reduceLT, Nat.zero_add, Nat.add_zero, Nat.reduceDiv, Nat.reduceMod]; unfold va_up; rw [if_neg e]
  · by_cases e2 : a = 70
    · subst e2
      by_cases e : i = c
      · subst e; simp (disch := first | exact sR_rfl _ _ rfl | omega) only [ft_lit, ft_m1, ft_m2, ft_m3, ft_m5, ft_m6, ft_cl, ft_lt, ft_le, ft_eq, ft_mlt, ft_ltm, ft_mltm, ft_meq, ft_eqm, ft_meqm, ft_add, ft_mul, ft_sub, ft_nm, ft_m1p, ft_and, ft_or, ft_31, ft_shl, ft_shr, ft_bz, ft_z0, ft_z1, ft_z01, ft_bb, ft_zt, ft_zf, ft_or0, ft_rv, ft_rvr, ft_rf, ft_rfn, ft_bI, ft_bJ, ft_bV, ft_bR, ft_bRn, ft_isr, ft_isn, ft_ifn, ft_ifr, ft_ov, ft_ovn, ft_in, k_sI, n_sI, R_sI, J_sI, c_sI, z_sI, k_sJ, n_sJ, R_sJ, I_sJ, c_sJ, z_sJ, k_sR, n_sR, I_sR, J_sR, c_sR, z_sR, k_wI, n_wI, R_wI, J_wI, I_wIe, k_wJ, n_wJ, R_wJ, I_wJ, J_wJe, I_wIn, J_wJn, I_sIe, J_sJe, R_sRe, I_sIn, I_sIk, J_sJn, J_sJk, R_sRn, R_sRk, eq_self, if_true, if_false, ↓reduceIte, cond_true, cond_false, ↓cond_eq_ite, and_true, true_and, and_false, false_and, or_true, true_or, or_false, false_or, not_true_eq_false, not_false_eq_true, ft_ltT, ft_ltF, ft_eqT, ft_eqF, Bool.false_eq_true, Bool.true_eq_false, Bool.not_true, Bool.not_false, Bool.and_true, Bool.true_and, Bool.and_false, Bool.false_and, decide_true, decide_false, Nat.reduceAdd, Nat.reduceMul, Nat.reduceSub, Nat.reduceEqDiff, Nat.reduceLT, Nat.zero_add, Nat.add_zero, Nat.reduceDiv, Nat.reduceMod]; unfold va_up; rw [if_pos rfl]
      · simp (disch := first | exact sR_rfl _ _ rfl | omega) only [ft_lit, ft_m1, ft_m2, ft_m3, ft_m5, ft_m6, ft_cl, ft_lt, ft_le, ft_eq, ft_mlt, ft_ltm, ft_mltm, ft_meq, ft_eqm, ft_meqm, ft_add, ft_mul, ft_sub, ft_nm, ft_m1p, ft_and, ft_or, ft_31, ft_shl, ft_shr, ft_bz, ft_z0, ft_z1, ft_z01, ft_bb, ft_zt, ft_zf, ft_or0, ft_rv, ft_rvr, ft_rf, ft_rfn, ft_bI, ft_bJ, ft_bV, ft_bR, ft_bRn, ft_isr, ft_isn, ft_ifn, ft_ifr, ft_ov, ft_ovn, ft_in, k_sI, n_sI, R_sI, J_sI, c_sI, z_sI, k_sJ, n_sJ, R_sJ, I_sJ, c_sJ, z_sJ, k_sR, n_sR, I_sR, J_sR, c_sR, z_sR, k_wI, n_wI, R_wI, J_wI, I_wIe, k_wJ, n_wJ, R_wJ, I_wJ, J_wJe, I_wIn, J_wJn, I_sIe, J_sJe, R_sRe, I_sIn, I_sIk, J_sJn, J_sJk, R_sRn, R_sRk, eq_self, if_true, if_false, ↓reduceIte, cond_true, cond_false, ↓cond_eq_ite, and_true, true_and, and_false, false_and, or_true, true_or, or_false, false_or, not_true_eq_false, not_false_eq_true, ft_ltT, ft_ltF, ft_eqT, ft_eqF, Bool.false_eq_true, Bool.true_eq_false, Bool.not_true, Bool.not_false, Bool.and_true, Bool.true_and, Bool.and_false, Bool.false_and, decide_true, decide_false, Nat.reduceAdd, Nat.reduceMul, Nat.reduceSub, Nat.reduceEqDiff, Nat.reduceLT, Nat.zero_add, Nat.add_zero, Nat.reduceDiv, Nat.reduceMod]; unfold va_up; rw [if_neg e]
    · by_cases e3 : a = 69
      · subst e3
        by_cases e : i = c
        · subst e; simp (disch := first | exact sR_rfl _ _ rfl | omega) only [ft_lit, ft_m1, ft_m2, ft_m3, ft_m5, ft_m6, ft_cl, ft_lt, ft_le, ft_eq, ft_mlt, ft_ltm, ft_mltm, ft_meq, ft_eqm, ft_meqm, ft_add, ft_mul, ft_sub, ft_nm, ft_m1p, ft_and, ft_or, ft_31, ft_shl, ft_shr, ft_bz, ft_z0, ft_z1, ft_z01, ft_bb, ft_zt, ft_zf, ft_or0, ft_rv, ft_rvr, ft_rf, ft_rfn, ft_bI, ft_bJ, ft_bV, ft_bR, ft_bRn, ft_isr, ft_isn, ft_ifn, ft_ifr, ft_ov, ft_ovn, ft_in, k_sI, n_sI, R_sI, J_sI, c_sI, z_sI, k_sJ, n_sJ, R_sJ, I_sJ, c_sJ, z_sJ, k_sR, n_sR, I_sR, J_sR, c_sR, z_sR, k_wI, n_wI, R_wI, J_wI, I_wIe, k_wJ, n_wJ, R_wJ, I_wJ, J_wJe, I_wIn, J_wJn, I_sIe, J_sJe, R_sRe, I_sIn, I_sIk, J_sJn, J_sJk, R_sRn, R_sRk, eq_self, if_true, if_false, ↓reduceIte, cond_true, cond_false, ↓cond_eq_ite, and_true, true_and, and_false, false_and, or_true, true_or, or_false, false_or, not_true_eq_false, not_false_eq_true, ft_ltT, ft_ltF, ft_eqT, ft_eqF, Bool.false_eq_true, Bool.true_eq_false, Bool.not_true, Bool.not_false, Bool.and_true, Bool.true_and, Bool.and_false, Bool.false_and, decide_true, decide_false, Nat.reduceAdd, Nat.reduceMul, Nat.reduceSub, Nat.reduceEqDiff, Nat.reduceLT, Nat.zero_add, Nat.add_zero, Nat.reduceDiv, Nat.reduceMod]; unfold va_up; rw [if_pos rfl]
        · simp (disch := first | exact sR_rfl _ _ rfl | omega) only [ft_lit, ft_m1, ft_m2, ft_m3, ft_m5, ft_m6, ft_cl, ft_lt, ft_le, ft_eq, ft_mlt, ft_ltm, ft_mltm, ft_meq, ft_eqm, ft_meqm, ft_add, ft_mul, ft_sub, ft_nm, ft_m1p, ft_and, ft_or, ft_31, ft_shl, ft_shr, ft_bz, ft_z0, ft_z1, ft_z01, ft_bb, ft_zt, ft_zf, ft_or0, ft_rv, ft_rvr, ft_rf, ft_rfn, ft_bI, ft_bJ, ft_bV, ft_bR, ft_bRn, ft_isr, ft_isn, ft_ifn, ft_ifr, ft_ov, ft_ovn, ft_in, k_sI, n_sI, R_sI, J_sI, c_sI, z_sI, k_sJ, n_sJ, R_sJ, I_sJ, c_sJ, z_sJ, k_sR, n_sR, I_sR, J_sR, c_sR, z_sR, k_wI, n_wI, R_wI, J_wI, I_wIe, k_wJ, n_wJ, R_wJ, I_wJ, J_wJe, I_wIn, J_wJn, I_sIe, J_sJe, R_sRe, I_sIn, I_sIk, J_sJn, J_sJk, R_sRn, R_sRk, eq_self, if_true, if_false, ↓reduceIte, cond_true, cond_false, ↓cond_eq_ite, and_true, true_and, and_false, false_and, or_true, true_or, or_false, false_or, not_true_eq_false, not_false_eq_true, ft_ltT, ft_ltF, ft_eqT, ft_eqF, Bool.false_eq_true, Bool.true_eq_false, Bool.not_true, Bool.not_false, Bool.and_true, Bool.true_and, Bool.and_false, Bool.false_and, decide_true, decide_false, Nat.reduceAdd, Nat.reduceMul, Nat.reduceSub, Nat.reduceEqDiff, Nat.reduceLT, Nat.zero_add, Nat.add_zero, Nat.reduceDiv, Nat.reduceMod]; unfold va_up; rw [if_neg e]
      · simp (disch := first | exact sR_rfl _ _ rfl | omega) only [ft_lit, ft_m1, ft_m2, ft_m3, ft_m5, ft_m6, ft_cl, ft_lt, ft_le, ft_eq, ft_mlt, ft_ltm, ft_mltm, ft_meq, ft_eqm, ft_meqm, ft_add, ft_mul, ft_sub, ft_nm, ft_m1p, ft_and, ft_or, ft_31, ft_shl, ft_shr, ft_bz, ft_z0, ft_z1, ft_z01, ft_bb, ft_zt, ft_zf, ft_or0, ft_rv, ft_rvr, ft_rf, ft_rfn, ft_bI, ft_bJ, ft_bV, ft_bR, ft_bRn, ft_isr, ft_isn, ft_ifn, ft_ifr, ft_ov, ft_ovn, ft_in, k_sI, n_sI, R_sI, J_sI, c_sI, z_sI, k_sJ, n_sJ, R_sJ, I_sJ, c_sJ, z_sJ, k_sR, n_sR, I_sR, J_sR, c_sR, z_sR, k_wI, n_wI, R_wI, J_wI, I_wIe, k_wJ, n_wJ, R_wJ, I_wJ, J_wJe, I_wIn, J_wJn, I_sIe, J_sJe, R_sRe, I_sIn, I_sIk, J_sJn, J_sJk, R_sRn, R_sRk, eq_self, if_true, if_false, ↓reduceIte, cond_true, cond_false, ↓cond_eq_ite, and_true, true_and, and_false, false_and, or_true, true_or, or_false, false_or, not_true_eq_false, not_false_eq_true, ft_ltT, ft_ltF, ft_eqT, ft_eqF, Bool.false_eq_true, Bool.true_eq_false, Bool.not_true, Bool.not_false, Bool.and_true, Bool.true_and, Bool.and_false, Bool.false_and, decide_true, decide_false, Nat.reduceAdd, Nat.reduceMul, Nat.reduceSub, Nat.reduceEqDiff, Nat.reduceLT, Nat.zero_add, Nat.add_zero, Nat.reduceDiv, Nat.reduceMod]
theorem C_put_b {F : Nat × Nat} {h : jH} (S : ShP h) {A B C : Nat → Int32} {c : Nat} (hc : c < 401) (p x y : Int32) (ff : jH → Option jO) : jbV (m_P_putToken F 60 (nI c) p x y (hK h A B C)) ff = ff (hK h (va_up A c p) (va_up B c x) (va_up C c y)) := bV_of (C_put (F := F) (h := h) (S := S) (A := A) (B := B) (C := C) (c := c) (hc := hc) (p := p) (x := x) (y := y)) ff
theorem hK_k (h : jH) (A B C : Nat → Int32) (a : Nat) : j_k (hK h A B C) a = j_k h a := rfl
theorem hK_n (h : jH) (A B C : Nat → Int32) (a : Nat) : j_n (hK h A B C) a = j_n h a := rfl
theorem hK_R (h : jH) (A B C : Nat → Int32) (a i : Nat) : j_R (hK h A B C) a i = j_R h a i := rfl
theorem hK_I {h : jH} {A B C : Nat → Int32} {a i : Nat} (e : a < 69 ∨ 71 < a) : j_I (hK h A B C) a i = j_I h a i := by
  unfold hK
  rw [I_wIn (by omega), I_wIn (by omega), I_wIn (by omega)]
theorem C_isL {F : Nat × Nat} {h : jH} {b : Nat} (hb : b < 256) : m_P_isLetter F (nI b) h = some (some (.int (nI (ft_z (kL b)))), h) := by
  unfold kL
  by_cases w : b < 97
  · have e : decide (97 ≤ b ∧ b ≤ 122) = false := decide_eq_false (by omega)
    rw [e]
    simp (disch := first | exact sR_rfl _ _ rfl | omega) only [q_P_isLetter, ft_lit, ft_m1, ft_m2, ft_m3, ft_m5, ft_m6, ft_cl, ft_lt, ft_le, ft_eq, ft_mlt, ft_ltm, ft_mltm, ft_meq, ft_eqm, ft_meqm, ft_add, ft_mul, ft_sub, ft_nm, ft_m1p, ft_and, ft_or, ft_31, ft_shl, ft_shr, ft_bz, ft_z0, ft_z1, ft_z01, ft_bb, ft_zt, ft_zf, ft_or0, ft_rv, ft_rvr, ft_rf, ft_rfn, ft_bI, ft_bJ, ft_bV, ft_bR, ft_bRn, ft_isr, ft_isn, ft_ifn, ft_ifr, ft_ov, ft_ovn, ft_in, k_sI, n_sI, R_sI, J_sI, c_sI, z_sI, k_sJ, n_sJ, R_sJ, I_sJ, c_sJ, z_sJ, k_sR, n_sR, I_sR, J_sR, c_sR, z_sR, k_wI, n_wI, R_wI, J_wI, I_wIe, k_wJ, n_wJ, R_wJ, I_wJ, J_wJe, I_wIn, J_wJn, I_sIe, J_sJe, R_sRe, I_sIn, I_sIk, J_sJn, J_sJk, R_sRn, R_sRk, eq_self, if_true, if_false, ↓reduceIte, cond_true, cond_false, ↓cond_eq_ite, and_true, true_and, and_false, false_and, or_true, true_or, or_false, false_or, not_true_eq_false, not_false_eq_true, ft_ltT, ft_ltF, ft_eqT, ft_eqF, Bool.false_eq_true, Bool.true_eq_false, Bool.not_true, Bool.not_false, Bool.and_true, Bool.true_and, Bool.and_false, Bool.false_and, decide_true, decide_false, Nat.reduceAdd, Nat.reduceMul, Nat.reduceSub, Nat.reduceEqDiff, Nat.reduceLT, Nat.zero_add, Nat.add_zero, Nat.reduceDiv, Nat.reduceMod]
  · by_cases y : 122 < b
    · have e : decide (97 ≤ b ∧ b ≤ 122) = false := decide_eq_false (by omega)
      rw [e]
      simp (disch := first | exact sR_rfl _ _ rfl | omega) only [q_P_isLetter, ft_lit, ft_m1, ft_m2, ft_m3, ft_m5, ft_m6, ft_cl, ft_lt, ft_le, ft_eq, ft_mlt, ft_ltm, ft_mltm, ft_meq, ft_eqm, ft_meqm, ft_add, ft_mul, ft_sub, ft_nm, ft_m1p, ft_and, ft_or, ft_31, ft_shl, ft_shr, ft_bz, ft_z0, ft_z1, ft_z01, ft_bb, ft_zt, ft_zf, ft_or0, ft_rv, ft_rvr, ft_rf, ft_rfn, ft_bI, ft_bJ, ft_bV, ft_bR, ft_bRn, ft_isr, ft_isn, ft_ifn, ft_ifr, ft_ov, ft_ovn, ft_in, k_sI, n_sI, R_sI, J_sI, c_sI, z_sI, k_sJ, n_sJ, R_sJ, I_sJ, c_sJ, z_sJ, k_sR, n_sR, I_sR, J_sR, c_sR, z_sR, k_wI, n_wI, R_wI, J_wI, I_wIe, k_wJ, n_wJ, R_wJ, I_wJ, J_wJe, I_wIn, J_wJn, I_sIe, J_sJe, R_sRe, I_sIn, I_sIk, J_sJn, J_sJk, R_sRn, R_sRk, eq_self, if_true, if_false, ↓reduceIte, cond_true, cond_false, ↓cond_eq_ite, and_true, true_and, and_false, false_and, or_true, true_or, or_false, false_or, not_true_eq_false, not_false_eq_true, ft_ltT, ft_ltF, ft_eqT, ft_eqF, Bool.false_eq_true, Bool.true_eq_false, Bool.not_true, Bool.not_false, Bool.and_true, Bool.true_and, Bool.and_false, Bool.false_and, decide_true, decide_false, Nat.reduceAdd, Nat.reduceMul, Nat.reduceSub, Nat.reduceEqDiff, Nat.reduceLT, Nat.zero_add, Nat.add_zero, Nat.reduceDiv, Nat.reduceMod]
    · have e : decide (97 ≤ b ∧ b ≤ 122) = true := decide_eq_true (by omega)
      rw [e]
      simp (disch := first | exact sR_rfl _ _ rfl | omega) only [q_P_isLetter, ft_lit, ft_m1, ft_m2, ft_m3, ft_m5, ft_m6, ft_cl, ft_lt, ft_le, ft_eq, ft_mlt, ft_ltm, ft_mltm, ft_meq, ft_eqm, ft_meqm, ft_add, ft_mul, ft_sub, ft_nm, ft_m1p, ft_and, ft_or, ft_31, ft_shl, ft_shr, ft_bz, ft_z0, ft_z1, ft_z01, ft_bb, ft_zt, ft_zf, ft_or0, ft_rv, ft_rvr, ft_rf, ft_rfn, ft_bI, ft_bJ, ft_bV, ft_bR, ft_bRn, ft_isr, ft_isn, ft_ifn, ft_ifr, ft_ov, ft_ovn, ft_in, k_sI, n_sI, R_sI, J_sI, c_sI, z_sI, k_sJ, n_sJ, R_sJ, I_sJ, c_sJ, z_sJ, k_sR, n_sR, I_sR, J_sR, c_sR, z_sR, k_wI, n_wI, R_wI, J_wI, I_wIe, k_wJ, n_wJ, R_wJ, I_wJ, J_wJe, I_wIn, J_wJn, I_sIe, J_sJe, R_sRe, I_sIn, I_sIk, J_sJn, J_sJk, R_sRn, R_sRk, eq_self, if_true, if_false, ↓reduceIte, cond_true, cond_false, ↓cond_eq_ite, and_true, true_and, and_false, false_and, or_true, true_or, or_false, false_or, not_true_eq_false, not_false_eq_true, ft_ltT, ft_ltF, ft_eqT, ft_eqF, Bool.false_eq_true, Bool.true_eq_false, Bool.not_true, Bool.not_false, Bool.and_true, Bool.true_and, Bool.and_false, Bool.false_and, decide_true, decide_false, Nat.reduceAdd, Nat.reduceMul, Nat.reduceSub, Nat.reduceEqDiff, Nat.reduceLT, Nat.zero_add, Nat.add_zero, Nat.reduceDiv, Nat.reduceMod]
theorem C_isL_b {F : Nat × Nat} {h : jH} {b : Nat} (hb : b < 256) (ff : Int32 → jH → Option jO) : jbI (m_P_isLetter F (nI b) h) ff = ff ((nI (ft_z (kL b)))) (h) := bI_of (C_isL (F := F) (h := h) (b := b) (hb := hb)) ff
theorem C_isD {F : Nat × Nat} {h : jH} {b : Nat} (hb : b < 256) : m_P_isDigit F (nI b) h = some (some (.int (nI (ft_z (kD b)))), h) := by
  unfold kD
  by_cases w : b < 48
  · have e : decide (48 ≤ b ∧ b ≤ 57) = false := decide_eq_false (by omega)
    rw [e]
    simp (disch := first | exact sR_rfl _ _ rfl | omega) only [q_P_isDigit, ft_lit, ft_m1, ft_m2, ft_m3, ft_m5, ft_m6, ft_cl, ft_lt, ft_le, ft_eq, ft_mlt, ft_ltm, ft_mltm, ft_meq, ft_eqm, ft_meqm, ft_add, ft_mul, ft_sub, ft_nm, ft_m1p, ft_and, ft_or, ft_31, ft_shl, ft_shr, ft_bz, ft_z0, ft_z1, ft_z01, ft_bb, ft_zt, ft_zf, ft_or0, ft_rv, ft_rvr, ft_rf, ft_rfn, ft_bI, ft_bJ, ft_bV, ft_bR, ft_bRn, ft_isr, ft_isn, ft_ifn, ft_ifr, ft_ov, ft_ovn, ft_in, k_sI, n_sI, R_sI, J_sI, c_sI, z_sI, k_sJ, n_sJ, R_sJ, I_sJ, c_sJ, z_sJ, k_sR, n_sR, I_sR, J_sR, c_sR, z_sR, k_wI, n_wI, R_wI, J_wI, I_wIe, k_wJ, n_wJ, R_wJ, I_wJ, J_wJe, I_wIn, J_wJn, I_sIe, J_sJe, R_sRe, I_sIn, I_sIk, J_sJn, J_sJk, R_sRn, R_sRk, eq_self, if_true, if_false, ↓reduceIte, cond_true, cond_false, ↓cond_eq_ite, and_true, true_and, and_false, false_and, or_true, true_or, or_false, false_or, not_true_eq_false, not_false_eq_true, ft_ltT, ft_ltF, ft_eqT, ft_eqF, Bool.false_eq_true, Bool.true_eq_false, Bool.not_true, Bool.not_false, Bool.and_true, Bool.true_and, Bool.and_false, Bool.false_and, decide_true, decide_false, Nat.reduceAdd, Nat.reduceMul, Nat.reduceSub, Nat.reduceEqDiff, Nat.reduceLT, Nat.zero_add, Nat.add_zero, Nat.reduceDiv, Nat.reduceMod]
  · by_cases y : 57 < b
    · have e : decide (48 ≤ b ∧ b ≤ 57) = false := decide_eq_false (by omega)
      rw [e]
      simp (disch := first | exact sR_rfl _ _ rfl | omega) only [q_P_isDigit, ft_lit, ft_m1, ft_m2, ft_m3, ft_m5, ft_m6, ft_cl, ft_lt, ft_le, ft_eq, ft_mlt, ft_ltm, ft_mltm, ft_meq, ft_eqm, ft_meqm, ft_add, ft_mul, ft_sub, ft_nm, ft_m1p, ft_and, ft_or, ft_31, ft_shl, ft_shr, ft_bz, ft_z0, ft_z1, ft_z01, ft_bb, ft_zt, ft_zf, ft_or0, ft_rv, ft_rvr, ft_rf, ft_rfn, ft_bI, ft_bJ, ft_bV, ft_bR, ft_bRn, ft_isr, ft_isn, ft_ifn, ft_ifr, ft_ov, ft_ovn, ft_in, k_sI, n_sI, R_sI, J_sI, c_sI, z_sI, k_sJ, n_sJ, R_sJ, I_sJ, c_sJ, z_sJ, k_sR, n_sR, I_sR, J_sR, c_sR, z_sR, k_wI, n_wI, R_wI, J_wI, I_wIe, k_wJ, n_wJ, R_wJ, I_wJ, J_wJe, I_wIn, J_wJn, I_sIe, J_sJe, R_sRe, I_sIn, I_sIk, J_sJn, J_sJk, R_sRn, R_sRk, eq_self, if_true, if_false, ↓reduceIte, cond_true, cond_false, ↓cond_eq_ite, and_true, true_and, and_false, false_and, or_true, true_or, or_false, false_or, not_true_eq_false, not_false_eq_true, ft_ltT, ft_ltF, ft_eqT, ft_eqF, Bool.false_eq_true, Bool.true_eq_false, Bool.not_true, Bool.not_false, Bool.and_true, Bool.true_and, Bool.and_false, Bool.false_and, decide_true, decide_false, Nat.reduceAdd, Nat.reduceMul, Nat.reduceSub, Nat.reduceEqDiff, Nat.reduceLT, Nat.zero_add, Nat.add_zero, Nat.reduceDiv, Nat.reduceMod]
    · have e : decide (48 ≤ b ∧ b ≤ 57) = true := decide_eq_true (by omega)
      rw [e]
      simp (disch := first | exact sR_rfl _ _ rfl | omega) only [q_P_isDigit, ft_lit, ft_m1, ft_m2, ft_m3, ft_m5, ft_m6, ft_cl, ft_lt, ft_le, ft_eq, ft_mlt, ft_ltm, ft_mltm, ft_meq, ft_eqm, ft_meqm, ft_add, ft_mul, ft_sub, ft_nm, ft_m1p, ft_and, ft_or, ft_31, ft_shl, ft_shr, ft_bz, ft_z0, ft_z1, ft_z01, ft_bb, ft_zt, ft_zf, ft_or0, ft_rv, ft_rvr, ft_rf, ft_rfn, ft_bI, ft_bJ, ft_bV, ft_bR, ft_bRn, ft_isr, ft_isn, ft_ifn, ft_ifr, ft_ov, ft_ovn, ft_in, k_sI, n_sI, R_sI, J_sI, c_sI, z_sI, k_sJ, n_sJ, R_sJ, I_sJ, c_sJ, z_sJ, k_sR, n_sR, I_sR, J_sR, c_sR, z_sR, k_wI, n_wI, R_wI, J_wI, I_wIe, k_wJ, n_wJ, R_wJ, I_wJ, J_wJe, I_wIn, J_wJn, I_sIe, J_sJe, R_sRe, I_sIn, I_sIk, J_sJn, J_sJk, R_sRn, R_sRk, eq_self, if_true, if_false, ↓reduceIte, cond_true, cond_false, ↓cond_eq_ite, and_true, true_and, and_false, false_and, or_true, true_or, or_false, false_or, not_true_eq_false, not_false_eq_true, ft_ltT, ft_ltF, ft_eqT, ft_eqF, Bool.false_eq_true, Bool.true_eq_false, Bool.not_true, Bool.not_false, Bool.and_true, Bool.true_and, Bool.and_false, Bool.false_and, decide_true, decide_false, Nat.reduceAdd, Nat.reduceMul, Nat.reduceSub, Nat.reduceEqDiff, Nat.reduceLT, Nat.zero_add, Nat.add_zero, Nat.reduceDiv, Nat.reduceMod]
theorem C_isD_b {F : Nat × Nat} {h : jH} {b : Nat} (hb : b < 256) (ff : Int32 → jH → Option jO) : jbI (m_P_isDigit F (nI b) h) ff = ff ((nI (ft_z (kD b)))) (h) := bI_of (C_isD (F := F) (h := h) (b := b) (hb := hb)) ff
/-- the class's tape -/
def TP (h : jH) (tp : Nat → Nat) (tl : Nat) : Prop := j_I h 60 1 = nI tl ∧ tl ≤ 400 ∧ ∀ i, i < tl → j_I h 61 i = nI (tp i) ∧ tp i < 256
theorem TP.hK {h : jH} {tp : Nat → Nat} {tl : Nat} (P : TP h tp tl) (A B C : Nat → Int32) : TP (hK h A B C) tp tl := ⟨by rw [hK_I (by omega)]; exact P.1, P.2.1, fun i hi => by rw [hK_I (by omega)]; exact P.2.2 i hi⟩
theorem C_num {F : Nat × Nat} {h : jH} (S : ShF h) {tp : Nat → Nat} {tl : Nat} (P : TP h tp tl) {to : Nat} (ht : to ≤ tl) : ∀ d i v f, i + d = to → d < f → v ≤ 10009 → (∀ x, i ≤ x → x < to → 48 ≤ tp x ∧ tp x ≤ 57) → m_P_numberValue_5 F f 60 (nI to) (nI v) (nI i) h = some (some (.int (nI (nV 1000 tp d i v))), h)
  | d, i, v, 0, e, hf, hv, hx => absurd hf (by omega)
  | 0, i, v, f + 1, e, hf, hv, hx => by
    have := P.2.1
    simp (disch := first | exact sR_rfl _ _ rfl | omega) only [q_P_numberValue_5, ft_lit, ft_m1, ft_m2, ft_m3, ft_m5, ft_m6, ft_cl, ft_lt, ft_le, ft_eq, ft_mlt, ft_ltm, ft_mltm, ft_meq, ft_eqm, ft_meqm, ft_add, ft_mul, ft_sub, ft_nm, ft_m1p, ft_and, ft_or, ft_31, ft_shl, ft_shr, ft_bz, ft_z0, ft_z1, ft_z01, ft_bb, ft_zt, ft_zf, ft_or0, ft_rv, ft_rvr, ft_rf, ft_rfn, ft_bI, ft_bJ, ft_bV, ft_bR, ft_bRn, ft_isr, ft_isn, ft_ifn, ft_ifr, ft_ov, ft_ovn, ft_in, k_sI, n_sI, R_sI, J_sI, c_sI, z_sI, k_sJ, n_sJ, R_sJ, I_sJ, c_sJ, z_sJ, k_sR, n_sR, I_sR, J_sR, c_sR, z_sR, k_wI, n_wI, R_wI, J_wI, I_wIe, k_wJ, n_wJ, R_wJ, I_wJ, J_wJe, I_wIn, J_wJn, I_sIe, J_sJe, R_sRe, I_sIn, I_sIk, J_sJn, J_sJk, R_sRn, R_sRk, eq_self, if_true, if_false, ↓reduceIte, cond_true, cond_false, ↓cond_eq_ite, and_true, true_and, and_false, false_and, or_true, true_or, or_false, false_or, not_true_eq_false, not_false_eq_true, ft_ltT, ft_ltF, ft_eqT, ft_eqF, Bool.false_eq_true, Bool.true_eq_false, Bool.not_true, Bool.not_false, Bool.and_true, Bool.true_and, Bool.and_false, Bool.false_and, decide_true, decide_false, Nat.reduceAdd, Nat.reduceMul, Nat.reduceSub, Nat.reduceEqDiff, Nat.reduceLT, Nat.zero_add, Nat.add_zero, Nat.reduceDiv, Nat.reduceMod, nV]
  | d + 1, i, v, f + 1, e, hf, hv, hx => by
    have h1 := P.2.1
    have h2 := (P.2.2 i (by omega)).1
    have h3 := hx i (Nat.le_refl _) (by omega)
    unfold nV
    by_cases w : 1000 < v
    · rw [if_pos w]
      simp (disch := first | exact sR_rfl _ _ rfl | omega) only [q_P_numberValue_5, ft_lit, ft_m1, ft_m2, ft_m3, ft_m5, ft_m6, ft_cl, ft_lt, ft_le, ft_eq, ft_mlt, ft_ltm, ft_mltm, ft_meq, ft_eqm, ft_meqm, ft_add, ft_mul, ft_sub, ft_nm, ft_m1p, ft_and, ft_or, ft_31, ft_shl, ft_shr, ft_bz, ft_z0, ft_z1, ft_z01, ft_bb, ft_zt, ft_zf, ft_or0, ft_rv, ft_rvr, ft_rf, ft_rfn, ft_bI, ft_bJ, ft_bV, ft_bR, ft_bRn, ft_isr, ft_isn, ft_ifn, ft_ifr, ft_ov, ft_ovn, ft_in, k_sI, n_sI, R_sI, J_sI, c_sI, z_sI, k_sJ, n_sJ, R_sJ, I_sJ, c_sJ, z_sJ, k_sR, n_sR, I_sR, J_sR, c_sR, z_sR, k_wI, n_wI, R_wI, J_wI, I_wIe, k_wJ, n_wJ, R_wJ, I_wJ, J_wJe, I_wIn, J_wJn, I_sIe, J_sJe, R_sRe, I_sIn, I_sIk, J_sJn, J_sJk, R_sRn, R_sRk, eq_self, if_true, if_false, ↓reduceIte, cond_true, cond_false, ↓cond_eq_ite, and_true, true_and, and_false, false_and, or_true, true_or, or_false, false_or, not_true_eq_false, not_false_eq_true, ft_ltT, ft_ltF, ft_eqT, ft_eqF, Bool.false_eq_true, Bool.true_eq_false, Bool.not_true, Bool.not_false, Bool.and_true, Bool.true_and, Bool.and_false, Bool.false_and, decide_true, decide_false, Nat.reduceAdd, Nat.reduceMul, Nat.reduceSub, Nat.reduceEqDiff, Nat.reduceLT, Nat.zero_add, Nat.add_zero, Nat.reduceDiv, Nat.reduceMod]
    · rw [if_neg w]
      rw [← C_num (F := F) S P ht d (i + 1) (10 * v + (tp i - 48)) f (by omega) (by omega) (by omega) (fun x a b => hx x (by omega) b)]
      simp (disch := first | exact sR_rfl _ _ rfl | omega) only [q_P_numberValue_5, ft_lit, ft_m1, ft_m2, ft_m3, ft_m5, ft_m6, ft_cl, ft_lt, ft_le, ft_eq, ft_mlt, ft_ltm, ft_mltm, ft_meq, ft_eqm, ft_meqm, ft_add, ft_mul, ft_sub, ft_nm, ft_m1p, ft_and, ft_or, ft_31, ft_shl, ft_shr, ft_bz, ft_z0, ft_z1, ft_z01, ft_bb, ft_zt, ft_zf, ft_or0, ft_rv, ft_rvr, ft_rf, ft_rfn, ft_bI, ft_bJ, ft_bV, ft_bR, ft_bRn, ft_isr, ft_isn, ft_ifn, ft_ifr, ft_ov, ft_ovn, ft_in, k_sI, n_sI, R_sI, J_sI, c_sI, z_sI, k_sJ, n_sJ, R_sJ, I_sJ, c_sJ, z_sJ, k_sR, n_sR, I_sR, J_sR, c_sR, z_sR, k_wI, n_wI, R_wI, J_wI, I_wIe, k_wJ, n_wJ, R_wJ, I_wJ, J_wJe, I_wIn, J_wJn, I_sIe, J_sJe, R_sRe, I_sIn, I_sIk, J_sJn, J_sJk, R_sRn, R_sRk, eq_self, if_true, if_false, ↓reduceIte, cond_true, cond_false, ↓cond_eq_ite, and_true, true_and, and_false, false_and, or_true, true_or, or_false, false_or, not_true_eq_false, not_false_eq_true, ft_ltT, ft_ltF, ft_eqT, ft_eqF, Bool.false_eq_true, Bool.true_eq_false, Bool.not_true, Bool.not_false, Bool.and_true, Bool.true_and, Bool.and_false, Bool.false_and, decide_true, decide_false, Nat.reduceAdd, Nat.reduceMul, Nat.reduceSub, Nat.reduceEqDiff, Nat.reduceLT, Nat.zero_add, Nat.add_zero, Nat.reduceDiv, Nat.reduceMod, sf_k60 S, sf_R60_0 S, ↓sf_v60_0 S, sf_k61 S, sf_n61 S, h2]
theorem ShF.hK {h : jH} (S : ShF h) (A B C : Nat → Int32) : ShF (hK h A B C) := S
theorem C_numV {F : Nat × Nat} (hF : FF F) {h : jH} (S : ShF h) {tp : Nat → Nat} {tl : Nat} (P : TP h tp tl) {fr to : Nat} (ht : to ≤ tl) (hf : fr ≤ to) (hx : ∀ x, fr ≤ x → x < to → kD (tp x) = true) : m_P_numberValue F 60 (nI fr) (nI to) h = some (some (.int (nI (nV 1000 tp (to - fr) fr 0))), h) := by
  have h1 := P.2.1
  have h2 := hF.1
  rw [q_P_numberValue]
  exact C_num S P ht (to - fr) fr 0 F.1 (by omega) (by omega) (by omega) (fun x a b => by
    have := hx x a b
    unfold kD at this
    exact of_decide_eq_true this)
theorem C_numV_b {F : Nat × Nat} (hF : FF F) {h : jH} (S : ShF h) {tp : Nat → Nat} {tl : Nat} (P : TP h tp tl) {fr to : Nat} (ht : to ≤ tl) (hf : fr ≤ to) (hx : ∀ x, fr ≤ x → x < to → kD (tp x) = true) (ff : Int32 → jH → Option jO) : jbI (m_P_numberValue F 60 (nI fr) (nI to) h) ff = ff ((nI (nV 1000 tp (to - fr) fr 0))) (h) := bI_of (C_numV (F := F) (hF := hF) (h := h) (S := S) (tp := tp) (tl := tl) (P := P) (fr := fr) (to := to) (ht := ht) (hf := hf) (hx := hx)) ff
theorem C_f32 {F : Nat × Nat} (hF : FF F) {h : jH} (S : ShF h) {tp : Nat → Nat} {tl : Nat} (P : TP h tp tl) (k4 : Nat → Int32 → Int32 → jH → Option jO) {A B C : Nat → Int32} {c i : Nat} (hc : c < 401) : ∀ d j f, j + d = tl → i ≤ j → d < f → m_P_findTokens_32 F k4 f 60 (nI c) (nI i) (nI j) (hK h A B C) = k4 60 (nI (c + 1)) (nI (rn kL tp d j)) (hK h (va_up A c (nI i)) (va_up B c (nI (gC (mWc (tby tp i (rn kL tp d j)))))) (va_up C c (nI 0)))
  | d, j, 0, e, hi, hf => absurd hf (by omega)
  | 0, j, f + 1, e, hi, hf => by
    have h1 := P.2.1
    have h2 := P.1
    have wc := C_wordCode_b hF (S.hK A B C) (tp := tp) (fr := i) (to := j) (by omega) hi (fun x _ hx => (P.hK A B C).2.2 x (by omega))
    have pt := C_put_b (F := F) S.P (A := A) (B := B) (C := C) hc (nI i) (nI (gC (mWc (tby tp i j)))) (nI 0)
    have e3 : rn kL tp 0 j = j := rfl
    rw [e3, q_P_findTokens_32]
    simp (disch := first | exact sR_rfl _ _ rfl | omega) only [ft_lit, ft_m1, ft_m2, ft_m3, ft_m5, ft_m6, ft_cl, ft_lt, ft_le, ft_eq, ft_mlt, ft_ltm, ft_mltm, ft_meq, ft_eqm, ft_meqm, ft_add, ft_mul, ft_sub, ft_nm, ft_m1p, ft_and, ft_or, ft_31, ft_shl, ft_shr, ft_bz, ft_z0, ft_z1, ft_z01, ft_bb, ft_zt, ft_zf, ft_or0, ft_rv, ft_rvr, ft_rf, ft_rfn, ft_bI, ft_bJ, ft_bV, ft_bR, ft_bRn, ft_isr, ft_isn, ft_ifn, ft_ifr, ft_ov, ft_ovn, ft_in, k_sI, n_sI, R_sI, J_sI, c_sI, z_sI, k_sJ, n_sJ, R_sJ, I_sJ, c_sJ, z_sJ, k_sR, n_sR, I_sR, J_sR, c_sR, z_sR, k_wI, n_wI, R_wI, J_wI, I_wIe, k_wJ, n_wJ, R_wJ, I_wJ, J_wJe, I_wIn, J_wJn, I_sIe, J_sJe, R_sRe, I_sIn, I_sIk, J_sJn, J_sJk, R_sRn, R_sRk, eq_self, if_true, if_false, ↓reduceIte, cond_true, cond_false, ↓cond_eq_ite, and_true, true_and, and_false, false_and, or_true, true_or, or_false, false_or, not_true_eq_false, not_false_eq_true, ft_ltT, ft_ltF, ft_eqT, ft_eqF, Bool.false_eq_true, Bool.true_eq_false, Bool.not_true, Bool.not_false, Bool.and_true, Bool.true_and, Bool.and_false, Bool.false_and, decide_true, decide_false, Nat.reduceAdd, Nat.reduceMul, Nat.reduceSub, Nat.reduceEqDiff, Nat.reduceLT, Nat.zero_add, Nat.add_zero, Nat.reduceDiv, Nat.reduceMod, hK_k, hK_n, hK_R, hK_I, h2, sf_k60 S, sf_R60_0 S, ↓sf_v60_0 S, sf_k61 S, sf_n61 S, ↓wc, ↓pt]
  | d + 1, j, f + 1, e, hi, hf => by
    have h1 := P.2.1
    have h2 := P.1
    have h3 := P.2.2 j (by omega)
    have h4 := h3.1
    have lt := C_isL_b (F := F) (h := hK h A B C) h3.2
    unfold rn
    cases w : kL (tp j) with
    | true =>
      rw [w] at lt
      rw [if_pos rfl, ← C_f32 hF S P k4 hc d (j + 1) f (by omega) (by omega) (by omega)]
      rw [q_P_findTokens_32]
      simp (disch := first | exact sR_rfl _ _ rfl | omega) only [ft_lit, ft_m1, ft_m2, ft_m3, ft_m5, ft_m6, ft_cl, ft_lt, ft_le, ft_eq, ft_mlt, ft_ltm, ft_mltm, ft_meq, ft_eqm, ft_meqm, ft_add, ft_mul, ft_sub, ft_nm, ft_m1p, ft_and, ft_or, ft_31, ft_shl, ft_shr, ft_bz, ft_z0, ft_z1, ft_z01, ft_bb, ft_zt, ft_zf, ft_or0, ft_rv, ft_rvr, ft_rf, ft_rfn, ft_bI, ft_bJ, ft_bV, ft_bR, ft_bRn, ft_isr, ft_isn, ft_ifn, ft_ifr, ft_ov, ft_ovn, ft_in, k_sI, n_sI, R_sI, J_sI, c_sI, z_sI, k_sJ, n_sJ, R_sJ, I_sJ, c_sJ, z_sJ, k_sR, n_sR, I_sR, J_sR, c_sR, z_sR, k_wI, n_wI, R_wI, J_wI, I_wIe, k_wJ, n_wJ, R_wJ, I_wJ, J_wJe, I_wIn, J_wJn, I_sIe, J_sJe, R_sRe, I_sIn, I_sIk, J_sJn, J_sJk, R_sRn, R_sRk, eq_self, if_true, if_false, ↓reduceIte, cond_true, cond_false, ↓cond_eq_ite, and_true, true_and, and_false, false_and, or_true, true_or, or_false, false_or, not_true_eq_false, not_false_eq_true, ft_ltT, ft_ltF, ft_eqT, ft_eqF, Bool.false_eq_true, Bool.true_eq_false, Bool.not_true, Bool.not_false, Bool.and_true, Bool.true_and, Bool.and_false, Bool.false_and, decide_true, decide_false, Nat.reduceAdd, Nat.reduceMul, Nat.reduceSub, Nat.reduceEqDiff, Nat.reduceLT, Nat.zero_add, Nat.add_zero, Nat.reduceDiv, Nat.reduceMod, hK_k, hK_n, hK_R, hK_I, h2, sf_k60 S, sf_R60_0 S, ↓sf_v60_0 S, sf_k61 S, sf_n61 S, h4, ↓lt]
    | false =>
      rw [w] at lt
      have wc := C_wordCode_b hF (S.hK A B C) (tp := tp) (fr := i) (to := j) (by omega) hi (fun x _ hx => (P.hK A B C).2.2 x (by omega))
      have pt := C_put_b (F := F) S.P (A := A) (B := B) (C := C) hc (nI i) (nI (gC (mWc (tby tp i j)))) (nI 0)
      rw [if_neg (by decide)]
      rw [q_P_findTokens_32]
      simp (disch := first | exact sR_rfl _ _ rfl | omega) only [ft_lit, ft_m1, ft_m2, ft_m3, ft_m5, ft_m6, ft_cl, ft_lt, ft_le, ft_eq, ft_mlt, ft_ltm, ft_mltm, ft_meq, ft_eqm, ft_meqm, ft_add, ft_mul, ft_sub, ft_nm, ft_m1p, ft_and, ft_or, ft_31, ft_shl, ft_shr, ft_bz, ft_z0, ft_z1, ft_z01, ft_bb, ft_zt, ft_zf, ft_or0, ft_rv, ft_rvr, ft_rf, ft_rfn, ft_bI, ft_bJ, ft_bV, ft_bR, ft_bRn, ft_isr, ft_isn, ft_ifn, ft_ifr, ft_ov, ft_ovn, ft_in, k_sI, n_sI, R_sI, J_sI, c_sI, z_sI, k_sJ, n_sJ, R_sJ, I_sJ, c_sJ, z_sJ, k_sR, n_sR, I_sR, J_sR, c_sR, z_sR, k_wI, n_wI, R_wI, J_wI, I_wIe, k_wJ, n_wJ, R_wJ, I_wJ, J_wJe, I_wIn, J_wJn, I_sIe, J_sJe, R_sRe, I_sIn, I_sIk, J_sJn, J_sJk, R_sRn, R_sRk, eq_self, if_true, if_false, ↓reduceIte, cond_true, cond_false, ↓cond_eq_ite, and_true, true_and, and_false, false_and, or_true, true_or, or_false, false_or, not_true_eq_false, not_false_eq_true, ft_ltT, ft_ltF, ft_eqT, ft_eqF, Bool.false_eq_true, Bool.true_eq_false, Bool.not_true, Bool.not_false, Bool.and_true, Bool.true_and, Bool.and_false, Bool.false_and, decide_true, decide_false, Nat.reduceAdd, Nat.reduceMul, Nat.reduceSub, Nat.reduceEqDiff, Nat.reduceLT, Nat.zero_add, Nat.add_zero, Nat.reduceDiv, Nat.reduceMod, hK_k, hK_n, hK_R, hK_I, h2, sf_k60 S, sf_R60_0 S, ↓sf_v60_0 S, sf_k61 S, sf_n61 S, h4, ↓lt, ↓wc, ↓pt]
theorem C_f85 {F : Nat × Nat} (hF : FF F) {h : jH} (S : ShF h) {tp : Nat → Nat} {tl : Nat} (P : TP h tp tl) (k4 : Nat → Int32 → Int32 → jH → Option jO) {A B C : Nat → Int32} {c i : Nat} (hc : c < 401) : ∀ d j f, j + d = tl → i ≤ j → d < f → (∀ x, i ≤ x → x < j → kD (tp x) = true) → m_P_findTokens_85 F k4 f 60 (nI c) (nI i) (nI j) (hK h A B C) = k4 60 (nI (c + 1)) (nI (rn kD tp d j)) (hK h (va_up A c (nI i)) (va_up B c (nI 401)) (va_up C c (nI (nV 1000 tp (rn kD tp d j - i) i 0))))
  | d, j, 0, e, hi, hf, hx => absurd hf (by omega)
  | 0, j, f + 1, e, hi, hf, hx => by
    have h1 := P.2.1
    have h2 := P.1
    have wc := C_numV_b hF (S.hK A B C) (P.hK A B C) (fr := i) (to := j) (by omega) hi hx
    have pt := C_put_b (F := F) S.P (A := A) (B := B) (C := C) hc (nI i) (nI 401) (nI (nV 1000 tp (j - i) i 0))
    have e3 : rn kD tp 0 j = j := rfl
    rw [e3, q_P_findTokens_85]
    simp (disch := first | exact sR_rfl _ _ rfl | omega) only [ft_lit, ft_m1, ft_m2, ft_m3, ft_m5, ft_m6, ft_cl, ft_lt, ft_le, ft_eq, ft_mlt, ft_ltm, ft_mltm, ft_meq, ft_eqm, ft_meqm, ft_add, ft_mul, ft_sub, ft_nm, ft_m1p, ft_and, ft_or, ft_31, ft_shl, ft_shr, ft_bz, ft_z0, ft_z1, ft_z01, ft_bb, ft_zt, ft_zf, ft_or0, ft_rv, ft_rvr, ft_rf, ft_rfn, ft_bI, ft_bJ, ft_bV, ft_bR, ft_bRn, ft_isr, ft_isn, ft_ifn, ft_ifr, ft_ov, ft_ovn, ft_in, k_sI, n_sI, R_sI, J_sI, c_sI, z_sI, k_sJ, n_sJ, R_sJ, I_sJ, c_sJ, z_sJ, k_sR, n_sR, I_sR, J_sR, c_sR, z_sR, k_wI, n_wI, R_wI, J_wI, I_wIe, k_wJ, n_wJ, R_wJ, I_wJ, J_wJe, I_wIn, J_wJn, I_sIe, J_sJe, R_sRe, I_sIn, I_sIk, J_sJn, J_sJk, R_sRn, R_sRk, eq_self, if_true, if_false, ↓reduceIte, cond_true, cond_false, ↓cond_eq_ite, and_true, true_and, and_false, false_and, or_true, true_or, or_false, false_or, not_true_eq_false, not_false_eq_true, ft_ltT, ft_ltF, ft_eqT, ft_eqF, Bool.false_eq_true, Bool.true_eq_false, Bool.not_true, Bool.not_false, Bool.and_true, Bool.true_and, Bool.and_false, Bool.false_and, decide_true, decide_false, Nat.reduceAdd, Nat.reduceMul, Nat.reduceSub, Nat.reduceEqDiff, Nat.reduceLT, Nat.zero_add, Nat.add_zero, Nat.reduceDiv, Nat.reduceMod, hK_k, hK_n, hK_R, hK_I, h2, sf_k60 S, sf_R60_0 S, ↓sf_v60_0 S, sf_k61 S, sf_n61 S, ↓wc, ↓pt]
  | d + 1, j, f + 1, e, hi, hf, hx => by
    have h1 := P.2.1
    have h2 := P.1
    have h3 := P.2.2 j (by omega)
    have h4 := h3.1
    have lt := C_isD_b (F := F) (h := hK h A B C) h3.2
    unfold rn
    cases w : kD (tp j) with
    | true =>
      rw [w] at lt
      rw [if_pos rfl, ← C_f85 hF S P k4 hc d (j + 1) f (by omega) (by omega) (by omega) (fun x a b => by
        by_cases y : x = j
        · rw [y]; exact w
        · exact hx x a (by omega))]
      rw [q_P_findTokens_85]
      simp (disch := first | exact sR_rfl _ _ rfl | omega) only [ft_lit, ft_m1, ft_m2, ft_m3, ft_m5, ft_m6, ft_cl, ft_lt, ft_le, ft_eq, ft_mlt, ft_ltm, ft_mltm, ft_meq, ft_eqm, ft_meqm, ft_add, ft_mul, ft_sub, ft_nm, ft_m1p, ft_and, ft_or, ft_31, ft_shl, ft_shr, ft_bz, ft_z0, ft_z1, ft_z01, ft_bb, ft_zt, ft_zf, ft_or0, ft_rv, ft_rvr, ft_rf, ft_rfn, ft_bI, ft_bJ, ft_bV, ft_bR, ft_bRn, ft_isr, ft_isn, ft_ifn, ft_ifr, ft_ov, ft_ovn, ft_in, k_sI, n_sI, R_sI, J_sI, c_sI, z_sI, k_sJ, n_sJ, R_sJ, I_sJ, c_sJ, z_sJ, k_sR, n_sR, I_sR, J_sR, c_sR, z_sR, k_wI, n_wI, R_wI, J_wI, I_wIe, k_wJ, n_wJ, R_wJ, I_wJ, J_wJe, I_wIn, J_wJn, I_sIe, J_sJe, R_sRe, I_sIn, I_sIk, J_sJn, J_sJk, R_sRn, R_sRk, eq_self, if_true, if_false, ↓reduceIte, cond_true, cond_false, ↓cond_eq_ite, and_true, true_and, and_false, false_and, or_true, true_or, or_false, false_or, not_true_eq_false, not_false_eq_true, ft_ltT, ft_ltF, ft_eqT, ft_eqF, Bool.false_eq_true, Bool.true_eq_false, Bool.not_true, Bool.not_false, Bool.and_true, Bool.true_and, Bool.and_false, Bool.false_and, decide_true, decide_false, Nat.reduceAdd, Nat.reduceMul, Nat.reduceSub, Nat.reduceEqDiff, Nat.reduceLT, Nat.zero_add, Nat.add_zero, Nat.reduceDiv, Nat.reduceMod, hK_k, hK_n, hK_R, hK_I, h2, sf_k60 S, sf_R60_0 S, ↓sf_v60_0 S, sf_k61 S, sf_n61 S, h4, ↓lt]
    | false =>
      rw [w] at lt
      have wc := C_numV_b hF (S.hK A B C) (P.hK A B C) (fr := i) (to := j) (by omega) hi hx
      have pt := C_put_b (F := F) S.P (A := A) (B := B) (C := C) hc (nI i) (nI 401) (nI (nV 1000 tp (j - i) i 0))
      rw [if_neg (by decide)]
      rw [q_P_findTokens_85]
      simp (disch := first | exact sR_rfl _ _ rfl | omega) only [ft_lit, ft_m1, ft_m2, ft_m3, ft_m5, ft_m6, ft_cl, ft_lt, ft_le, ft_eq, ft_mlt, ft_ltm, ft_mltm, ft_meq, ft_eqm, ft_meqm, ft_add, ft_mul, ft_sub, ft_nm, ft_m1p, ft_and, ft_or, ft_31, ft_shl, ft_shr, ft_bz, ft_z0, ft_z1, ft_z01, ft_bb, ft_zt, ft_zf, ft_or0, ft_rv, ft_rvr, ft_rf, ft_rfn, ft_bI, ft_bJ, ft_bV, ft_bR, ft_bRn, ft_isr, ft_isn, ft_ifn, ft_ifr, ft_ov, ft_ovn, ft_in, k_sI, n_sI, R_sI, J_sI, c_sI, z_sI, k_sJ, n_sJ, R_sJ, I_sJ, c_sJ, z_sJ, k_sR, n_sR, I_sR, J_sR, c_sR, z_sR, k_wI, n_wI, R_wI, J_wI, I_wIe, k_wJ, n_wJ, R_wJ, I_wJ, J_wJe, I_wIn, J_wJn, I_sIe, J_sJe, R_sRe, I_sIn, I_sIk, J_sJn, J_sJk, R_sRn, R_sRk, eq_self, if_true, if_false, ↓reduceIte, cond_true, cond_false, ↓cond_eq_ite, and_true, true_and, and_false, false_and, or_true, true_or, or_false, false_or, not_true_eq_false, not_false_eq_true, ft_ltT, ft_ltF, ft_eqT, ft_eqF, Bool.false_eq_true, Bool.true_eq_false, Bool.not_true, Bool.not_false, Bool.and_true, Bool.true_and, Bool.and_false, Bool.false_and, decide_true, decide_false, Nat.reduceAdd, Nat.reduceMul, Nat.reduceSub, Nat.reduceEqDiff, Nat.reduceLT, Nat.zero_add, Nat.add_zero, Nat.reduceDiv, Nat.reduceMod, hK_k, hK_n, hK_R, hK_I, h2, sf_k60 S, sf_R60_0 S, ↓sf_v60_0 S, sf_k61 S, sf_n61 S, h4, ↓lt, ↓wc, ↓pt]
