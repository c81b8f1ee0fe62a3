/-! THE START: A LIST OF OPERATIONS, AND WHAT THEY LEAVE -/
abbrev Op : Type := Nat × Nat × Nat × Nat
def stp (h : jH) (p : Op) : jH := if p.1 = 0 then j_new h p.2.1 p.2.2.1 else if p.1 = 1 then j_sR h p.2.1 p.2.2.1 (some p.2.2.2) else if p.1 = 2 then j_sI h p.2.1 p.2.2.1 (nI p.2.2.2) else j_sI h p.2.1 p.2.2.1 (mI p.2.2.2)
def runR : List Op → jH → jH
  | [], h => h
  | p :: l, h => stp (runR l h) p
def cR : List Op → Nat
  | [] => 0
  | p :: l => if p.1 = 0 then cR l + 1 else cR l
def kR : List Op → Nat → Option (Nat × Nat)
  | [], _ => none
  | p :: l, a => if p.1 = 0 ∧ a = 4 + cR l then some (p.2.1, p.2.2.1) else kR l a
def rR : List Op → Nat → Nat → Option (Option Nat)
  | [], _, _ => none
  | p :: l, a, i => if p.1 = 0 ∧ a = 4 + cR l then some none else if p.1 = 1 ∧ p.2.1 = a ∧ p.2.2.1 = i then some (some p.2.2.2) else rR l a i
/-- tag and value of the last write: 2 n for nI n, 3 n for mI n -/
def iR : List Op → Nat → Nat → Option (Nat × Nat)
  | [], _, _ => none
  | p :: l, a, i => if p.1 = 0 ∧ a = 4 + cR l then some (2, 0) else if 2 ≤ p.1 ∧ p.2.1 = a ∧ p.2.2.1 = i then some (p.1, p.2.2.2) else iR l a i
def iRv (q : Nat × Nat) : Int32 := if q.1 = 2 then nI q.2 else mI q.2
theorem runR_c {h : jH} (hc : j_c h = 4) : ∀ l, j_c (runR l h) = 4 + cR l
  | [] => hc
  | p :: l => by
    have ih := runR_c hc l
    unfold runR cR stp
    by_cases q : p.1 = 0
    · rw [if_pos q, if_pos q, new_c, ih]; omega
    · rw [if_neg q, if_neg q]
      by_cases q1 : p.1 = 1
      · rw [if_pos q1]; exact ih
      · rw [if_neg q1]
        by_cases q2 : p.1 = 2
        · rw [if_pos q2]; exact ih
        · rw [if_neg q2]; exact ih
theorem new_o {h : jH} {q n a : Nat} (e : a ≠ j_c h) : (j_k (j_new h q n) a = j_k h a ∧ j_n (j_new h q n) a = j_n h a) ∧ ∀ i, j_I (j_new h q n) a i = j_I h a i ∧ j_R (j_new h q n) a i = j_R h a i ∧ j_J (j_new h q n) a i = j_J h a i := by
  unfold j_k j_n j_I j_R j_J j_new va_up
  simp [e]
theorem new_e (h : jH) (q n i : Nat) : j_I (j_new h q n) (j_c h) i = nI 0 ∧ j_R (j_new h q n) (j_c h) i = none ∧ j_J (j_new h q n) (j_c h) i = 0 := by
  unfold j_I j_R j_J j_new va_up
  simp
  rfl
theorem runR_k {h : jH} (hc : j_c h = 4) (a : Nat) : ∀ l, (j_k (runR l h) a, j_n (runR l h) a) = (kR l a).getD (j_k h a, j_n h a)
  | [] => rfl
  | p :: l => by
    have ih := runR_k hc a l
    have cc := runR_c hc l
    unfold runR kR stp
    by_cases q : p.1 = 0
    · rw [if_pos q]
      by_cases e : a = 4 + cR l
      · rw [if_pos ⟨q, e⟩, e, ← cc, new_k, new_n]; rfl
      · rw [if_neg (fun z => e z.2), (new_o (by rw [cc]; exact e)).1.1, (new_o (by rw [cc]; exact e)).1.2]; exact ih
    · rw [if_neg q, if_neg (show ¬ (p.1 = 0 ∧ a = 4 + cR l) from fun z => q z.1)]
      by_cases q1 : p.1 = 1
      · rw [if_pos q1]; exact ih
      · rw [if_neg q1]
        by_cases q2 : p.1 = 2
        · rw [if_pos q2]; exact ih
        · rw [if_neg q2]; exact ih
theorem runR_R {h : jH} (hc : j_c h = 4) (a i : Nat) : ∀ l, j_R (runR l h) a i = (rR l a i).getD (j_R h a i)
  | [] => rfl
  | p :: l => by
    have ih := runR_R hc a i l
    have cc := runR_c hc l
    unfold runR rR stp
    by_cases q : p.1 = 0
    · rw [if_pos q]
      by_cases e : a = 4 + cR l
      · rw [if_pos ⟨q, e⟩, e, ← cc, (new_e _ _ _ _).2.1]; rfl
      · rw [if_neg (fun z => e z.2), if_neg (fun z => by omega), ((new_o (by rw [cc]; exact e)).2 i).2.1]; exact ih
    · rw [if_neg q, if_neg (show ¬ (p.1 = 0 ∧ a = 4 + cR l) from fun z => q z.1)]
      by_cases q1 : p.1 = 1
      · rw [if_pos q1]
        by_cases e : p.2.1 = a ∧ p.2.2.1 = i
        · rw [if_pos ⟨q1, e⟩, e.1, e.2, R_sRe]; rfl
        · rw [if_neg (fun z => e z.2)]
          by_cases e1 : a = p.2.1
          · rw [e1, R_sRk (fun z => e ⟨e1.symm, z.symm⟩), ← e1]; exact ih
          · rw [R_sRn e1]; exact ih
      · rw [if_neg q1, if_neg (show ¬ (p.1 = 1 ∧ p.2.1 = a ∧ p.2.2.1 = i) from fun z => q1 z.1)]
        by_cases q2 : p.1 = 2
        · rw [if_pos q2]; exact ih
        · rw [if_neg q2]; exact ih
theorem runR_I {h : jH} (hc : j_c h = 4) (a i : Nat) : ∀ l, (∀ p ∈ l, p.1 ≤ 3) → j_I (runR l h) a i = ((iR l a i).map iRv).getD (j_I h a i)
  | [], _ => rfl
  | p :: l, hp => by
    have ih := runR_I hc a i l (fun p h => hp p (List.mem_cons_of_mem _ h))
    have cc := runR_c hc l
    have p3 := hp p (List.mem_cons_self ..)
    unfold runR iR stp
    by_cases q : p.1 = 0
    · rw [if_pos q]
      by_cases e : a = 4 + cR l
      · rw [if_pos ⟨q, e⟩, e, ← cc, (new_e _ _ _ _).1]; rfl
      · rw [if_neg (fun z => e z.2), if_neg (fun z => by omega), ((new_o (by rw [cc]; exact e)).2 i).1]; exact ih
    · rw [if_neg q, if_neg (show ¬ (p.1 = 0 ∧ a = 4 + cR l) from fun z => q z.1)]
      by_cases q1 : p.1 = 1
      · rw [if_pos q1, if_neg (fun z => by omega)]; exact ih
      · rw [if_neg q1]
        have wr : ∀ x : Int32, (if 2 ≤ p.1 ∧ p.2.1 = a ∧ p.2.2.1 = i then some (p.1, p.2.2.2) else iR l a i) = (if p.2.1 = a ∧ p.2.2.1 = i then some (p.1, p.2.2.2) else iR l a i) ∧ j_I (j_sI (runR l h) p.2.1 p.2.2.1 x) a i = if p.2.1 = a ∧ p.2.2.1 = i then x else j_I (runR l h) a i := fun x => by
          by_cases e : p.2.1 = a ∧ p.2.2.1 = i
          · rw [if_pos ⟨by omega, e⟩, if_pos e, if_pos e, e.1, e.2, I_sIe]; exact ⟨rfl, rfl⟩
          · rw [if_neg (fun z => e z.2), if_neg e, if_neg e]
            refine ⟨rfl, ?_⟩
            by_cases e1 : a = p.2.1
            · rw [e1, I_sIk (fun z => e ⟨e1.symm, z.symm⟩)]
            · rw [I_sIn e1]
        by_cases q2 : p.1 = 2
        · rw [if_pos q2, (wr (nI p.2.2.2)).1, (wr (nI p.2.2.2)).2]
          by_cases e : p.2.1 = a ∧ p.2.2.1 = i
          · rw [if_pos e, if_pos e, q2]; rfl
          · rw [if_neg e, if_neg e]; exact ih
        · rw [if_neg q2, (wr (mI p.2.2.2)).1, (wr (mI p.2.2.2)).2]
          by_cases e : p.2.1 = a ∧ p.2.2.1 = i
          · rw [if_pos e, if_pos e, show p.1 = 3 from by omega]; rfl
          · rw [if_neg e, if_neg e]; exact ih
/-- a row in which only these places were written -/
def wOnly (a : Nat) (idx : List Nat) : List Op → Bool
  | [] => false
  | p :: l => if p.1 = 0 ∧ a = 4 + cR l then true else if 2 ≤ p.1 ∧ p.2.1 = a then (idx.contains p.2.2.1 && wOnly a idx l) else wOnly a idx l
theorem iR_0 {a i : Nat} {idx : List Nat} (hi : idx.contains i = false) : ∀ l, wOnly a idx l = true → iR l a i = some (2, 0)
  | [], h => by cases h
  | p :: l, h => by
    unfold wOnly at h
    unfold iR
    by_cases q : p.1 = 0 ∧ a = 4 + cR l
    · rw [if_pos q]
    · rw [if_neg q] at h ⊢
      by_cases q1 : 2 ≤ p.1 ∧ p.2.1 = a
      · rw [if_pos q1] at h
        have h' := (Bool.and_eq_true _ _).mp h
        by_cases e : p.2.2.1 = i
        · rw [e, hi] at h'; cases h'.1
        · rw [if_neg (fun z => e z.2.2)]; exact iR_0 hi l h'.2
      · rw [if_neg q1] at h
        rw [if_neg (fun z => q1 ⟨z.1, z.2.1⟩)]
        exact iR_0 hi l h
def rOnly (a : Nat) : List Op → Bool
  | [] => false
  | p :: l => if p.1 = 0 ∧ a = 4 + cR l then true else if p.1 = 1 ∧ p.2.1 = a then false else rOnly a l
theorem rR_0 {a i : Nat} : ∀ l, rOnly a l = true → rR l a i = some none
  | [], h => by cases h
  | p :: l, h => by
    unfold rOnly at h
    unfold rR
    by_cases q : p.1 = 0 ∧ a = 4 + cR l
    · rw [if_pos q]
    · rw [if_neg q] at h ⊢
      by_cases q1 : p.1 = 1 ∧ p.2.1 = a
      · rw [if_pos q1] at h; cases h
      · rw [if_neg q1] at h
        rw [if_neg (fun z => q1 ⟨z.1, z.2.1⟩)]
        exact rR_0 l h
def iOps : List Op := [(0, 10, 16, 0), (0, 12, 15, 0), (0, 0, 25, 0), (1, 5, 0, 6), (0, 0, 25, 0), (1, 5, 1, 7), (2, 5, 2, 0), (0, 0, 4, 0), (1, 5, 3, 8), (0, 0, 4, 0), (1, 5, 4, 9), (0, 0, 4, 0), (1, 5, 5, 10), (0, 0, 4, 0), (1, 5, 6, 11), (0, 1, 4, 0), (1, 5, 7, 12), (2, 5, 8, 0), (0, 0, 6, 0), (1, 5, 9, 13), (0, 0, 6, 0), (1, 5, 10, 14), (0, 0, 3, 0), (1, 5, 11, 15), (0, 4, 6, 0), (1, 5, 12, 16), (2, 5, 13, 0), (3, 5, 14, 0), (2, 15, 1, 1), (1, 4, 0, 5), (0, 12, 15, 0), (0, 0, 25, 0), (1, 17, 0, 18), (0, 0, 25, 0), (1, 17, 1, 19), (2, 17, 2, 0), (0, 0, 4, 0), (1, 17, 3, 20), (0, 0, 4, 0), (1, 17, 4, 21), (0, 0, 4, 0), (1, 17, 5, 22), (0, 0, 4, 0), (1, 17, 6, 23), (0, 1, 4, 0), (1, 17, 7, 24), (2, 17, 8, 0), (0, 0, 6, 0), (1, 17, 9, 25), (0, 0, 6, 0), (1, 17, 10, 26), (0, 0, 3, 0), (1, 17, 11, 27), (0, 4, 6, 0), (1, 17, 12, 28), (2, 17, 13, 0), (3, 17, 14, 0), (2, 27, 1, 1), (1, 4, 1, 17), (0, 12, 15, 0), (0, 0, 25, 0), (1, 29, 0, 30), (0, 0, 25, 0), (1, 29, 1, 31), (2, 29, 2, 0), (0, 0, 4, 0), (1, 29, 3, 32), (0, 0, 4, 0), (1, 29, 4, 33), (0, 0, 4, 0), (1, 29, 5, 34), (0, 0, 4, 0), (1, 29, 6, 35), (0, 1, 4, 0), (1, 29, 7, 36), (2, 29, 8, 0), (0, 0, 6, 0), (1, 29, 9, 37), (0, 0, 6, 0), (1, 29, 10, 38), (0, 0, 3, 0), (1, 29, 11, 39), (0, 4, 6, 0), (1, 29, 12, 40), (2, 29, 13, 0), (3, 29, 14, 0), (2, 39, 1, 1), (1, 4, 2, 29), (0, 5, 2, 0), (1, 4, 3, 41), (0, 11, 10, 0), (0, 0, 16, 0), (1, 42, 0, 43), (0, 0, 16, 0), (1, 42, 1, 44), (0, 0, 16, 0), (1, 42, 2, 45), (0, 0, 16, 0), (1, 42, 3, 46), (0, 1, 16, 0), (1, 42, 4, 47), (0, 0, 16, 0), (1, 42, 5, 48), (0, 0, 16, 0), (1, 42, 6, 49), (0, 1, 16, 0), (1, 42, 7, 50), (2, 42, 8, 0), (2, 42, 9, 0), (1, 4, 4, 42), (0, 11, 10, 0), (0, 0, 16, 0), (1, 51, 0, 52), (0, 0, 16, 0), (1, 51, 1, 53), (0, 0, 16, 0), (1, 51, 2, 54), (0, 0, 16, 0), (1, 51, 3, 55), (0, 1, 16, 0), (1, 51, 4, 56), (0, 0, 16, 0), (1, 51, 5, 57), (0, 0, 16, 0), (1, 51, 6, 58), (0, 1, 16, 0), (1, 51, 7, 59), (2, 51, 8, 0), (2, 51, 9, 0), (1, 4, 5, 51), (0, 13, 12, 0), (0, 0, 400, 0), (1, 60, 0, 61), (2, 60, 1, 0), (3, 60, 2, 0), (0, 15, 8, 0), (2, 62, 6, 0), (2, 62, 7, 0), (0, 0, 480, 0), (1, 62, 0, 63), (0, 0, 12, 0), (1, 62, 1, 64), (0, 0, 12, 0), (1, 62, 2, 65), (0, 0, 12, 0), (1, 62, 3, 66), (0, 0, 12, 0), (1, 62, 4, 67), (0, 0, 12, 0), (1, 62, 5, 68), (1, 60, 3, 62), (0, 0, 401, 0), (1, 60, 4, 69), (0, 0, 401, 0), (1, 60, 5, 70), (0, 0, 401, 0), (1, 60, 6, 71), (2, 60, 7, 0), (2, 60, 8, 402), (2, 60, 9, 0), (2, 60, 10, 0), (2, 60, 11, 0), (1, 4, 6, 60), (0, 14, 2, 0), (0, 1, 8, 0), (1, 72, 0, 73), (0, 1, 48, 0), (1, 72, 1, 74), (1, 4, 7, 72), (0, 16, 5, 0), (0, 0, 100, 0), (1, 75, 0, 76), (0, 0, 25, 0), (1, 75, 1, 77), (0, 0, 25, 0), (1, 75, 2, 78), (0, 0, 25, 0), (1, 75, 3, 79), (0, 0, 1600, 0), (1, 75, 4, 80), (1, 4, 8, 75), (0, 1, 36, 0), (1, 4, 9, 81), (0, 1, 20, 0), (1, 4, 10, 82), (0, 0, 5, 0), (1, 4, 11, 83), (0, 0, 7, 0), (1, 4, 12, 84), (2, 4, 13, 0), (3, 4, 14, 0), (2, 4, 15, 0), (0, 17, 52, 0), (0, 0, 7, 0), (1, 85, 1, 86), (0, 0, 5788, 0), (1, 85, 2, 87), (0, 0, 11576, 0), (1, 85, 3, 88), (0, 3, 2, 0), (1, 85, 4, 89), (0, 0, 210, 0), (1, 85, 5, 90), (0, 2, 137, 0), (2, 91, 0, 99), (2, 91, 1, 111), (2, 91, 2, 115), (2, 91, 3, 116), (2, 91, 4, 115), (2, 91, 5, 32), (2, 91, 6, 115), (2, 91, 7, 101), (2, 91, 8, 101), (2, 91, 9, 115), (2, 91, 10, 32), (2, 91, 11, 98), (2, 91, 12, 97), (2, 91, 13, 114), (2, 91, 14, 115), (2, 91, 15, 32), (2, 91, 16, 105), (2, 91, 17, 102), (2, 91, 18, 32), (2, 91, 19, 111), (2, 91, 20, 114), (2, 91, 21, 32), (2, 91, 22, 97), (2, 91, 23, 110), (2, 91, 24, 100), (2, 91, 25, 32), (2, 91, 26, 110), (2, 91, 27, 111), (2, 91, 28, 116), (2, 91, 29, 32), (2, 91, 30, 119), (2, 91, 31, 97), (2, 91, 32, 108), (2, 91, 33, 107), (2, 91, 34, 101), (2, 91, 35, 114), (2, 91, 36, 32), (2, 91, 37, 104), (2, 91, 38, 101), (2, 91, 39, 105), (2, 91, 40, 103), (2, 91, 41, 104), (2, 91, 42, 116), (2, 91, 43, 32), (2, 91, 44, 114), (2, 91, 45, 105), (2, 91, 46, 115), (2, 91, 47, 101), (2, 91, 48, 32), (2, 91, 49, 107), (2, 91, 50, 110), (2, 91, 51, 111), (2, 91, 52, 119), (2, 91, 53, 110), (2, 91, 54, 32), (2, 91, 55, 112), (2, 91, 56, 97), (2, 91, 57, 99), (2, 91, 58, 101), (2, 91, 59, 32), (2, 91, 60, 109), (2, 91, 61, 111), (2, 91, 62, 111), (2, 91, 63, 100), (2, 91, 64, 32), (2, 91, 65, 107), (2, 91, 66, 105), (2, 91, 67, 110), (2, 91, 68, 100), (2, 91, 69, 32), (2, 91, 70, 109), (2, 91, 71, 105), (2, 91, 72, 110), (2, 91, 73, 117), (2, 91, 74, 116), (2, 91, 75, 101), (2, 91, 76, 32), (2, 91, 77, 100), (2, 91, 78, 111), (2, 91, 79, 110), (2, 91, 80, 101), (2, 91, 81, 32), (2, 91, 82, 108), (2, 91, 83, 97), (2, 91, 84, 116), (2, 91, 85, 101), (2, 91, 86, 115), (2, 91, 87, 116), (2, 91, 88, 32), (2, 91, 89, 97), (2, 91, 90, 116), (2, 91, 91, 32), (2, 91, 92, 109), (2, 91, 93, 97), (2, 91, 94, 112), (2, 91, 95, 112), (2, 91, 96, 101), (2, 91, 97, 100), (2, 91, 98, 32), (2, 91, 99, 115), (2, 91, 100, 116), (2, 91, 101, 101), (2, 91, 102, 112), (2, 91, 103, 32), (2, 91, 104, 116), (2, 91, 105, 111), (2, 91, 106, 32), (2, 91, 107, 106), (2, 91, 108, 111), (2, 91, 109, 105), (2, 91, 110, 110), (2, 91, 111, 32), (2, 91, 112, 119), (2, 91, 113, 105), (2, 91, 114, 116), (2, 91, 115, 104), (2, 91, 116, 32), (2, 91, 117, 115), (2, 91, 118, 109), (2, 91, 119, 101), (2, 91, 120, 97), (2, 91, 121, 114), (2, 91, 122, 32), (2, 91, 123, 111), (2, 91, 124, 102), (2, 91, 125, 32), (2, 91, 126, 112), (2, 91, 127, 97), (2, 91, 128, 115), (2, 91, 129, 115), (2, 91, 130, 32), (2, 91, 131, 116), (2, 91, 132, 105), (2, 91, 133, 109), (2, 91, 134, 101), (2, 91, 135, 115), (2, 91, 136, 32), (1, 85, 7, 91), (0, 2, 400, 0), (1, 85, 11, 92), (0, 0, 5, 0), (1, 85, 12, 93), (3, 85, 14, 0), (0, 0, 401, 0), (1, 85, 15, 94), (0, 0, 401, 0), (1, 85, 16, 95), (0, 0, 401, 0), (1, 85, 17, 96), (0, 0, 8, 0), (1, 85, 26, 97), (0, 0, 1696, 0), (1, 85, 29, 98), (0, 0, 1696, 0), (1, 85, 30, 99), (0, 0, 125, 0), (1, 85, 32, 100), (0, 0, 25, 0), (1, 85, 33, 101), (0, 0, 25, 0), (1, 85, 34, 102), (0, 0, 25, 0), (1, 85, 35, 103), (0, 0, 6, 0), (1, 85, 36, 104), (0, 0, 25, 0), (1, 85, 37, 105), (0, 0, 1600, 0), (1, 85, 38, 106), (0, 0, 5, 0), (1, 85, 40, 107), (0, 1, 21, 0), (1, 85, 41, 108), (3, 85, 42, 0), (0, 1, 2, 0), (1, 85, 48, 109), (0, 0, 105, 0), (1, 85, 49, 110), (3, 85, 50, 0), (2, 87, 175, 1), (3, 87, 180, 0)]
def HN (n : Nat) (h0 : jH) : jH := runR (iOps.take n).reverse h0
theorem HN_s {h0 : jH} {n : Nat} {p : Op} (e : iOps[n]? = some p) : HN (n + 1) h0 = stp (HN n h0) p := by
  unfold HN
  rw [List.take_add_one, e]
  show runR (iOps.take n ++ [p]).reverse h0 = _
  rw [List.reverse_append]
  rfl
theorem uE_new {h0 : jH} (n : Nat) {k l : Nat} (e : iOps[n]? = some (0, k, l, 0)) : j_new (HN n h0) k l = HN (n + 1) h0 := by rw [HN_s e]; rfl
theorem uE_sR {h0 : jH} (n : Nat) {a i v : Nat} (e : iOps[n]? = some (1, a, i, v)) : j_sR (HN n h0) a i (some v) = HN (n + 1) h0 := by rw [HN_s e]; rfl
theorem uE_sI {h0 : jH} (n : Nat) {a i v : Nat} (e : iOps[n]? = some (2, a, i, v)) : j_sI (HN n h0) a i (nI v) = HN (n + 1) h0 := by rw [HN_s e]; rfl
theorem uE_sM {h0 : jH} (n : Nat) {a i v : Nat} (e : iOps[n]? = some (3, a, i, v)) : j_sI (HN n h0) a i (mI v) = HN (n + 1) h0 := by rw [HN_s e]; rfl
theorem HCn {h0 : jH} (hc : j_c h0 = 4) {n m : Nat} (e : 4 + cR (iOps.take n).reverse = m) : j_c (HN n h0) = m := by
  unfold HN
  rw [runR_c hc]
  exact e
theorem HKn {h0 : jH} (hc : j_c h0 = 4) {n a k : Nat} (e : (kR (iOps.take n).reverse a).map Prod.fst = some k) : j_k (HN n h0) a = k := by
  have := congrArg Prod.fst (runR_k hc a (iOps.take n).reverse)
  unfold HN
  cases q : kR (iOps.take n).reverse a with
  | none => rw [q] at e; cases e
  | some x =>
    rw [q] at e this
    have e' : x.1 = k := Option.some.inj e
    rw [← e']
    exact this
theorem HLn {h0 : jH} (hc : j_c h0 = 4) {n a l : Nat} (e : (kR (iOps.take n).reverse a).map Prod.snd = some l) : j_n (HN n h0) a = l := by
  have := congrArg Prod.snd (runR_k hc a (iOps.take n).reverse)
  unfold HN
  cases q : kR (iOps.take n).reverse a with
  | none => rw [q] at e; cases e
  | some x =>
    rw [q] at e this
    have e' : x.2 = l := Option.some.inj e
    rw [← e']
    exact this
theorem HRn {h0 : jH} (hc : j_c h0 = 4) {n a i : Nat} {x : Option Nat} (e : rR (iOps.take n).reverse a i = some x) : j_R (HN n h0) a i = x := by
  unfold HN
  rw [runR_R hc, e]
  rfl
theorem iOps_3 : ∀ p ∈ iOps, p.1 ≤ 3 := by decide +kernel
theorem HIn {h0 : jH} (hc : j_c h0 = 4) {n a i : Nat} {q : Nat × Nat} (e : iR (iOps.take n).reverse a i = some q) : j_I (HN n h0) a i = iRv q := by
  unfold HN
  rw [runR_I hc a i _ (fun p hp => iOps_3 p (List.mem_of_mem_take (List.mem_reverse.mp hp))), e]
  rfl
