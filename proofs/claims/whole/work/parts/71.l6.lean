/-! WHAT IS TOLD LAST -/
def iV (i : Nat) : Int32 := if i = 0 then mI 0 else nI (i - 1)
theorem iV_s (i : Nat) : iV (i + 1) = nI i := by unfold iV; rw [if_neg (by omega)]; rfl
theorem iV_d {i : Nat} : nI i + mI 0 = iV i := by
  unfold iV
  by_cases w : i = 0
  · subst w; decide
  · rw [if_neg w, ft_m1p (by omega)]
theorem iV_b (i : Nat) : nI i - nI 1 = iV i := by
  unfold iV
  by_cases w : i = 0
  · subst w; decide
  · rw [if_neg w, ft_sub (by omega)]
theorem wT_1 {e : Ev} {c : Cz} : (wT e c.2.2.2.2).getD BR = 1 ↔ h_holds e c = true := by
  unfold wT h_holds
  cases c.2.2.2.2 with
  | none => simp
  | some d =>
    cases hd : d.2 e with
    | none => simp [hd, BR]
    | some b => cases b <;> simp [hd, zL]
theorem wT_r {e : Ev} {o : Option ((Nat → List Nat) × Dt)} : -9223372036854775808 ≤ (wT e o).getD BR ∧ (wT e o).getD BR < 9223372036854775808 := by
  unfold wT
  cases o with
  | none => simp
  | some d =>
    cases hd : d.2 e with
    | none => simp [hd, BR]
    | some b => cases b <;> simp [hd, zL]
