/-! THE CODE'S NUMBERS ARE SMALL -/
def sB (r : Rs) : Prop := r.1.1 = true → ∀ x ∈ r.2.1, x < 40000
theorem h_op_b (c : Nat) : h_op c < 40000 := by unfold h_op; repeat' split
                                                all_goals omega
theorem h_slot_b {od : Bool} {c v : Nat} (h : v ≤ 24) : h_slot od c v ≤ 35 := by unfold h_slot; repeat' split
                                                                                 all_goals omega
theorem h_numB {T : Tk} {lo hi : Nat} {s : Ps} (h : (h_num T lo hi (h_leaf s)).1 = true) : T.2 (s.2.1 + 1) ≤ hi := by
  unfold h_num at h
  by_cases w : (h_leaf s).1 = true
  · rw [if_pos w] at h
    by_cases y : T.1 (h_leaf s).2.1 = 50 ∧ lo ≤ T.2 (h_leaf s).2.1 ∧ T.2 (h_leaf s).2.1 ≤ hi
    · unfold h_leaf at w y
      by_cases z : s.2.2 = 50
      · rw [if_pos z] at w; cases w
      · rw [if_neg z] at y; exact y.2.2
    · rw [if_neg y] at h; cases h
  · rw [if_neg w] at h; exact absurd h w
theorem h_partB {T : Tk} {od : Bool} {rec : Option (Ps → Rs)} (hr : ∀ r, rec = some r → ∀ s, sB (r s)) (s : Ps) : sB (h_part T od rec s) := by
  unfold h_part
  split
  · intro _ x hx; cases hx
  · split
    · split
      · intro _ x hx; cases hx
      · rename_i r
        intro h x hx
        have t : (r (h_adv s)).1.1 = true := by
          by_cases w : h_tk T 193 (r (h_adv s)).1 = true
          · unfold h_tk at w; simp only [Bool.and_eq_true] at w; exact w.1
          · have h : (h_must T 193 (r (h_adv s)).1).1 = true := h
            unfold h_must at h
            rw [if_neg w] at h; cases h
        exact hr r rfl _ t x hx
    · split
      · rename_i e3
        intro _ x hx
        rw [List.mem_singleton.mp hx]; omega
      · split
        · split
          · intro h x hx
            have q := h_slot_b (od := od) (c := T.1 s.2.1) (h_numB h)
            rw [List.mem_singleton.mp hx]; omega
          · split
            · intro h x hx
              have q := h_slot_b (od := od) (c := T.1 s.2.1) (Nat.le_trans (h_numB h) (by omega))
              rw [List.mem_singleton.mp hx]; omega
            · intro h x hx
              have q := h_slot_b (od := od) (c := T.1 s.2.1) (Nat.zero_le 24)
              rw [List.mem_singleton.mp hx]; omega
        · intro _ x hx; cases hx
theorem sB_step {x p : Rs} {o : Nat} {d : Dn} (e : x.1.1 = true) (hx : sB x) (hp : sB p) (ho : o < 40000) : sB (p.1, x.2.1 ++ p.2.1 ++ [o], d) := by
  intro h y hy
  rcases List.mem_append.mp hy with q | q
  · rcases List.mem_append.mp q with q | q
    · exact hx e y q
    · exact hp h y q
  · rw [List.mem_singleton.mp q]; exact ho
theorem h_tlB {T : Tk} {od : Bool} {rec : Option (Ps → Rs)} (hr : ∀ r, rec = some r → ∀ s, sB (r s)) : ∀ f (x : Rs), sB x → sB (h_tl T od rec f x)
  | 0, x, h => h
  | f + 1, x, h => by
    unfold h_tl
    by_cases e : (x.1.1 && h_isT (T.1 x.1.2.1)) = true
    · rw [if_pos e]
      simp only [Bool.and_eq_true] at e
      exact h_tlB hr f _ (sB_step e.1 h (h_partB hr _) (h_op_b _))
    · rw [if_neg e]; exact h
theorem h_termB {T : Tk} {od : Bool} {rec : Option (Ps → Rs)} (hr : ∀ r, rec = some r → ∀ s, sB (r s)) (s : Ps) : sB (h_term T od rec s) := h_tlB hr hN _ (h_partB hr s)
theorem h_slB {T : Tk} {od : Bool} {rec : Option (Ps → Rs)} (hr : ∀ r, rec = some r → ∀ s, sB (r s)) : ∀ f (x : Rs), sB x → sB (h_sl T od rec f x)
  | 0, x, h => h
  | f + 1, x, h => by
    unfold h_sl
    by_cases e : (x.1.1 && h_isA (T.1 x.1.2.1)) = true
    · rw [if_pos e]
      simp only [Bool.and_eq_true] at e
      exact h_slB hr f _ (sB_step e.1 h (h_termB hr _) (h_op_b _))
    · rw [if_neg e]; exact h
theorem h_sumB {T : Tk} {od : Bool} : ∀ d (s : Ps), sB (h_sum T od d s)
  | 0, s => h_slB (fun r e => by cases e) hN _ (h_termB (fun r e => by cases e) s)
  | d + 1, s => h_slB (fun r e s => by cases Option.some.inj e; exact h_sumB d s) hN _ (h_termB (fun r e s => by cases Option.some.inj e; exact h_sumB d s) s)
