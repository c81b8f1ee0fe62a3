/-! THE CODE'S NUMBERS ARE SMALL: tests -/
def tB (r : Rt) : Prop := r.1.1 = true → ∀ b, b + (r.2.1 b).length ≤ 480 → ∀ x ∈ r.2.1 b, x < 40000
theorem h_tk_t {T : Tk} {c : Nat} {s : Ps} (h : h_tk T c s = true) : s.1 = true := by
  unfold h_tk at h; simp only [Bool.and_eq_true] at h; exact h.1
theorem h_mustT {T : Tk} {c : Nat} {s : Ps} (h : (h_must T c s).1 = true) : s.1 = true := by
  unfold h_must at h
  by_cases w : h_tk T c s = true
  · exact h_tk_t w
  · rw [if_neg w] at h; cases h
theorem h_csT {T : Tk} {s : Ps} (h : (h_cs T s).1 = true) : s.1 = true := by
  unfold h_cs at h
  by_cases w : h_tk T 160 s = true
  · exact h_tk_t w
  · rw [if_neg w] at h
    by_cases w : h_tk T 162 s = true
    · exact h_tk_t w
    · rw [if_neg w] at h; exact h_mustT h
theorem h_sumT {T : Tk} {od : Bool} {d : Nat} {s : Ps} (h : (h_sum T od d s).1.1 = true) : s.1 = true := by
  obtain ⟨b, t, l⟩ := s
  cases b
  · rw [h_sum_no] at h; exact h
  · rfl
theorem h_posiB {T : Tk} {od : Bool} {rec : Option (Ps → Rt)} (hr : ∀ r, rec = some r → ∀ s, tB (r s)) (d : Nat) (s : Ps) : tB (h_posi T od rec d s) := by
  unfold h_posi
  split
  · intro _ b _ x hx; cases hx
  · split
    · split
      · intro _ b _ x hx; cases hx
      · rename_i r
        intro h b hb x hx
        exact hr r rfl _ (h_mustT (c := 193 - 52) h) b hb x hx
    · intro h b hb x hx
      have t1 := h_sumT h
      have t2 := h_csT t1
      rcases List.mem_append.mp hx with q | q
      · rcases List.mem_append.mp q with q | q
        · exact h_sumB d s t2 x q
        · exact h_sumB d _ h x q
      · rw [List.mem_singleton.mp q]; exact h_op_b _
theorem h_plainB {T : Tk} {od : Bool} {rec : Option (Ps → Rt)} (hr : ∀ r, rec = some r → ∀ s, tB (r s)) (d : Nat) (s : Ps) : tB (h_plain T od rec d s) := by
  unfold h_plain
  intro h b hb x hx
  have hb : b + ((h_posi T od rec d (h_nl T hN false s).2).2.1 b ++ (if (h_nl T hN false s).1 then [3] else [])).length ≤ 480 := hb
  rw [List.length_append] at hb
  rcases List.mem_append.mp hx with q | q
  · exact h_posiB hr d _ h b (by omega) x q
  · split at q
    · rw [List.mem_singleton.mp q]; omega
    · cases q
theorem tB_step {x p : Rt} {o : Nat} {d : Dt} (e : x.1.1 = true) (hx : tB x) (hp : tB p) (ho : o < 32) : tB (p.1, h_skip o x.2.1 p.2.1, d) := by
  intro h b hb y hy
  have hb : b + (x.2.1 b ++ [(b + (x.2.1 b).length + 1 + (p.2.1 (b + (x.2.1 b).length + 1)).length) * 32 + o] ++ p.2.1 (b + (x.2.1 b).length + 1)).length ≤ 480 := hb
  simp only [List.length_append, List.length_cons, List.length_nil] at hb
  rcases List.mem_append.mp hy with q | q
  · rcases List.mem_append.mp q with q | q
    · exact hx e b (by omega) y q
    · rw [List.mem_singleton.mp q]; omega
  · exact hp h _ (by omega) y q
theorem h_blB {T : Tk} {od : Bool} {rec : Option (Ps → Rt)} (hr : ∀ r, rec = some r → ∀ s, tB (r s)) (d : Nat) : ∀ f (x : Rt), tB x → tB (h_bl T od rec d f x)
  | 0, x, h => h
  | f + 1, x, h => by
    unfold h_bl
    by_cases e : h_tk T 6 x.1 = true
    · rw [if_pos e]
      exact h_blB hr d f _ (tB_step (h_tk_t e) h (h_plainB hr d _) (by omega))
    · rw [if_neg e]; exact h
theorem h_bothB {T : Tk} {od : Bool} {rec : Option (Ps → Rt)} (hr : ∀ r, rec = some r → ∀ s, tB (r s)) (d : Nat) (s : Ps) : tB (h_both T od rec d s) := h_blB hr d hN _ (h_plainB hr d s)
theorem h_olB {T : Tk} {od : Bool} {rec : Option (Ps → Rt)} (hr : ∀ r, rec = some r → ∀ s, tB (r s)) (d : Nat) : ∀ f (x : Rt), tB x → tB (h_ol T od rec d f x)
  | 0, x, h => h
  | f + 1, x, h => by
    unfold h_ol
    by_cases e : h_tk T 5 x.1 = true
    · rw [if_pos e]
      exact h_olB hr d f _ (tB_step (h_tk_t e) h (h_bothB hr d _) (by omega))
    · rw [if_neg e]; exact h
theorem h_testB {T : Tk} {od : Bool} : ∀ d (s : Ps), tB (h_test T od d s)
  | 0, s => h_olB (fun r e => by cases e) 0 hN _ (h_bothB (fun r e => by cases e) 0 s)
  | d + 1, s => h_olB (fun r e s => by cases Option.some.inj e; exact h_testB d s) (d + 1) hN _ (h_bothB (fun r e s => by cases Option.some.inj e; exact h_testB d s) (d + 1) s)
/-- a good clause's code -/
theorem gZ_B {od : Bool} {c : Cz} (g : gZ od c) {sz : Nat} (hs : sz + (czC c sz).length ≤ 480) : ∀ x ∈ czC c sz, x < 40000 := by
  obtain ⟨c0, c1, c2, c3, c4⟩ := c
  obtain ⟨g1, g2, g3⟩ := g
  have z1 : ∀ o, gS od o → ∀ x ∈ zc1 o, x < 40000 := by
    intro o ho x hx
    cases o with
    | none => cases hx
    | some d =>
      obtain ⟨T, st, rfl, t⟩ := ho d rfl
      rcases List.mem_append.mp hx with q | q
      · exact h_sumB 8 st t x q
      · rw [List.mem_singleton.mp q]; omega
  have hs : sz + (zc1 c1 ++ zc1 c2 ++ zc3 c4 (sz + (zc1 c1 ++ zc1 c2).length)).length ≤ 480 := hs
  rw [List.length_append] at hs
  intro x hx
  have hx : x ∈ zc1 c1 ++ zc1 c2 ++ zc3 c4 (sz + (zc1 c1 ++ zc1 c2).length) := hx
  rcases List.mem_append.mp hx with q | q
  · rcases List.mem_append.mp q with q | q
    · exact z1 _ g1 x q
    · exact z1 _ g2 x q
  · cases c4 with
    | none => cases q
    | some d =>
      obtain ⟨T, st, rfl, t⟩ := g3 d rfl
      have hl : (zc3 (some (h_test T od 8 st).2) (sz + (zc1 c1 ++ zc1 c2).length)).length = ((h_test T od 8 st).2.1 (sz + (zc1 c1 ++ zc1 c2).length)).length + 1 := by
        show ((h_test T od 8 st).2.1 _ ++ [0]).length = _
        rw [List.length_append]; rfl
      rcases List.mem_append.mp q with q | q
      · refine h_testB 8 st t _ ?_ x q
        omega
      · rw [List.mem_singleton.mp q]; omega
theorem gL_B {od : Bool} : ∀ {cs : List Cz} {sz : Nat}, (∀ c ∈ cs, gZ od c) → sz + (czL sz cs).length ≤ 480 → ∀ x ∈ czL sz cs, x < 40000
  | [], sz, _, _, x, hx => by cases hx
  | c :: cs, sz, g, hs, x, hx => by
    have hs : sz + (czC c sz ++ czL (sz + (czC c sz).length) cs).length ≤ 480 := hs
    rw [List.length_append] at hs
    rcases List.mem_append.mp hx with q | q
    · exact gZ_B (g c List.mem_cons_self) (by omega) x q
    · exact gL_B (fun c hc => g c (List.mem_cons_of_mem _ hc)) (by omega) x q
