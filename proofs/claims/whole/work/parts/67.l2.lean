/-! CLAUSES OF A TEXT THAT READS WELL -/
def gS (od : Bool) (o : Option (List Nat × Dn)) : Prop := ∀ d, o = some d → ∃ T st, d = (h_sum T od 8 st).2 ∧ (h_sum T od 8 st).1.1 = true
def gT (od : Bool) (o : Option ((Nat → List Nat) × Dt)) : Prop := ∀ d, o = some d → ∃ T st, d = (h_test T od 8 st).2 ∧ (h_test T od 8 st).1.1 = true
/-- a good clause: its sums and its test read well -/
def gZ (od : Bool) (c : Cz) : Prop := gS od c.2.1 ∧ gS od c.2.2.1 ∧ gT od c.2.2.2.2
theorem gS_no (od : Bool) : gS od none := fun _ q => (nomatch q)
theorem gT_if {T : Tk} {od : Bool} {s : Ps} (h : (h_if T od s).1.1 = true) : gT od (h_if T od s).2 := by
  unfold h_if at h ⊢
  by_cases w : h_tk T 4 s = true
  · rw [if_pos w] at h ⊢
    intro d e
    cases e
    exact ⟨T, h_adv s, rfl, h⟩
  · rw [if_neg w] at h ⊢
    exact fun _ q => (nomatch q)
theorem gS_ls {T : Tk} {s : Ps} (h : (h_lsum T s).1.1 = true) : gS false (h_lsum T s).2.1 := by
  unfold h_lsum at h ⊢
  by_cases w : h_tk T 1 s = true
  · rw [if_pos w] at h ⊢
    intro d e
    cases e
    exact ⟨T, h_adv s, rfl, h⟩
  · rw [if_neg w] at h ⊢
    by_cases y : h_tk T 2 s = true
    · rw [if_pos y] at h ⊢
      intro d e
      cases e
      exact ⟨T, h_adv s, rfl, h⟩
    · rw [if_neg y] at h ⊢
      exact fun _ q => (nomatch q)
theorem gS_two {T : Tk} {n w : Nat} (hT : T.1 n = 0) (hw : 0 < w) {s : Ps} (h1 : s.2.1 ≤ n) (h : (h_two T w s).1.1 = true) : gS true (h_two T w s).2.1 ∧ gS true (h_two T w s).2.2 := by
  unfold h_two at h ⊢
  have k1 := h_sum_ok (od := true) hT 8 h1
  have k2 := h_must_le (c := w) hT k1.1 hw
  have k3 := h_sum_ok (od := true) hT 8 k2.1
  have t2 := (k3.2 h).1
  have t1 := (k2.2 t2).1
  exact ⟨fun d e => by cases e; exact ⟨T, s, rfl, t1⟩, fun d e => by cases e; exact ⟨T, _, rfl, h⟩⟩
theorem gS_os {T : Tk} {n : Nat} (hT : T.1 n = 0) {s : Ps} (h1 : s.2.1 ≤ n) (h : (h_osum T s).1.1 = true) : gS true (h_osum T s).2.1 ∧ gS true (h_osum T s).2.2 := by
  unfold h_osum at h ⊢
  by_cases w : h_tk T 20 s = true
  · rw [if_pos w] at h ⊢
    have := (h_tk_ne hT h1 (by omega) w).2.2
    exact gS_two hT (by omega) (by show s.2.1 + 1 ≤ n; omega) h
  · rw [if_neg w] at h ⊢
    by_cases w : h_tk T 22 s = true
    · rw [if_pos w] at h ⊢
      have := (h_tk_ne hT h1 (by omega) w).2.2
      exact gS_two hT (by omega) (by show s.2.1 + 1 ≤ n; omega) h
    · rw [if_neg w] at h ⊢
      by_cases w : h_tk T 24 s = true
      · rw [if_pos w] at h ⊢
        have := (h_tk_ne hT h1 (by omega) w).2.2
        exact gS_two hT (by omega) (by show s.2.1 + 1 ≤ n; omega) h
      · rw [if_neg w] at h ⊢
        exact ⟨gS_no _, gS_no _⟩
theorem gZ_one {T : Tk} {n : Nat} (hT : T.1 n = 0) {od : Bool} {s : Ps} (h1 : s.2.1 ≤ n) (h2 : h_lv s) (h : (h_one T od s).1.1 = true) : gZ od (h_one T od s).2 := by
  cases od
  · have k1 := h_lsum_ok hT h1 h2
    have k2 := h_if_ok (od := false) hT k1.1.1 k1.2
    have h' : (h_if T false (h_lsum T s).1).1.1 = true := h
    exact ⟨gS_ls (k2.2.2 h').1, gS_no _, gT_if h'⟩
  · have k1 := h_osum_ok hT h1 h2
    have k2 := h_tms_ok hT k1.1.1 k1.2
    have k3 := h_if_ok (od := true) hT k2.1 k2.2.1
    have h' : (h_if T true (h_tms T (h_osum T s).1).1).1.1 = true := h
    have t := gS_os hT h1 (k2.2.2 (k3.2.2 h').1).1
    exact ⟨t.1, t.2, gT_if h'⟩
theorem gZ_xl {T : Tk} {n : Nat} (hT : T.1 n = 0) {od : Bool} : ∀ f m (x : Ps × List Cz), x.1.2.1 ≤ n → h_lv x.1 → (x.1.1 = true → ∀ c ∈ x.2, gZ od c) → (h_xl T od f m x).1.1 = true → ∀ c ∈ (h_xl T od f m x).2, gZ od c
  | 0, m, x, h1, h2, h3, h => h3 h
  | f + 1, m, x, h1, h2, h3, h => by
    unfold h_xl at h ⊢
    by_cases w : h_tk T 159 x.1 = true
    · rw [if_pos w] at h ⊢
      have ne := h_tk_ne hT h1 (by omega) w
      by_cases e : m = 12
      · rw [if_pos e] at h
        cases h
      · rw [if_neg e] at h ⊢
        have a1 : (h_adv x.1).2.1 ≤ n := by show x.1.2.1 + 1 ≤ n; omega
        have a2 := h_adv_lv h2 ne.1
        have ok := h_one_ok hT (od := od) a1 a2
        refine gZ_xl hT f (m + 1) _ ok.1.1 ok.2 (fun t c hc => ?_) h
        rcases List.mem_append.mp hc with q | q
        · exact h3 ne.1 c q
        · rw [List.mem_singleton.mp q]
          exact gZ_one hT a1 a2 t
    · rw [if_neg w] at h ⊢
      exact h3 h
theorem gZ_text {T : Tk} {n : Nat} (hT : T.1 n = 0) {od : Bool} (h : (h_text T od n).1.1 = true) : ∀ c ∈ (h_text T od n).2, gZ od c := by
  have ok := h_one_ok hT (od := od) (s := (true, 0, 0)) (Nat.zero_le _) ⟨by decide, fun _ => by decide⟩
  refine gZ_xl hT hN 1 ((h_one T od (true, 0, 0)).1, [(h_one T od (true, 0, 0)).2]) ok.1.1 ok.2 (fun t c hc => ?_) (h_text_ok hT h).1
  rw [List.mem_singleton.mp hc]
  exact gZ_one hT (Nat.zero_le _) ⟨by decide, fun _ => by decide⟩ t
