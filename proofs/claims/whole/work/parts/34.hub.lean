/-! THE HUB: how a text is read, what it makes, what it is worth (pure) -/
abbrev Tk : Type := (Nat → Nat) × (Nat → Nat)
abbrev Ev : Type := Nat → Nat → Int
abbrev Dn : Type := Ev → Option Int
abbrev Dt : Type := Ev → Option Bool
/-- fine, the token, the leaves -/
abbrev Ps : Type := Bool × Nat × Nat
abbrev Rs : Type := Ps × List Nat × Dn
abbrev Rt : Type := Ps × (Nat → List Nat) × Dt
def hN : Nat := 500
def h_adv (s : Ps) : Ps := (true, s.2.1 + 1, s.2.2)
def h_flt (s : Ps) : Ps := (false, s.2.1, s.2.2)
def h_tk (T : Tk) (c : Nat) (s : Ps) : Bool := s.1 && (T.1 s.2.1 == c)
def h_must (T : Tk) (c : Nat) (s : Ps) : Ps := if h_tk T c s then h_adv s else h_flt s
def h_num (T : Tk) (lo hi : Nat) (s : Ps) : Ps := if s.1 = true then (if T.1 s.2.1 = 50 ∧ lo ≤ T.2 s.2.1 ∧ T.2 s.2.1 ≤ hi then h_adv s else h_flt s) else s
def h_leaf (s : Ps) : Ps := if s.2.2 = 50 then (false, s.2.1, 51) else (true, s.2.1 + 1, s.2.2 + 1)
def h_fw (od : Bool) : Nat := if od then 14 else 8
def h_lw (od : Bool) : Nat := if od then 19 else 15
/-- the class's slot of a word -/
def h_slot (od : Bool) (c v : Nat) : Nat :=
  if od then (if c = 14 then 11 + v else if c = 15 then 0 else if c = 16 then 1 else if c = 17 then 2 else if c = 18 then 3 + v else 7 + v)
  else (if c = 8 then 0 else if c = 9 then 2 else if c = 10 then 3 else if c = 11 then 4 else if c = 12 then 5 else if c = 13 then 7 else if c = 14 then 1 else 6)
def h_part (T : Tk) (od : Bool) (rec : Option (Ps → Rs)) (s : Ps) : Rs :=
  if s.1 = false then (s, [], fun _ => none)
  else if T.1 s.2.1 = 191 then
    (match rec with
    | none => (h_flt s, [], fun _ => none)
    | some r => (h_must T 193 (r (h_adv s)).1, (r (h_adv s)).2))
  else if T.1 s.2.1 = 50 ∧ T.2 s.2.1 ≤ 1000 then (h_leaf s, [T.2 s.2.1 * 32 + 1], fun _ => some (T.2 s.2.1 : Int))
  else if h_fw od ≤ T.1 s.2.1 ∧ T.1 s.2.1 ≤ h_lw od then
    (if od = true ∧ T.1 s.2.1 = 14 then (h_num T 0 24 (h_leaf s), [h_slot od (T.1 s.2.1) (T.2 (s.2.1 + 1)) * 32 + 2], fun e => some (e (T.1 s.2.1) (T.2 (s.2.1 + 1))))
    else if od = true ∧ (T.1 s.2.1 = 18 ∨ T.1 s.2.1 = 19) then (h_num T 0 3 (h_leaf s), [h_slot od (T.1 s.2.1) (T.2 (s.2.1 + 1)) * 32 + 2], fun e => some (e (T.1 s.2.1) (T.2 (s.2.1 + 1))))
    else (h_leaf s, [h_slot od (T.1 s.2.1) 0 * 32 + 2], fun e => some (e (T.1 s.2.1) 0)))
  else (h_flt s, [], fun _ => none)
def h_bnd (v : Int) : Option Int := if v > 1000000000 ∨ v < -1000000000 then none else some v
def h_cmb (op : Nat) (a b : Option Int) : Option Int := match a, b with
  | some x, some y => if op = 6 then h_bnd (x + y) else if op = 7 then h_bnd (x - y) else if op = 8 then h_bnd (x * y) else if y = 0 then none else if op = 9 then h_bnd (x.tdiv y) else h_bnd (x.tmod y)
  | _, _ => none
def h_isT (c : Nat) : Bool := c == 142 || c == 147 || c == 137
def h_isA (c : Nat) : Bool := c == 143 || c == 145
def h_op (c : Nat) : Nat := if c = 143 then 6 else if c = 145 then 7 else if c = 142 then 8 else if c = 147 then 9 else if c = 137 then 10 else if c = 160 then 11 else if c = 162 then 12 else 13
def h_tl (T : Tk) (od : Bool) (rec : Option (Ps → Rs)) : Nat → Rs → Rs
  | 0, x => x
  | f + 1, x => if (x.1.1 && h_isT (T.1 x.1.2.1)) = true then h_tl T od rec f ((h_part T od rec (h_adv x.1)).1, x.2.1 ++ (h_part T od rec (h_adv x.1)).2.1 ++ [h_op (T.1 x.1.2.1)], fun e => h_cmb (h_op (T.1 x.1.2.1)) (x.2.2 e) ((h_part T od rec (h_adv x.1)).2.2 e)) else x
def h_term (T : Tk) (od : Bool) (rec : Option (Ps → Rs)) (s : Ps) : Rs := h_tl T od rec hN (h_part T od rec s)
def h_sl (T : Tk) (od : Bool) (rec : Option (Ps → Rs)) : Nat → Rs → Rs
  | 0, x => x
  | f + 1, x => if (x.1.1 && h_isA (T.1 x.1.2.1)) = true then h_sl T od rec f ((h_term T od rec (h_adv x.1)).1, x.2.1 ++ (h_term T od rec (h_adv x.1)).2.1 ++ [h_op (T.1 x.1.2.1)], fun e => h_cmb (h_op (T.1 x.1.2.1)) (x.2.2 e) ((h_term T od rec (h_adv x.1)).2.2 e)) else x
def h_su (T : Tk) (od : Bool) (rec : Option (Ps → Rs)) (s : Ps) : Rs := h_sl T od rec hN (h_term T od rec s)
/-- a sum; d more brackets may stand within one another -/
def h_sum (T : Tk) (od : Bool) : Nat → Ps → Rs
  | 0 => h_su T od none
  | d + 1 => h_su T od (some (h_sum T od d))
def h_sumr (T : Tk) (od : Bool) (d : Nat) : Option (Ps → Rs) := match d with
  | 0 => none
  | d + 1 => some (h_sum T od d)
theorem h_sum_eq (T : Tk) (od : Bool) (d : Nat) : h_sum T od d = h_su T od (h_sumr T od d) := by cases d <;> rfl
def h_nl (T : Tk) : Nat → Bool → Ps → Bool × Ps
  | 0, b, s => (b, s)
  | f + 1, b, s => if h_tk T 7 s then h_nl T f (!b) (h_adv s) else (b, s)
def h_cmp (op : Nat) (a b : Option Int) : Option Bool := match a, b with
  | some x, some y => some (if op = 11 then decide (x < y) else if op = 12 then decide (x > y) else decide (x = y))
  | _, _ => none
/-- behind the sum on the left: < > = -/
def h_cs (T : Tk) (s : Ps) : Ps := if h_tk T 160 s then h_adv s else if h_tk T 162 s then h_adv s else h_must T 161 s
def h_posi (T : Tk) (od : Bool) (rec : Option (Ps → Rt)) (d : Nat) (s : Ps) : Rt :=
  if s.1 = false then (s, fun _ => [], fun _ => none)
  else if T.1 s.2.1 = 140 then
    (match rec with
    | none => (h_flt s, fun _ => [], fun _ => none)
    | some r => (h_must T 141 (r (h_adv s)).1, (r (h_adv s)).2))
  else ((h_sum T od d (h_cs T (h_sum T od d s).1)).1, fun _ => (h_sum T od d s).2.1 ++ (h_sum T od d (h_cs T (h_sum T od d s).1)).2.1 ++ [h_op (T.1 (h_sum T od d s).1.2.1)], fun e => h_cmp (h_op (T.1 (h_sum T od d s).1.2.1)) ((h_sum T od d s).2.2 e) ((h_sum T od d (h_cs T (h_sum T od d s).1)).2.2 e))
def h_plain (T : Tk) (od : Bool) (rec : Option (Ps → Rt)) (d : Nat) (s : Ps) : Rt :=
  ((h_posi T od rec d (h_nl T hN false s).2).1, fun b => (h_posi T od rec d (h_nl T hN false s).2).2.1 b ++ (if (h_nl T hN false s).1 then [3] else []), fun e => ((h_posi T od rec d (h_nl T hN false s).2).2.2 e).map (fun x => x != (h_nl T hN false s).1))
/-- behind "and" (what: true), "or" (false): p is there, q comes behind a skip -/
def h_skip (op : Nat) (p q : Nat → List Nat) : Nat → List Nat := fun b => p b ++ [(b + (p b).length + 1 + (q (b + (p b).length + 1)).length) * 32 + op] ++ q (b + (p b).length + 1)
def h_both2 (what : Bool) (a : Option Bool) (b : Option Bool) : Option Bool := match a with
  | none => none
  | some x => if x = what then b else some x
def h_bl (T : Tk) (od : Bool) (rec : Option (Ps → Rt)) (d : Nat) : Nat → Rt → Rt
  | 0, x => x
  | f + 1, x => if h_tk T 6 x.1 = true then h_bl T od rec d f ((h_plain T od rec d (h_adv x.1)).1, h_skip 4 x.2.1 (h_plain T od rec d (h_adv x.1)).2.1, fun e => h_both2 true (x.2.2 e) ((h_plain T od rec d (h_adv x.1)).2.2 e)) else x
def h_both (T : Tk) (od : Bool) (rec : Option (Ps → Rt)) (d : Nat) (s : Ps) : Rt := h_bl T od rec d hN (h_plain T od rec d s)
def h_ol (T : Tk) (od : Bool) (rec : Option (Ps → Rt)) (d : Nat) : Nat → Rt → Rt
  | 0, x => x
  | f + 1, x => if h_tk T 5 x.1 = true then h_ol T od rec d f ((h_both T od rec d (h_adv x.1)).1, h_skip 5 x.2.1 (h_both T od rec d (h_adv x.1)).2.1, fun e => h_both2 false (x.2.2 e) ((h_both T od rec d (h_adv x.1)).2.2 e)) else x
def h_te (T : Tk) (od : Bool) (rec : Option (Ps → Rt)) (d : Nat) (s : Ps) : Rt := h_ol T od rec d hN (h_both T od rec d s)
def h_test (T : Tk) (od : Bool) : Nat → Ps → Rt
  | 0 => h_te T od none 0
  | d + 1 => h_te T od (some (h_test T od d)) (d + 1)
def h_testr (T : Tk) (od : Bool) (d : Nat) : Option (Ps → Rt) := match d with
  | 0 => none
  | d + 1 => some (h_test T od d)
theorem h_test_eq (T : Tk) (od : Bool) (d : Nat) : h_test T od d = h_te T od (h_testr T od d) d := by cases d <;> rfl
/-- a clause: what, its sums, how often, its test -/
abbrev Cz : Type := Nat × Option (List Nat × Dn) × Option (List Nat × Dn) × Nat × Option ((Nat → List Nat) × Dt)
abbrev Ra : Type := Ps × Option (List Nat × Dn) × Option (List Nat × Dn)
def h_lsum (T : Tk) (s : Ps) : Ra := if h_tk T 1 s then ((h_sum T false 8 (h_adv s)).1, some (h_sum T false 8 (h_adv s)).2, none) else if h_tk T 2 s then ((h_sum T false 8 (h_adv s)).1, some (h_sum T false 8 (h_adv s)).2, none) else (h_must T 3 s, none, none)
def h_if (T : Tk) (od : Bool) (s : Ps) : Ps × Option ((Nat → List Nat) × Dt) := if h_tk T 4 s then ((h_test T od 8 (h_adv s)).1, some (h_test T od 8 (h_adv s)).2) else (s, none)
def h_two (T : Tk) (w : Nat) (s : Ps) : Ra := ((h_sum T true 8 (h_must T w (h_sum T true 8 s).1)).1, some (h_sum T true 8 s).2, some (h_sum T true 8 (h_must T w (h_sum T true 8 s).1)).2)
def h_osum (T : Tk) (s : Ps) : Ra := if h_tk T 20 s then h_two T 21 (h_adv s) else if h_tk T 22 s then h_two T 23 (h_adv s) else if h_tk T 24 s then h_two T 25 (h_adv s) else (h_must T 26 s, none, none)
def h_tms (T : Tk) (s : Ps) : Ps × Nat := if h_tk T 27 s then (h_num T 1 20 (h_adv s), T.2 (s.2.1 + 1)) else (s, 1)
def h_one (T : Tk) (od : Bool) (s : Ps) : Ps × Cz :=
  if od then ((h_if T od (h_tms T (h_osum T s).1).1).1, T.1 s.2.1, (h_osum T s).2.1, (h_osum T s).2.2, (h_tms T (h_osum T s).1).2, (h_if T od (h_tms T (h_osum T s).1).1).2)
  else ((h_if T od (h_lsum T s).1).1, T.1 s.2.1, (h_lsum T s).2.1, none, 1, (h_if T od (h_lsum T s).1).2)
def h_xl (T : Tk) (od : Bool) : Nat → Nat → Ps × List Cz → Ps × List Cz
  | 0, _, x => x
  | f + 1, m, x => if h_tk T 159 x.1 = true then (if m = 12 then (h_flt (h_adv x.1), x.2) else h_xl T od f (m + 1) ((h_one T od (h_adv x.1)).1, x.2 ++ [(h_one T od (h_adv x.1)).2])) else x
/-- at the end: a token is left -/
def h_fin (n : Nat) (s : Ps) : Ps := if (s.1 && decide (s.2.1 < n)) = true then h_flt s else s
def h_x0 (T : Tk) (od : Bool) : Ps × List Cz := h_xl T od hN 1 ((h_one T od (true, 0, 0)).1, [(h_one T od (true, 0, 0)).2])
def h_text (T : Tk) (od : Bool) (n : Nat) : Ps × List Cz := (h_fin n (h_x0 T od).1, (h_x0 T od).2)
/-- tokens 0 .. n - 1; the end has the code 0 -/
def h_to (T : Tk) (n : Nat) (s : Ps) : Prop := s.2.1 ≤ n
theorem h_tk_ne {T : Tk} {n c : Nat} (hT : T.1 n = 0) {s : Ps} (h : s.2.1 ≤ n) (hc : 0 < c) (e : h_tk T c s = true) : s.1 = true ∧ T.1 s.2.1 = c ∧ s.2.1 < n := by
  unfold h_tk at e
  simp only [Bool.and_eq_true, beq_iff_eq] at e
  refine ⟨e.1, e.2, ?_⟩
  rcases Nat.lt_or_ge s.2.1 n with q | q
  · exact q
  · have : s.2.1 = n := by omega
    rw [this, hT] at e
    omega
theorem h_must_le {T : Tk} {n c : Nat} (hT : T.1 n = 0) {s : Ps} (h : s.2.1 ≤ n) (hc : 0 < c) : (h_must T c s).2.1 ≤ n ∧ ((h_must T c s).1 = true → s.1 = true ∧ s.2.1 < (h_must T c s).2.1) := by
  unfold h_must
  split
  · rename_i e
    have := h_tk_ne hT h hc e
    unfold h_adv
    exact ⟨by show s.2.1 + 1 ≤ n; omega, fun _ => ⟨this.1, by show s.2.1 < s.2.1 + 1; omega⟩⟩
  · exact ⟨h, fun q => nomatch q⟩
theorem h_num_le {T : Tk} {n lo hi : Nat} (hT : T.1 n = 0) {s : Ps} (h : s.2.1 ≤ n) : (h_num T lo hi s).2.1 ≤ n ∧ ((h_num T lo hi s).1 = true → s.1 = true ∧ s.2.1 < (h_num T lo hi s).2.1) := by
  unfold h_num
  split
  · rename_i e0
    split
    · rename_i e
      have : s.2.1 ≠ n := fun q => by rw [q, hT] at e; omega
      unfold h_adv
      exact ⟨by show s.2.1 + 1 ≤ n; omega, fun _ => ⟨e0, by show s.2.1 < s.2.1 + 1; omega⟩⟩
    · exact ⟨h, fun q => nomatch q⟩
  · rename_i e0
    exact ⟨h, fun q => absurd q e0⟩
theorem h_leaf_le {n : Nat} {s : Ps} (h : s.2.1 < n) : (h_leaf s).2.1 ≤ n ∧ ((h_leaf s).1 = true → s.2.1 < (h_leaf s).2.1) := by
  unfold h_leaf
  split
  · exact ⟨by show s.2.1 ≤ n; omega, fun q => nomatch q⟩
  · exact ⟨by show s.2.1 + 1 ≤ n; omega, fun _ => by show s.2.1 < s.2.1 + 1; omega⟩
/-- what every reader keeps -/
def h_ok (n : Nat) (s s' : Ps) : Prop := s'.2.1 ≤ n ∧ (s'.1 = true → s.1 = true ∧ s.2.1 < s'.2.1)
def h_okr (n : Nat) (rec : Option (Ps → Rs)) : Prop := ∀ r, rec = some r → ∀ s : Ps, s.2.1 ≤ n → h_ok n s (r s).1
theorem h_part_ok {T : Tk} {n : Nat} (hT : T.1 n = 0) {od : Bool} {rec : Option (Ps → Rs)} (hr : h_okr n rec) {s : Ps} (h : s.2.1 ≤ n) : h_ok n s (h_part T od rec s).1 := by
  unfold h_part
  split
  · rename_i e
    exact ⟨h, fun q => by rw [e] at q; cases q⟩
  · rename_i e
    have e1 : s.1 = true := by simpa using e
    split
    · rename_i e2
      have hlt : s.2.1 < n := by
        have : s.2.1 ≠ n := fun q => by rw [q, hT] at e2; omega
        omega
      split
      · exact ⟨h, fun q => nomatch q⟩
      · rename_i r
        have h1 := hr r rfl (h_adv s) (by show s.2.1 + 1 ≤ n; omega)
        have h2 := h_must_le (c := 193) hT h1.1 (by omega)
        refine ⟨h2.1, fun q => ⟨e1, ?_⟩⟩
        have h3 := h2.2 q
        have h4 := h1.2 h3.1
        have : (h_adv s).2.1 = s.2.1 + 1 := rfl
        show s.2.1 < (h_must T 193 (r (h_adv s)).1).2.1
        omega
    · split
      · rename_i e3
        have hlt : s.2.1 < n := by
          have : s.2.1 ≠ n := fun q => by rw [q, hT] at e3; omega
          omega
        have := h_leaf_le hlt
        exact ⟨this.1, fun q => ⟨e1, this.2 q⟩⟩
      · split
        · rename_i e4
          have hlt : s.2.1 < n := by
            have : s.2.1 ≠ n := fun q => by rw [q, hT] at e4; unfold h_fw at e4; split at e4 <;> omega
            omega
          have hl := h_leaf_le hlt
          split
          · have h2 := h_num_le (lo := 0) (hi := 24) hT hl.1
            exact ⟨h2.1, fun q => ⟨e1, Nat.lt_trans (hl.2 (h2.2 q).1) (h2.2 q).2⟩⟩
          · split
            · have h2 := h_num_le (lo := 0) (hi := 3) hT hl.1
              exact ⟨h2.1, fun q => ⟨e1, Nat.lt_trans (hl.2 (h2.2 q).1) (h2.2 q).2⟩⟩
            · exact ⟨hl.1, fun q => ⟨e1, hl.2 q⟩⟩
        · exact ⟨h, fun q => nomatch q⟩
theorem h_tl_ok {T : Tk} {n : Nat} (hT : T.1 n = 0) {od : Bool} {rec : Option (Ps → Rs)} (hr : h_okr n rec) : ∀ f (x : Rs), x.1.2.1 ≤ n → (h_tl T od rec f x).1.2.1 ≤ n ∧ ((h_tl T od rec f x).1.1 = true → x.1.1 = true ∧ x.1.2.1 ≤ (h_tl T od rec f x).1.2.1)
  | 0, x, h => ⟨h, fun q => ⟨q, Nat.le_refl _⟩⟩
  | f + 1, x, h => by
    unfold h_tl
    split
    · rename_i e
      simp only [Bool.and_eq_true] at e
      have hlt : x.1.2.1 < n := by
        have : x.1.2.1 ≠ n := fun q => by rw [q, hT] at e; exact absurd e.2 (by decide)
        omega
      have h1 := h_part_ok (od := od) hT hr (s := h_adv x.1) (by show x.1.2.1 + 1 ≤ n; omega)
      have ih := h_tl_ok (od := od) hT hr f ((h_part T od rec (h_adv x.1)).1, x.2.1 ++ (h_part T od rec (h_adv x.1)).2.1 ++ [h_op (T.1 x.1.2.1)], fun e => h_cmb (h_op (T.1 x.1.2.1)) (x.2.2 e) ((h_part T od rec (h_adv x.1)).2.2 e)) h1.1
      refine ⟨ih.1, fun q => ⟨e.1, ?_⟩⟩
      have h2 := ih.2 q
      have h3 := h1.2 h2.1
      have h4 : (h_adv x.1).2.1 = x.1.2.1 + 1 := rfl
      have h5 := h2.2
      simp only at h5
      omega
    · exact ⟨h, fun q => ⟨q, Nat.le_refl _⟩⟩
theorem h_term_ok {T : Tk} {n : Nat} (hT : T.1 n = 0) {od : Bool} {rec : Option (Ps → Rs)} (hr : h_okr n rec) {s : Ps} (h : s.2.1 ≤ n) : h_ok n s (h_term T od rec s).1 := by
  have h1 := h_part_ok (od := od) hT hr h
  have h2 := h_tl_ok (od := od) hT hr hN _ h1.1
  refine ⟨h2.1, fun q => ?_⟩
  have h3 := h2.2 q
  have h4 := h1.2 h3.1
  exact ⟨h4.1, Nat.lt_of_lt_of_le h4.2 h3.2⟩
theorem h_sl_ok {T : Tk} {n : Nat} (hT : T.1 n = 0) {od : Bool} {rec : Option (Ps → Rs)} (hr : h_okr n rec) : ∀ f (x : Rs), x.1.2.1 ≤ n → (h_sl T od rec f x).1.2.1 ≤ n ∧ ((h_sl T od rec f x).1.1 = true → x.1.1 = true ∧ x.1.2.1 ≤ (h_sl T od rec f x).1.2.1)
  | 0, x, h => ⟨h, fun q => ⟨q, Nat.le_refl _⟩⟩
  | f + 1, x, h => by
    unfold h_sl
    split
    · rename_i e
      simp only [Bool.and_eq_true] at e
      have hlt : x.1.2.1 < n := by
        have : x.1.2.1 ≠ n := fun q => by rw [q, hT] at e; exact absurd e.2 (by decide)
        omega
      have h1 := h_term_ok (od := od) hT hr (s := h_adv x.1) (by show x.1.2.1 + 1 ≤ n; omega)
      have ih := h_sl_ok (od := od) hT hr f ((h_term T od rec (h_adv x.1)).1, x.2.1 ++ (h_term T od rec (h_adv x.1)).2.1 ++ [h_op (T.1 x.1.2.1)], fun e => h_cmb (h_op (T.1 x.1.2.1)) (x.2.2 e) ((h_term T od rec (h_adv x.1)).2.2 e)) h1.1
      refine ⟨ih.1, fun q => ⟨e.1, ?_⟩⟩
      have h2 := ih.2 q
      have h3 := h1.2 h2.1
      have h4 : (h_adv x.1).2.1 = x.1.2.1 + 1 := rfl
      have h5 := h2.2
      simp only at h5
      omega
    · exact ⟨h, fun q => ⟨q, Nat.le_refl _⟩⟩
theorem h_su_ok {T : Tk} {n : Nat} (hT : T.1 n = 0) {od : Bool} {rec : Option (Ps → Rs)} (hr : h_okr n rec) {s : Ps} (h : s.2.1 ≤ n) : h_ok n s (h_su T od rec s).1 := by
  have h1 := h_term_ok (od := od) hT hr h
  have h2 := h_sl_ok (od := od) hT hr hN _ h1.1
  refine ⟨h2.1, fun q => ?_⟩
  have h3 := h2.2 q
  have h4 := h1.2 h3.1
  exact ⟨h4.1, Nat.lt_of_lt_of_le h4.2 h3.2⟩
theorem h_sum_ok {T : Tk} {n : Nat} (hT : T.1 n = 0) {od : Bool} : ∀ d {s : Ps}, s.2.1 ≤ n → h_ok n s (h_sum T od d s).1
  | 0, s, h => h_su_ok hT (fun r e => by cases e) h
  | d + 1, s, h => h_su_ok hT (fun r e s hs => by cases Option.some.inj e; exact h_sum_ok hT d hs) h
theorem h_sumr_ok {T : Tk} {n : Nat} (hT : T.1 n = 0) {od : Bool} (d : Nat) : h_okr n (h_sumr T od d) := by
  cases d with
  | zero => exact fun r e => by cases e
  | succ d => exact fun r e s hs => by cases Option.some.inj e; exact h_sum_ok hT d hs
theorem h_nl_ok {T : Tk} {n : Nat} (hT : T.1 n = 0) : ∀ f b (s : Ps), s.2.1 ≤ n → (h_nl T f b s).2.2.1 ≤ n ∧ ((h_nl T f b s).2.1 = true → s.1 = true ∧ s.2.1 ≤ (h_nl T f b s).2.2.1)
  | 0, b, s, h => ⟨h, fun q => ⟨q, Nat.le_refl _⟩⟩
  | f + 1, b, s, h => by
    unfold h_nl
    split
    · rename_i e
      have := h_tk_ne hT h (by omega) e
      have ih := h_nl_ok hT f (!b) (h_adv s) (by show s.2.1 + 1 ≤ n; omega)
      refine ⟨ih.1, fun q => ⟨this.1, ?_⟩⟩
      have h2 := (ih.2 q).2
      have h4 : (h_adv s).2.1 = s.2.1 + 1 := rfl
      omega
    · exact ⟨h, fun q => ⟨q, Nat.le_refl _⟩⟩
theorem h_cs_ok {T : Tk} {n : Nat} (hT : T.1 n = 0) {s : Ps} (h : s.2.1 ≤ n) : h_ok n s (h_cs T s) := by
  unfold h_cs
  split
  · rename_i e
    have := h_tk_ne hT h (by omega) e
    exact ⟨by show s.2.1 + 1 ≤ n; omega, fun _ => ⟨this.1, by show s.2.1 < s.2.1 + 1; omega⟩⟩
  · split
    · rename_i e
      have := h_tk_ne hT h (by omega) e
      exact ⟨by show s.2.1 + 1 ≤ n; omega, fun _ => ⟨this.1, by show s.2.1 < s.2.1 + 1; omega⟩⟩
    · exact h_must_le hT h (by omega)
def h_okt (n : Nat) (rec : Option (Ps → Rt)) : Prop := ∀ r, rec = some r → ∀ s : Ps, s.2.1 ≤ n → h_ok n s (r s).1
theorem h_posi_ok {T : Tk} {n : Nat} (hT : T.1 n = 0) {od : Bool} {rec : Option (Ps → Rt)} (hr : h_okt n rec) {d : Nat} {s : Ps} (h : s.2.1 ≤ n) : h_ok n s (h_posi T od rec d s).1 := by
  unfold h_posi
  split
  · rename_i e
    exact ⟨h, fun q => by rw [e] at q; cases q⟩
  · rename_i e
    have e1 : s.1 = true := by simpa using e
    split
    · rename_i e2
      have hlt : s.2.1 < n := by
        have : s.2.1 ≠ n := fun q => by rw [q, hT] at e2; omega
        omega
      split
      · exact ⟨h, fun q => nomatch q⟩
      · rename_i r
        have h1 := hr r rfl (h_adv s) (by show s.2.1 + 1 ≤ n; omega)
        have h2 := h_must_le (c := 141) hT h1.1 (by omega)
        refine ⟨h2.1, fun q => ⟨e1, ?_⟩⟩
        have h3 := h2.2 q
        have h4 := h1.2 h3.1
        have : (h_adv s).2.1 = s.2.1 + 1 := rfl
        show s.2.1 < (h_must T 141 (r (h_adv s)).1).2.1
        omega
    · have h1 := h_sum_ok (od := od) hT d h
      have h2 := h_cs_ok hT h1.1
      have h3 := h_sum_ok (od := od) hT d h2.1
      refine ⟨h3.1, fun q => ⟨e1, ?_⟩⟩
      have a3 := h3.2 q
      have a2 := h2.2 a3.1
      have a1 := h1.2 a2.1
      exact Nat.lt_trans a1.2 (Nat.lt_trans a2.2 a3.2)
theorem h_plain_ok {T : Tk} {n : Nat} (hT : T.1 n = 0) {od : Bool} {rec : Option (Ps → Rt)} (hr : h_okt n rec) {d : Nat} {s : Ps} (h : s.2.1 ≤ n) : h_ok n s (h_plain T od rec d s).1 := by
  have h1 := h_nl_ok hT hN false s h
  have h2 := h_posi_ok (od := od) (d := d) hT hr h1.1
  exact ⟨h2.1, fun q => ⟨(h1.2 (h2.2 q).1).1, Nat.lt_of_le_of_lt (h1.2 (h2.2 q).1).2 (h2.2 q).2⟩⟩
theorem h_bl_ok {T : Tk} {n : Nat} (hT : T.1 n = 0) {od : Bool} {rec : Option (Ps → Rt)} (hr : h_okt n rec) {d : Nat} : ∀ f (x : Rt), x.1.2.1 ≤ n → (h_bl T od rec d f x).1.2.1 ≤ n ∧ ((h_bl T od rec d f x).1.1 = true → x.1.1 = true ∧ x.1.2.1 ≤ (h_bl T od rec d f x).1.2.1)
  | 0, x, h => ⟨h, fun q => ⟨q, Nat.le_refl _⟩⟩
  | f + 1, x, h => by
    unfold h_bl
    split
    · rename_i e
      have hh := h_tk_ne hT h (by omega) e
      have h1 := h_plain_ok (od := od) (d := d) hT hr (s := h_adv x.1) (by show x.1.2.1 + 1 ≤ n; omega)
      have ih := h_bl_ok (od := od) (d := d) hT hr f ((h_plain T od rec d (h_adv x.1)).1, h_skip 4 x.2.1 (h_plain T od rec d (h_adv x.1)).2.1, fun e => h_both2 true (x.2.2 e) ((h_plain T od rec d (h_adv x.1)).2.2 e)) h1.1
      refine ⟨ih.1, fun q => ⟨hh.1, ?_⟩⟩
      have h2 := ih.2 q
      have h3 := h1.2 h2.1
      have h4 : (h_adv x.1).2.1 = x.1.2.1 + 1 := rfl
      have h5 := h2.2
      simp only at h5
      omega
    · exact ⟨h, fun q => ⟨q, Nat.le_refl _⟩⟩
theorem h_both_ok {T : Tk} {n : Nat} (hT : T.1 n = 0) {od : Bool} {rec : Option (Ps → Rt)} (hr : h_okt n rec) {d : Nat} {s : Ps} (h : s.2.1 ≤ n) : h_ok n s (h_both T od rec d s).1 := by
  have h1 := h_plain_ok (od := od) (d := d) hT hr h
  have h2 := h_bl_ok (od := od) (d := d) hT hr hN _ h1.1
  exact ⟨h2.1, fun q => ⟨(h1.2 (h2.2 q).1).1, Nat.lt_of_lt_of_le (h1.2 (h2.2 q).1).2 (h2.2 q).2⟩⟩
theorem h_ol_ok {T : Tk} {n : Nat} (hT : T.1 n = 0) {od : Bool} {rec : Option (Ps → Rt)} (hr : h_okt n rec) {d : Nat} : ∀ f (x : Rt), x.1.2.1 ≤ n → (h_ol T od rec d f x).1.2.1 ≤ n ∧ ((h_ol T od rec d f x).1.1 = true → x.1.1 = true ∧ x.1.2.1 ≤ (h_ol T od rec d f x).1.2.1)
  | 0, x, h => ⟨h, fun q => ⟨q, Nat.le_refl _⟩⟩
  | f + 1, x, h => by
    unfold h_ol
    split
    · rename_i e
      have hh := h_tk_ne hT h (by omega) e
      have h1 := h_both_ok (od := od) (d := d) hT hr (s := h_adv x.1) (by show x.1.2.1 + 1 ≤ n; omega)
      have ih := h_ol_ok (od := od) (d := d) hT hr f ((h_both T od rec d (h_adv x.1)).1, h_skip 5 x.2.1 (h_both T od rec d (h_adv x.1)).2.1, fun e => h_both2 false (x.2.2 e) ((h_both T od rec d (h_adv x.1)).2.2 e)) h1.1
      refine ⟨ih.1, fun q => ⟨hh.1, ?_⟩⟩
      have h2 := ih.2 q
      have h3 := h1.2 h2.1
      have h4 : (h_adv x.1).2.1 = x.1.2.1 + 1 := rfl
      have h5 := h2.2
      simp only at h5
      omega
    · exact ⟨h, fun q => ⟨q, Nat.le_refl _⟩⟩
theorem h_te_ok {T : Tk} {n : Nat} (hT : T.1 n = 0) {od : Bool} {rec : Option (Ps → Rt)} (hr : h_okt n rec) {d : Nat} {s : Ps} (h : s.2.1 ≤ n) : h_ok n s (h_te T od rec d s).1 := by
  have h1 := h_both_ok (od := od) (d := d) hT hr h
  have h2 := h_ol_ok (od := od) (d := d) hT hr hN _ h1.1
  exact ⟨h2.1, fun q => ⟨(h1.2 (h2.2 q).1).1, Nat.lt_of_lt_of_le (h1.2 (h2.2 q).1).2 (h2.2 q).2⟩⟩
theorem h_test_ok {T : Tk} {n : Nat} (hT : T.1 n = 0) {od : Bool} : ∀ d {s : Ps}, s.2.1 ≤ n → h_ok n s (h_test T od d s).1
  | 0, s, h => h_te_ok hT (fun r e => by cases e) h
  | d + 1, s, h => h_te_ok hT (fun r e s hs => by cases Option.some.inj e; exact h_test_ok hT d hs) h
theorem h_testr_ok {T : Tk} {n : Nat} (hT : T.1 n = 0) {od : Bool} (d : Nat) : h_okt n (h_testr T od d) := by
  cases d with
  | zero => exact fun r e => by cases e
  | succ d => exact fun r e s hs => by cases Option.some.inj e; exact h_test_ok hT d hs
