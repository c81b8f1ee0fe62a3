/-! CHEAPEST WALKS: A SYSTEM AND ITS ONE SOLUTION -/
abbrev wEd : Type := Nat → Nat → Nat → Prop
def wIn (n : Nat) (z : Nat → Prop) (E : wEd) (d : Nat → Nat) : Prop := (∀ a, a < n → d a ≤ 1000000) ∧ (∀ a, a < n → z a → d a = 0) ∧ ∀ a, a < n → z a ∨ d a = 1000000 ∨ ∃ b w, E a b w ∧ w + d b ≤ d a
def wCl (E : wEd) (d : Nat → Nat) : Prop := ∀ a b w, E a b w → d a ≤ w + d b
def wOk (n : Nat) (E : wEd) : Prop := ∀ a b w, E a b w → a < n ∧ b < n ∧ 0 < w
theorem wIn.le {n : Nat} {z : Nat → Prop} {E : wEd} {d D : Nat → Nat} (k : wOk n E) (i : wIn n z E d) (s : wIn n z E D) (c : wCl E D) : ∀ v a, a < n → d a = v → D a ≤ d a := by
  intro v
  induction v using Nat.strongRecOn with
  | _ v ih =>
    intro a ha e
    rcases i.2.2 a ha with h | h | ⟨b, w, he, hl⟩
    · rw [s.2.1 a ha h]; exact Nat.zero_le _
    · rw [h]; exact s.1 a ha
    · have q := k a b w he
      have h1 := ih (d b) (by omega) b q.2.1 rfl
      have h2 := c a b w he
      omega
theorem wIn.up {n : Nat} {z : Nat → Prop} {E : wEd} {d : Nat → Nat} (i : wIn n z E d) {a b w : Nat} (e : E a b w) (l : w + d b < d a) : wIn n z E (va_up d a (w + d b)) := by
  have m : ∀ x, va_up d a (w + d b) x ≤ d x := fun x => by
    by_cases hx : x = a
    · rw [hx, va_e]; omega
    · rw [va_n hx]; exact Nat.le_refl _
  refine ⟨fun x hx => Nat.le_trans (m x) (i.1 x hx), fun x hx hz => ?_, fun x hx => ?_⟩
  · have := m x
    have := i.2.1 x hx hz
    omega
  · by_cases hx' : x = a
    · right; right
      refine ⟨b, w, by rw [hx']; exact e, ?_⟩
      rw [hx', va_e]
      have := m b
      omega
    · rcases i.2.2 x hx with h | h | ⟨b', w', he, hl⟩
      · exact Or.inl h
      · right; left; rw [va_n hx']; exact h
      · right; right
        refine ⟨b', w', he, ?_⟩
        rw [va_n hx']
        have := m b'
        omega
def wSum (d : Nat → Nat) : Nat → Nat
  | 0 => 0
  | n + 1 => wSum d n + d n
theorem wSum_e {d d' : Nat → Nat} : ∀ n, (∀ i, i < n → d' i = d i) → wSum d' n = wSum d n
  | 0, _ => rfl
  | n + 1, e => by
    show wSum d' n + d' n = wSum d n + d n
    rw [wSum_e n (fun i hi => e i (by omega)), e n (by omega)]
theorem wSum_up {d : Nat → Nat} {a x : Nat} (l : x < d a) : ∀ n, a < n → wSum (va_up d a x) n < wSum d n
  | 0, h => by omega
  | n + 1, h => by
    show wSum (va_up d a x) n + va_up d a x n < wSum d n + d n
    by_cases ha : n = a
    · have h1 : wSum (va_up d a x) n = wSum d n := wSum_e n (fun i hi => va_n (by omega))
      have h2 : va_up d a x n = x := by rw [ha, va_e]
      rw [← ha] at l
      omega
    · have := wSum_up l n (by omega)
      rw [va_n ha]; omega
theorem wEx {n : Nat} {z : Nat → Prop} {E : wEd} (k : wOk n E) : ∀ m d, wIn n z E d → wSum d n ≤ m → ∃ D, wIn n z E D ∧ wCl E D := by
  intro m
  induction m with
  | zero =>
    intro d i l
    refine ⟨d, i, fun a b w e => Classical.byContradiction fun y => ?_⟩
    have := wSum_up (d := d) (a := a) (x := w + d b) (by omega) n (k a b w e).1
    omega
  | succ m ih =>
    intro d i l
    by_cases c : wCl E d
    · exact ⟨d, i, c⟩
    · have : ∃ a b w, E a b w ∧ w + d b < d a := Classical.byContradiction fun z => c fun a b w e => Classical.byContradiction fun y => z ⟨a, b, w, e, by omega⟩
      obtain ⟨a, b, w, e, y⟩ := this
      exact ih _ (i.up e y) (by have := wSum_up y n (k a b w e).1; omega)
theorem cnt_mo {p q : Nat → Bool} : ∀ n, (∀ i, i < n → p i = true → q i = true) → cnt p n ≤ cnt q n
  | 0, _ => Nat.le_refl _
  | n + 1, h => by
    have := cnt_mo n (fun i hi => h i (by omega))
    have h2 := h n (by omega)
    show cnt p n + ft_z (p n) ≤ cnt q n + ft_z (q n)
    cases hp : p n with
    | true => rw [h2 hp]; exact Nat.add_le_add_right this _
    | false =>
      have : ft_z false = 0 := rfl
      omega
theorem cnt_ls {p q : Nat → Bool} {c : Nat} (hq : q c = true) (hp : p c = false) : ∀ n, c < n → (∀ i, i < n → p i = true → q i = true) → cnt p n < cnt q n
  | 0, h, _ => by omega
  | n + 1, h, m => by
    show cnt p n + ft_z (p n) < cnt q n + ft_z (q n)
    have t1 : ft_z true = 1 := rfl
    have t0 : ft_z false = 0 := rfl
    by_cases e : c = n
    · have := cnt_mo n (fun i hi => m i (by omega))
      rw [← e, hp, hq, t1, t0, e]; omega
    · have := cnt_ls hq hp n (by omega) (fun i hi => m i (by omega))
      have h2 := m n (by omega)
      cases hp : p n with
      | true => rw [h2 hp]; omega
      | false => omega
theorem cnt_nil {p : Nat → Bool} : ∀ n, cnt p n = 0 → ∀ i, i < n → p i = false
  | 0, _, i, h => by omega
  | n + 1, e, i, h => by
    have e' : cnt p n + ft_z (p n) = 0 := e
    have t1 : ft_z true = 1 := rfl
    by_cases hi : i = n
    · rw [hi]
      cases hp : p n with
      | true => rw [hp] at e'; omega
      | false => rfl
    · exact cnt_nil n (by omega) i (by omega)
def wUn (d D f : Nat → Nat) (m : Nat) : Nat := cnt (fun c => decide (d (f c) ≠ D (f c))) m
theorem wUn_le (d D f : Nat → Nat) (m : Nat) : wUn d D f m ≤ m := cnt_le _ m
theorem wUn_0 {d D f : Nat → Nat} {m : Nat} (h : wUn d D f m = 0) {c : Nat} (hc : c < m) : d (f c) = D (f c) := by
  have := cnt_nil m h c hc
  exact Classical.byContradiction fun z => by rw [decide_eq_true z] at this; cases this
theorem wMin {d D f : Nat → Nat} {m : Nat} : ∀ v c, c < m → D (f c) = v → d (f c) ≠ D (f c) → ∃ c, c < m ∧ d (f c) ≠ D (f c) ∧ ∀ b, b < m → D (f b) < D (f c) → d (f b) = D (f b) := by
  intro v
  induction v using Nat.strongRecOn with
  | _ v ih =>
    intro c hc e ne
    by_cases q : ∃ b, b < m ∧ D (f b) < D (f c) ∧ d (f b) ≠ D (f b)
    · obtain ⟨b, hb, hl, hn⟩ := q
      exact ih (D (f b)) (by omega) b hb rfl hn
    · exact ⟨c, hc, ne, fun b hb hl => Classical.byContradiction fun z => q ⟨b, hb, hl, z⟩⟩
theorem wFall {n : Nat} {z : Nat → Prop} {E : wEd} {d d' D f : Nat → Nat} {m : Nat} (k : wOk n E) (hD : wIn n z E D) (cD : wCl E D) (i : wIn n z E d) (i' : wIn n z E d') (le : ∀ a, d' a ≤ d a) (fn : ∀ c, c < m → f c < n) (fe : ∀ c b w, c < m → E (f c) b w → (∃ c', c' < m ∧ b = f c') ∨ d b = D b) (cl : ∀ c b w, c < m → E (f c) b w → d' (f c) ≤ w + d b) : (∀ c, c < m → d (f c) = D (f c)) ∨ wUn d' D f m < wUn d D f m := by
  by_cases q : ∀ c, c < m → d (f c) = D (f c)
  · exact Or.inl q
  right
  have : ∃ c, c < m ∧ d (f c) ≠ D (f c) := Classical.byContradiction fun y => q fun c hc => Classical.byContradiction fun x => y ⟨c, hc, x⟩
  obtain ⟨c0, hc0, hn0⟩ := this
  obtain ⟨c, hc, hn, hm⟩ := wMin (D (f c0)) c0 hc0 rfl hn0
  have g := fn c hc
  have l1 := i.le k hD cD _ (f c) g rfl
  have l2 := i'.le k hD cD _ (f c) g rfl
  have done : d' (f c) = D (f c) := by
    rcases hD.2.2 (f c) g with h | h | ⟨b, w, he, hl⟩
    · exact absurd ((i.2.1 _ g h).trans (hD.2.1 _ g h).symm) hn
    · have := i.1 (f c) g
      exact absurd (by omega) hn
    · have w1 := (k _ _ _ he).2.2
      have hb : d b = D b := by
        rcases fe c b w hc he with ⟨c', hc', e⟩ | e
        · rw [e]; exact hm c' hc' (by rw [← e]; omega)
        · exact e
      have := cl c b w hc he
      omega
  refine cnt_ls (c := c) (decide_eq_true hn) (decide_eq_false (fun x => x done)) m hc (fun j hj h => ?_)
  have h' : d' (f j) ≠ D (f j) := of_decide_eq_true h
  refine decide_eq_true (fun e => h' ?_)
  have a1 := i'.le k hD cD _ (f j) (fn j hj) rfl
  have a2 := le (f j)
  omega
/-- one move of a sweep: what it may do -/
def wQ (n : Nat) (z : Nat → Prop) (E : wEd) (s s' : (Nat → Nat) × Bool) : Prop := (∀ a, s'.1 a ≤ s.1 a) ∧ (s'.2 = false → s'.1 = s.1 ∧ s.2 = false) ∧ (s'.2 = true → s.2 = true ∨ ∃ a, a < n ∧ s'.1 a < s.1 a) ∧ (wIn n z E s.1 → wIn n z E s'.1)
theorem wQ.rf {n : Nat} {z : Nat → Prop} {E : wEd} {s : (Nat → Nat) × Bool} : wQ n z E s s := ⟨fun _ => Nat.le_refl _, fun h => ⟨rfl, h⟩, Or.inl, fun h => h⟩
theorem wQ.tr {n : Nat} {z : Nat → Prop} {E : wEd} {s s' s'' : (Nat → Nat) × Bool} (x : wQ n z E s s') (y : wQ n z E s' s'') : wQ n z E s s'' := by
  refine ⟨fun a => Nat.le_trans (y.1 a) (x.1 a), fun h => ?_, fun h => ?_, fun h => y.2.2.2 (x.2.2.2 h)⟩
  · obtain ⟨h1, h2⟩ := y.2.1 h
    obtain ⟨h3, h4⟩ := x.2.1 h2
    exact ⟨h1.trans h3, h4⟩
  · rcases y.2.2.1 h with h1 | ⟨a, ha, hl⟩
    · rcases x.2.2.1 h1 with h2 | ⟨a, ha, hl⟩
      · exact Or.inl h2
      · exact Or.inr ⟨a, ha, Nat.lt_of_le_of_lt (y.1 a) hl⟩
    · exact Or.inr ⟨a, ha, Nat.lt_of_lt_of_le hl (x.1 a)⟩
theorem wQ.up {n : Nat} {z : Nat → Prop} {E : wEd} {s : (Nat → Nat) × Bool} {a b w : Nat} (e : E a b w) (ha : a < n) (l : w + s.1 b < s.1 a) : wQ n z E s (va_up s.1 a (w + s.1 b), true) := by
  refine ⟨fun x => ?_, fun h => (nomatch h), fun _ => Or.inr ⟨a, ha, ?_⟩, fun i => i.up e l⟩
  · show va_up s.1 a (w + s.1 b) x ≤ s.1 x
    by_cases hx : x = a
    · rw [hx, va_e]; omega
    · rw [va_n hx]; exact Nat.le_refl _
  · show va_up s.1 a (w + s.1 b) a < s.1 a
    rw [va_e]; exact l
/-! STEPS BETWEEN CELLS -/
def wEg (bw : Bool) (pr : Nat → Nat → Nat) : wEd := fun a b w => ∃ c y t, c < 25 ∧ 1 ≤ y ∧ y ≤ 4 ∧ ft_nb c y = some t ∧ 0 < pr c y ∧ w = pr c y ∧ a = (if bw then c else t) ∧ b = (if bw then t else c)
theorem wEg_ok (bw : Bool) (pr : Nat → Nat → Nat) : wOk 25 (wEg bw pr) := by
  rintro a b w ⟨c, y, t, hc, h1, h2, nb, hp, hw, ha, hb⟩
  have ht := ft_nb_lt hc nb
  cases bw <;> simp only [Bool.false_eq_true, if_false, if_true] at ha hb <;> (subst ha; subst hb; omega)
def wst (bw : Bool) (pr : Nat → Nat → Nat) (c y : Nat) (s : (Nat → Nat) × Bool) : (Nat → Nat) × Bool := match ft_nb c y with
  | none => s
  | some t => if pr c y = 0 then s else if pr c y + s.1 (if bw then t else c) < s.1 (if bw then c else t) then (va_up s.1 (if bw then c else t) (pr c y + s.1 (if bw then t else c)), true) else s
theorem wst_n {bw : Bool} {pr : Nat → Nat → Nat} {c y : Nat} {s : (Nat → Nat) × Bool} (e : ft_nb c y = none) : wst bw pr c y s = s := by unfold wst; rw [e]
theorem wst_0 {bw : Bool} {pr : Nat → Nat → Nat} {c y t : Nat} {s : (Nat → Nat) × Bool} (e : ft_nb c y = some t) (p : pr c y = 0) : wst bw pr c y s = s := by
  unfold wst; rw [e]; show (if _ then _ else _) = _; rw [if_pos p]
theorem wst_1 {bw : Bool} {pr : Nat → Nat → Nat} {c y t : Nat} {s : (Nat → Nat) × Bool} (e : ft_nb c y = some t) (p : 0 < pr c y) (l : pr c y + s.1 (if bw then t else c) < s.1 (if bw then c else t)) : wst bw pr c y s = (va_up s.1 (if bw then c else t) (pr c y + s.1 (if bw then t else c)), true) := by
  unfold wst; rw [e]; show (if _ then _ else _) = _; rw [if_neg (by omega), if_pos l]
theorem wst_2 {bw : Bool} {pr : Nat → Nat → Nat} {c y t : Nat} {s : (Nat → Nat) × Bool} (e : ft_nb c y = some t) (p : 0 < pr c y) (l : ¬ pr c y + s.1 (if bw then t else c) < s.1 (if bw then c else t)) : wst bw pr c y s = s := by
  unfold wst; rw [e]; show (if _ then _ else _) = _; rw [if_neg (by omega), if_neg l]
theorem wst_Q {bw : Bool} {pr : Nat → Nat → Nat} {z : Nat → Prop} {c y : Nat} (hc : c < 25) (h1 : 1 ≤ y) (h2 : y ≤ 4) (s : (Nat → Nat) × Bool) : wQ 25 z (wEg bw pr) s (wst bw pr c y s) := by
  cases nb : ft_nb c y with
  | none => rw [wst_n nb]; exact wQ.rf
  | some t =>
    have ht := ft_nb_lt hc nb
    rcases Nat.eq_zero_or_pos (pr c y) with p | p
    · rw [wst_0 nb p]; exact wQ.rf
    · by_cases l : pr c y + s.1 (if bw then t else c) < s.1 (if bw then c else t)
      · rw [wst_1 nb p l]
        exact wQ.up (E := wEg bw pr) ⟨c, y, t, hc, h1, h2, nb, p, rfl, rfl, rfl⟩ (by cases bw <;> simp only [Bool.false_eq_true, if_false, if_true] <;> omega) l
      · rw [wst_2 nb p l]; exact wQ.rf
theorem wst_cl {bw : Bool} {pr : Nat → Nat → Nat} {c y t : Nat} (nb : ft_nb c y = some t) (p : 0 < pr c y) (s : (Nat → Nat) × Bool) : (wst bw pr c y s).1 (if bw then c else t) ≤ pr c y + s.1 (if bw then t else c) := by
  by_cases l : pr c y + s.1 (if bw then t else c) < s.1 (if bw then c else t)
  · rw [wst_1 nb p l]
    show va_up _ _ _ _ ≤ _
    rw [va_e]; exact Nat.le_refl _
  · rw [wst_2 nb p l]; omega
/-- the ways of a cell up to y -/
def wce (bw : Bool) (pr : Nat → Nat → Nat) (c : Nat) : Nat → (Nat → Nat) × Bool → (Nat → Nat) × Bool
  | 0, s => s
  | n + 1, s => wst bw pr c (n + 1) (wce bw pr c n s)
theorem wce_Q {bw : Bool} {pr : Nat → Nat → Nat} {z : Nat → Prop} {c : Nat} (hc : c < 25) (s : (Nat → Nat) × Bool) : ∀ n, n ≤ 4 → wQ 25 z (wEg bw pr) s (wce bw pr c n s)
  | 0, _ => wQ.rf
  | n + 1, h => (wce_Q hc s n (by omega)).tr (wst_Q hc (by omega) h _)
theorem wce_cl {bw : Bool} {pr : Nat → Nat → Nat} {c : Nat} (hc : c < 25) (s : (Nat → Nat) × Bool) : ∀ n, n ≤ 4 → ∀ y t, 1 ≤ y → y ≤ n → ft_nb c y = some t → 0 < pr c y → (wce bw pr c n s).1 (if bw then c else t) ≤ pr c y + s.1 (if bw then t else c)
  | 0, _, y, t, a, b, _, _ => by omega
  | n + 1, h, y, t, a, b, nb, p => by
    show (wst bw pr c (n + 1) (wce bw pr c n s)).1 _ ≤ _
    by_cases e : y = n + 1
    · rw [e] at nb p ⊢
      have h1 := wst_cl (bw := bw) nb p (wce bw pr c n s)
      have h2 := (wce_Q (bw := bw) (pr := pr) (z := fun _ => True) hc s n (by omega)).1 (if bw then t else c)
      omega
    · have h1 := wce_cl (bw := bw) hc s n (by omega) y t a (by omega) nb p
      have h2 := (wst_Q (bw := bw) (pr := pr) (z := fun _ => True) (c := c) (y := n + 1) hc (by omega) h (wce bw pr c n s)).1 (if bw then c else t)
      omega
/-- the cells up to n -/
def wsw (bw : Bool) (pr : Nat → Nat → Nat) : Nat → (Nat → Nat) × Bool → (Nat → Nat) × Bool
  | 0, s => s
  | n + 1, s => wce bw pr n 4 (wsw bw pr n s)
theorem wsw_Q {bw : Bool} {pr : Nat → Nat → Nat} {z : Nat → Prop} (s : (Nat → Nat) × Bool) : ∀ n, n ≤ 25 → wQ 25 z (wEg bw pr) s (wsw bw pr n s)
  | 0, _ => wQ.rf
  | n + 1, h => (wsw_Q s n (by omega)).tr (wce_Q (by omega) _ 4 (Nat.le_refl _))
theorem wsw_cl {bw : Bool} {pr : Nat → Nat → Nat} (s : (Nat → Nat) × Bool) : ∀ n, n ≤ 25 → ∀ c y t, c < n → 1 ≤ y → y ≤ 4 → ft_nb c y = some t → 0 < pr c y → (wsw bw pr n s).1 (if bw then c else t) ≤ pr c y + s.1 (if bw then t else c)
  | 0, _, c, y, t, a, _, _, _, _ => by omega
  | n + 1, h, c, y, t, a, h1, h2, nb, p => by
    show (wce bw pr n 4 (wsw bw pr n s)).1 _ ≤ _
    by_cases e : c = n
    · rw [e] at nb p ⊢
      have q1 := wce_cl (bw := bw) (pr := pr) (c := n) (by omega) (wsw bw pr n s) 4 (Nat.le_refl _) y t h1 h2 nb p
      have q2 := (wsw_Q (bw := bw) (pr := pr) (z := fun _ => True) s n (by omega)).1 (if bw then t else n)
      omega
    · have q1 := wsw_cl (bw := bw) (pr := pr) s n (by omega) c y t (by omega) h1 h2 nb p
      have q2 := (wce_Q (bw := bw) (pr := pr) (z := fun _ => True) (c := n) (by omega) (wsw bw pr n s) 4 (Nat.le_refl _)).1 (if bw then c else t)
      omega
def wd0 (g : Nat) : Nat → Nat := fun c => if c = g then 0 else 1000000
theorem wd0_in {g : Nat} {E : wEd} : wIn 25 (fun c => c = g) E (wd0 g) := by
  refine ⟨fun a _ => ?_, fun a _ h => if_pos h, fun a _ => ?_⟩
  · unfold wd0; split <;> omega
  · by_cases h : a = g
    · exact Or.inl h
    · exact Or.inr (Or.inl (if_neg h))
/-- the cheapest counts -/
def wD (g : Nat) (bw : Bool) (pr : Nat → Nat → Nat) (D : Nat → Nat) : Prop := wIn 25 (fun c => c = g) (wEg bw pr) D ∧ wCl (wEg bw pr) D
theorem wD_ex (g : Nat) (bw : Bool) (pr : Nat → Nat → Nat) : ∃ D, wD g bw pr D := wEx (wEg_ok bw pr) _ (wd0 g) wd0_in (Nat.le_refl _)
/-- a whole sweep: nearer, and done when nothing changed -/
theorem wsw_1 {g : Nat} {bw : Bool} {pr : Nat → Nat → Nat} {D : Nat → Nat} (hD : wD g bw pr D) {d : Nat → Nat} (i : wIn 25 (fun c => c = g) (wEg bw pr) d) : wIn 25 (fun c => c = g) (wEg bw pr) (wsw bw pr 25 (d, false)).1 ∧ (wUn (wsw bw pr 25 (d, false)).1 D (fun c => c) 25 ≤ wUn d D (fun c => c) 25 - 1) ∧ ((wsw bw pr 25 (d, false)).2 = false → ∀ c, c < 25 → (wsw bw pr 25 (d, false)).1 c = D c) ∧ (wUn d D (fun c => c) 25 = 0 → (wsw bw pr 25 (d, false)).2 = false) := by
  have q := wsw_Q (bw := bw) (pr := pr) (z := fun c => c = g) (d, false) 25 (Nat.le_refl _)
  have c0 : ∀ a b w, wEg bw pr a b w → (wsw bw pr 25 (d, false)).1 a ≤ w + d b := by
    rintro a b w ⟨c, y, t, hc, h1, h2, nb, hp, hw, ha, hb⟩
    have := wsw_cl (bw := bw) (pr := pr) (d, false) 25 (Nat.le_refl _) c y t hc h1 h2 nb hp
    rw [ha, hb, hw]; exact this
  have i' := q.2.2.2 i
  have ok := wEg_ok bw pr
  have zero : (∀ c, c < 25 → d c = D c) → ∀ c, c < 25 → (wsw bw pr 25 (d, false)).1 c = D c := fun h c hc => by
    have a1 := i'.le ok hD.1 hD.2 _ c hc rfl
    have a2 : (wsw bw pr 25 (d, false)).1 c ≤ d c := q.1 c
    have a3 := h c hc
    omega
  refine ⟨i', ?_, fun h => ?_, fun h => ?_⟩
  · rcases wFall (f := fun c => c) (m := 25) ok hD.1 hD.2 i i' q.1 (fun _ h => h) (fun c b w hc e => Or.inl ⟨b, (ok _ _ _ e).2.1, rfl⟩) (fun c b w _ e => c0 _ _ _ e) with h | h
    · have hz := zero h
      have : wUn (wsw bw pr 25 (d, false)).1 D (fun c => c) 25 ≤ cnt (fun _ => false) 25 := cnt_mo 25 (fun j hj x => absurd (hz j hj) (of_decide_eq_true x))
      have e0 : cnt (fun _ => false) 25 = 0 := by decide
      omega
    · omega
  · obtain ⟨e, _⟩ := q.2.1 h
    intro c hc
    rw [e] at c0 i' ⊢
    have a1 := i'.le ok hD.1 hD.2 _ c hc rfl
    have a2 := hD.1.le ok i' c0 _ c hc rfl
    have a3 : d c = D c := Nat.le_antisymm a2 a1
    exact a3
  · cases hb : (wsw bw pr 25 (d, false)).2 with
    | false => rfl
    | true =>
      rcases q.2.2.1 hb with h1 | ⟨a, ha, hl⟩
      · cases h1
      · have hz := zero (fun c hc => wUn_0 (f := fun c => c) h hc) a ha
        have h3 : d a = D a := wUn_0 (f := fun c => c) h ha
        have h4 : (wsw bw pr 25 (d, false)).1 a < d a := hl
        omega
