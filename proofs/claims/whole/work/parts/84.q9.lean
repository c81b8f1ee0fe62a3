/-! TOURS: THE SYSTEM -/
abbrev wSt : Type := (Nat → Nat) × Bool
def rlx (a b w : Nat) (s : wSt) : wSt := if w + s.1 b < s.1 a then (va_up s.1 a (w + s.1 b), true) else s
theorem rlx_1 {a b w : Nat} {s : wSt} (h : w + s.1 b < s.1 a) : rlx a b w s = (va_up s.1 a (w + s.1 b), true) := if_pos h
theorem rlx_0 {a b w : Nat} {s : wSt} (h : ¬ w + s.1 b < s.1 a) : rlx a b w s = s := if_neg h
theorem rlx_Q {n : Nat} {z : Nat → Prop} {E : wEd} {a b w : Nat} (e : E a b w) (ha : a < n) (s : wSt) : wQ n z E s (rlx a b w s) := by
  by_cases h : w + s.1 b < s.1 a
  · rw [rlx_1 h]; exact wQ.up e ha h
  · rw [rlx_0 h]; exact wQ.rf
theorem rlx_c (a b w : Nat) (s : wSt) : (rlx a b w s).1 a ≤ w + s.1 b := by
  by_cases h : w + s.1 b < s.1 a
  · rw [rlx_1 h]; show va_up _ _ _ _ ≤ _; rw [va_e]; exact Nat.le_refl _
  · rw [rlx_0 h]; omega
def wMv (n : Nat) (z : Nat → Prop) (E : wEd) (m : wSt → wSt) : Prop := ∀ s, wQ n z E s (m s)
def wCv (E : wEd) (m : wSt → wSt) (a : Nat) : Prop := ∀ s b w, E a b w → (m s).1 a ≤ w + s.1 b
theorem wMv.tr {n : Nat} {z : Nat → Prop} {E : wEd} {m m' : wSt → wSt} (p : wMv n z E m) (q : wMv n z E m') : wMv n z E (fun s => m' (m s)) := fun s => (p s).tr (q (m s))
theorem wCv.l {n : Nat} {z : Nat → Prop} {E : wEd} {m m' : wSt → wSt} {a : Nat} (q : wMv n z E m') (c : wCv E m a) : wCv E (fun s => m' (m s)) a := fun s b w e => Nat.le_trans ((q (m s)).1 a) (c s b w e)
theorem wCv.r {n : Nat} {z : Nat → Prop} {E : wEd} {m m' : wSt → wSt} {a : Nat} (q : wMv n z E m) (c : wCv E m' a) : wCv E (fun s => m' (m s)) a := fun s b w e => Nat.le_trans (c (m s) b w e) (Nat.add_le_add_left ((q s).1 b) w)
/-- one sweep over the nodes f 0 .. f (m - 1) -/
theorem wSwp {n : Nat} {z : Nat → Prop} {E : wEd} {d D f : Nat → Nat} {m : Nat} {s' : wSt} (k : wOk n E) (hD : wIn n z E D) (cD : wCl E D) (i : wIn n z E d) (q : wQ n z E (d, false) s') (fn : ∀ c, c < m → f c < n) (fe : ∀ c b w, c < m → E (f c) b w → (∃ c', c' < m ∧ b = f c') ∨ d b = D b) (cl : ∀ c b w, c < m → E (f c) b w → s'.1 (f c) ≤ w + d b) : wIn n z E s'.1 ∧ (wUn s'.1 D f m ≤ wUn d D f m - 1) ∧ (s'.2 = false → ∀ c, c < m → s'.1 (f c) = D (f c)) ∧ (∀ a, a < n → d a = D a → s'.1 a = D a) := by
  have i' := q.2.2.2 i
  have keep : ∀ a, a < n → d a = D a → s'.1 a = D a := fun a ha e => by
    have a1 := i'.le k hD cD _ a ha rfl
    have a2 : s'.1 a ≤ d a := q.1 a
    omega
  have fall := wFall (f := f) (m := m) k hD cD i i' q.1 fn fe cl
  refine ⟨i', ?_, fun h => ?_, keep⟩
  · rcases fall with h | h
    · have : wUn s'.1 D f m ≤ cnt (fun _ => false) m := cnt_mo m (fun j hj x => absurd (keep _ (fn j hj) (h j hj)) (of_decide_eq_true x))
      have e0 : ∀ m, cnt (fun _ => false) m = 0 := by
        intro m
        induction m with
        | zero => rfl
        | succ m ih => show cnt (fun _ => false) m + ft_z false = 0; rw [ih]; rfl
      rw [e0] at this
      omega
    · omega
  · obtain ⟨e, _⟩ := q.2.1 h
    have e' : s'.1 = d := e
    rcases fall with h | h
    · intro c hc
      rw [e']; exact h c hc
    · rw [e'] at h
      omega
theorem wSwp_f {n : Nat} {z : Nat → Prop} {E : wEd} {d D : Nat → Nat} {s' : wSt} (k : wOk n E) (hD : wIn n z E D) (cD : wCl E D) (i : wIn n z E d) (q : wQ n z E (d, false) s') (h : ∀ a, a < n → d a = D a) : s'.2 = false := by
  cases hb : s'.2 with
  | false => rfl
  | true =>
    rcases q.2.2.1 hb with h1 | ⟨a, ha, hl⟩
    · cases h1
    · have i' := q.2.2.2 i
      have a1 := i'.le k hD cD _ a ha rfl
      have a2 := h a ha
      have a3 : s'.1 a < d a := hl
      omega
/-! nodes (c, u) -/
def nOk (nd : Nat → Nat → Nat) : Prop := (∀ c u, c < 25 → u < 64 → nd c u < 1600) ∧ ∀ c u c' u', c < 25 → c' < 25 → u < 64 → u' < 64 → nd c u = nd c' u' → c = c' ∧ u = u'
def nR (c u : Nat) : Nat := 64 * c + u
def nC (c u : Nat) : Nat := 25 * u + c
theorem nR_ok : nOk nR := ⟨fun c u _ _ => by unfold nR; omega, fun c u c' u' _ _ _ _ e => by unfold nR at e; omega⟩
theorem nC_ok : nOk nC := ⟨fun c u _ _ => by unfold nC; omega, fun c u c' u' _ _ _ _ e => by unfold nC at e; omega⟩
def tEg (nd : Nat → Nat → Nat) (N : Nat) (sn : Nat → Nat) (pr : Nat → Nat → Nat) : wEd := fun a b w => ∃ c u y t, c < 25 ∧ u < N ∧ 1 ≤ y ∧ y ≤ 4 ∧ ft_nb c y = some t ∧ 0 < pr c y ∧ w = pr c y ∧ a = nd c u ∧ b = nd t (u ||| sn t)
def tZ (nd : Nat → Nat → Nat) (N : Nat) : Nat → Prop := fun a => ∃ c, c < 25 ∧ a = nd c (N - 1)
/-- n wanted, what comes up where -/
def tOk (n : Nat) (sn : Nat → Nat) : Prop := n ≤ 6 ∧ ∀ t, sn t < 2 ^ n
theorem pw6 {n : Nat} (h : n ≤ 6) : 2 ^ n ≤ 64 ∧ 0 < 2 ^ n := ⟨Nat.pow_le_pow_right (n := 2) (by omega) h, Nat.two_pow_pos n⟩
theorem tOk.or {n : Nat} {sn : Nat → Nat} (k : tOk n sn) {u : Nat} (hu : u < 2 ^ n) (t : Nat) : u ||| sn t < 2 ^ n := Nat.or_lt_two_pow hu (k.2 t)
theorem tEg_ok {nd : Nat → Nat → Nat} (h : nOk nd) {n : Nat} {sn : Nat → Nat} (k : tOk n sn) (pr : Nat → Nat → Nat) : wOk 1600 (tEg nd (2 ^ n) sn pr) := by
  rintro a b w ⟨c, u, y, t, hc, hu, h1, h2, nb, hp, hw, ha, hb⟩
  have ht := ft_nb_lt hc nb
  have p := (pw6 k.1).1
  have o := k.or hu t
  subst ha; subst hb; subst hw
  exact ⟨h.1 c u hc (by omega), h.1 t _ ht (by omega), hp⟩
def tst (nd : Nat → Nat → Nat) (sn : Nat → Nat) (pr : Nat → Nat → Nat) (c u y : Nat) (s : wSt) : wSt := match ft_nb c y with
  | none => s
  | some t => if pr c y = 0 then s else rlx (nd c u) (nd t (u ||| sn t)) (pr c y) s
theorem tst_n {nd : Nat → Nat → Nat} {sn : Nat → Nat} {pr : Nat → Nat → Nat} {c u y : Nat} {s : wSt} (e : ft_nb c y = none) : tst nd sn pr c u y s = s := by unfold tst; rw [e]
theorem tst_0 {nd : Nat → Nat → Nat} {sn : Nat → Nat} {pr : Nat → Nat → Nat} {c u y : Nat} {s : wSt} (p : pr c y = 0) : tst nd sn pr c u y s = s := by
  cases e : ft_nb c y with
  | none => exact tst_n e
  | some t => unfold tst; rw [e]; show (if _ then _ else _) = _; rw [if_pos p]
theorem tst_1 {nd : Nat → Nat → Nat} {sn : Nat → Nat} {pr : Nat → Nat → Nat} {c u y t : Nat} {s : wSt} (e : ft_nb c y = some t) (p : 0 < pr c y) : tst nd sn pr c u y s = rlx (nd c u) (nd t (u ||| sn t)) (pr c y) s := by
  unfold tst; rw [e]; show (if _ then _ else _) = _; rw [if_neg (by omega)]
def tnd (nd : Nat → Nat → Nat) (sn : Nat → Nat) (pr : Nat → Nat → Nat) (c u : Nat) : Nat → wSt → wSt
  | 0, s => s
  | n + 1, s => tst nd sn pr c u (n + 1) (tnd nd sn pr c u n s)
theorem tst_Q {nd : Nat → Nat → Nat} (h : nOk nd) {n : Nat} {sn : Nat → Nat} (k : tOk n sn) {pr : Nat → Nat → Nat} {z : Nat → Prop} {c u y : Nat} (hc : c < 25) (hu : u < 2 ^ n) (h1 : 1 ≤ y) (h2 : y ≤ 4) : wMv 1600 z (tEg nd (2 ^ n) sn pr) (tst nd sn pr c u y) := by
  intro s
  have p := (pw6 k.1).1
  rcases Nat.eq_zero_or_pos (pr c y) with q | q
  · rw [tst_0 q]; exact wQ.rf
  · cases e : ft_nb c y with
    | none => rw [tst_n e]; exact wQ.rf
    | some t =>
      rw [tst_1 e q]
      exact rlx_Q (E := tEg nd (2 ^ n) sn pr) ⟨c, u, y, t, hc, hu, h1, h2, e, q, rfl, rfl, rfl⟩ (h.1 c u hc (by omega)) s
theorem tnd_Q {nd : Nat → Nat → Nat} (h : nOk nd) {n : Nat} {sn : Nat → Nat} (k : tOk n sn) {pr : Nat → Nat → Nat} {z : Nat → Prop} {c u : Nat} (hc : c < 25) (hu : u < 2 ^ n) : ∀ j, j ≤ 4 → wMv 1600 z (tEg nd (2 ^ n) sn pr) (tnd nd sn pr c u j)
  | 0, _ => fun _ => wQ.rf
  | j + 1, hj => (tnd_Q h k hc hu j (by omega)).tr (tst_Q h k hc hu (by omega) hj)
theorem tnd_c {nd : Nat → Nat → Nat} (h : nOk nd) {n : Nat} {sn : Nat → Nat} (k : tOk n sn) {pr : Nat → Nat → Nat} {c u : Nat} (hc : c < 25) (hu : u < 2 ^ n) : ∀ j, j ≤ 4 → ∀ s y t, 1 ≤ y → y ≤ j → ft_nb c y = some t → 0 < pr c y → (tnd nd sn pr c u j s).1 (nd c u) ≤ pr c y + s.1 (nd t (u ||| sn t))
  | 0, _, s, y, t, a, b, _, _ => by omega
  | j + 1, hj, s, y, t, a, b, nb, p => by
    show (tst nd sn pr c u (j + 1) (tnd nd sn pr c u j s)).1 _ ≤ _
    by_cases e : y = j + 1
    · rw [e] at nb p ⊢
      rw [tst_1 nb p]
      have h1 := rlx_c (nd c u) (nd t (u ||| sn t)) (pr c (j + 1)) (tnd nd sn pr c u j s)
      have h2 := (tnd_Q h k (pr := pr) (z := fun _ => True) hc hu j (by omega) s).1 (nd t (u ||| sn t))
      omega
    · have h1 := tnd_c h k hc hu j (by omega) s y t a (by omega) nb p
      have h2 := (tst_Q h k (pr := pr) (z := fun _ => True) hc hu (y := j + 1) (by omega) hj (tnd nd sn pr c u j s)).1 (nd c u)
      omega
theorem tnd_cv {nd : Nat → Nat → Nat} (h : nOk nd) {n : Nat} {sn : Nat → Nat} (k : tOk n sn) {pr : Nat → Nat → Nat} {c u : Nat} (hc : c < 25) (hu : u < 2 ^ n) : wCv (tEg nd (2 ^ n) sn pr) (tnd nd sn pr c u 4) (nd c u) := by
  rintro s b w ⟨c', u', y, t, hc', hu', h1, h2, nb, hp, hw, ha, hb⟩
  have p := (pw6 k.1).1
  obtain ⟨rfl, rfl⟩ := h.2 c u c' u' hc hc' (by omega) (by omega) ha
  subst hb; subst hw
  exact tnd_c h k hc hu 4 (Nat.le_refl _) s y t h1 h2 nb hp
/-- the class's sweep of a set u, cells up to j -/
def tcl (nd : Nat → Nat → Nat) (sn : Nat → Nat) (pr : Nat → Nat → Nat) (u : Nat) : Nat → wSt → wSt
  | 0, s => s
  | j + 1, s => tnd nd sn pr j u 4 (tcl nd sn pr u j s)
/-- the reference's sweep of a cell c, sets up to j -/
def trf (nd : Nat → Nat → Nat) (sn : Nat → Nat) (pr : Nat → Nat → Nat) (c : Nat) : Nat → wSt → wSt
  | 0, s => s
  | j + 1, s => tnd nd sn pr c j 4 (trf nd sn pr c j s)
def tro (nd : Nat → Nat → Nat) (sn : Nat → Nat) (pr : Nat → Nat → Nat) (m : Nat) : Nat → wSt → wSt
  | 0, s => s
  | j + 1, s => trf nd sn pr j m (tro nd sn pr m j s)
theorem tcl_Q {nd : Nat → Nat → Nat} (h : nOk nd) {n : Nat} {sn : Nat → Nat} (k : tOk n sn) {pr : Nat → Nat → Nat} {z : Nat → Prop} {u : Nat} (hu : u < 2 ^ n) : ∀ j, j ≤ 25 → wMv 1600 z (tEg nd (2 ^ n) sn pr) (tcl nd sn pr u j)
  | 0, _ => fun _ => wQ.rf
  | j + 1, hj => (tcl_Q h k hu j (by omega)).tr (tnd_Q h k (by omega) hu 4 (Nat.le_refl _))
theorem tcl_cv {nd : Nat → Nat → Nat} (h : nOk nd) {n : Nat} {sn : Nat → Nat} (k : tOk n sn) {pr : Nat → Nat → Nat} {u : Nat} (hu : u < 2 ^ n) : ∀ j, j ≤ 25 → ∀ c, c < j → wCv (tEg nd (2 ^ n) sn pr) (tcl nd sn pr u j) (nd c u)
  | 0, _, c, hc => by omega
  | j + 1, hj, c, hc => by
    by_cases e : c = j
    · subst e
      exact wCv.r (m := tcl nd sn pr u c) (m' := tnd nd sn pr c u 4) (z := fun _ => True) (tcl_Q h k hu c (by omega)) (tnd_cv h k (c := c) (by omega) hu)
    · exact wCv.l (m := tcl nd sn pr u j) (m' := tnd nd sn pr j u 4) (z := fun _ => True) (tnd_Q h k (c := j) (by omega) hu 4 (Nat.le_refl _)) (tcl_cv h k hu j (by omega) c (by omega))
theorem trf_Q {nd : Nat → Nat → Nat} (h : nOk nd) {n : Nat} {sn : Nat → Nat} (k : tOk n sn) {pr : Nat → Nat → Nat} {z : Nat → Prop} {c : Nat} (hc : c < 25) : ∀ j, j ≤ 2 ^ n → wMv 1600 z (tEg nd (2 ^ n) sn pr) (trf nd sn pr c j)
  | 0, _ => fun _ => wQ.rf
  | j + 1, hj => (trf_Q h k hc j (by omega)).tr (tnd_Q h k hc (by omega) 4 (Nat.le_refl _))
theorem trf_cv {nd : Nat → Nat → Nat} (h : nOk nd) {n : Nat} {sn : Nat → Nat} (k : tOk n sn) {pr : Nat → Nat → Nat} {c : Nat} (hc : c < 25) : ∀ j, j ≤ 2 ^ n → ∀ u, u < j → wCv (tEg nd (2 ^ n) sn pr) (trf nd sn pr c j) (nd c u)
  | 0, _, u, hu => by omega
  | j + 1, hj, u, hu => by
    by_cases e : u = j
    · subst e
      exact wCv.r (m := trf nd sn pr c u) (m' := tnd nd sn pr c u 4) (z := fun _ => True) (trf_Q h k hc u (by omega)) (tnd_cv h k hc (u := u) (by omega))
    · exact wCv.l (m := trf nd sn pr c j) (m' := tnd nd sn pr c j 4) (z := fun _ => True) (tnd_Q h k hc (u := j) (by omega) 4 (Nat.le_refl _)) (trf_cv h k hc j (by omega) u (by omega))
theorem tro_Q {nd : Nat → Nat → Nat} (h : nOk nd) {n : Nat} {sn : Nat → Nat} (k : tOk n sn) {pr : Nat → Nat → Nat} {z : Nat → Prop} {m : Nat} (hm : m ≤ 2 ^ n) : ∀ j, j ≤ 25 → wMv 1600 z (tEg nd (2 ^ n) sn pr) (tro nd sn pr m j)
  | 0, _ => fun _ => wQ.rf
  | j + 1, hj => (tro_Q h k hm j (by omega)).tr (trf_Q h k (by omega) m hm)
theorem tro_cv {nd : Nat → Nat → Nat} (h : nOk nd) {n : Nat} {sn : Nat → Nat} (k : tOk n sn) {pr : Nat → Nat → Nat} {m : Nat} (hm : m ≤ 2 ^ n) : ∀ j, j ≤ 25 → ∀ c u, c < j → u < m → wCv (tEg nd (2 ^ n) sn pr) (tro nd sn pr m j) (nd c u)
  | 0, _, c, u, hc, hu => by omega
  | j + 1, hj, c, u, hc, hu => by
    by_cases e : c = j
    · subst e
      exact wCv.r (m := tro nd sn pr m c) (m' := trf nd sn pr c m) (z := fun _ => True) (tro_Q h k hm c (by omega)) (trf_cv h k (c := c) (by omega) m hm u hu)
    · exact wCv.l (m := tro nd sn pr m j) (m' := trf nd sn pr j m) (z := fun _ => True) (trf_Q h k (c := j) (by omega) m hm) (tro_cv h k hm j (by omega) c u (by omega) hu)
/-- the cheapest tours -/
def tD (nd : Nat → Nat → Nat) (n : Nat) (sn : Nat → Nat) (pr : Nat → Nat → Nat) (D : Nat → Nat) : Prop := wIn 1600 (tZ nd (2 ^ n)) (tEg nd (2 ^ n) sn pr) D ∧ wCl (tEg nd (2 ^ n) sn pr) D
def td0 (nd : Nat → Nat → Nat) (n : Nat) : Nat → Nat := fun a => if (List.range 25).any (fun c => decide (a = nd c (2 ^ n - 1))) = true then 0 else 1000000
theorem td0_i {nd : Nat → Nat → Nat} {n a : Nat} : (List.range 25).any (fun c => decide (a = nd c (2 ^ n - 1))) = true ↔ tZ nd (2 ^ n) a := by
  rw [List.any_eq_true]
  constructor
  · rintro ⟨c, h1, h2⟩
    exact ⟨c, List.mem_range.mp h1, of_decide_eq_true h2⟩
  · rintro ⟨c, h1, h2⟩
    exact ⟨c, List.mem_range.mpr h1, decide_eq_true h2⟩
theorem td0_z {nd : Nat → Nat → Nat} {n a : Nat} (h : tZ nd (2 ^ n) a) : td0 nd n a = 0 := by unfold td0; exact if_pos (td0_i.mpr h)
theorem td0_n {nd : Nat → Nat → Nat} {n a : Nat} (h : ¬ tZ nd (2 ^ n) a) : td0 nd n a = 1000000 := by unfold td0; exact if_neg (fun q => h (td0_i.mp q))
theorem td0_in {nd : Nat → Nat → Nat} {n : Nat} {E : wEd} : wIn 1600 (tZ nd (2 ^ n)) E (td0 nd n) := by
  refine ⟨fun a _ => ?_, fun a _ h => td0_z h, fun a _ => ?_⟩
  · by_cases h : tZ nd (2 ^ n) a
    · rw [td0_z h]; omega
    · rw [td0_n h]; omega
  · by_cases h : tZ nd (2 ^ n) a
    · exact Or.inl h
    · exact Or.inr (Or.inl (td0_n h))
theorem tD_ex {nd : Nat → Nat → Nat} (h : nOk nd) {n : Nat} {sn : Nat → Nat} (k : tOk n sn) (pr : Nat → Nat → Nat) : ∃ D, tD nd n sn pr D := wEx (tEg_ok h k pr) _ (td0 nd n) td0_in (Nat.le_refl _)
theorem tD_u {nd : Nat → Nat → Nat} (h : nOk nd) {n : Nat} {sn : Nat → Nat} (k : tOk n sn) {pr : Nat → Nat → Nat} {D D' : Nat → Nat} (d : tD nd n sn pr D) (d' : tD nd n sn pr D') {a : Nat} (ha : a < 1600) : D a = D' a := by
  have e1 := d.1.le (tEg_ok h k pr) d'.1 d'.2 _ a ha rfl
  have e2 := d'.1.le (tEg_ok h k pr) d.1 d.2 _ a ha rfl
  omega
/-- the class: a sweep of the set u, when all greater sets are settled -/
theorem tcl_1 {nd : Nat → Nat → Nat} (h : nOk nd) {n : Nat} {sn : Nat → Nat} (k : tOk n sn) {pr : Nat → Nat → Nat} {D d : Nat → Nat} (hD : tD nd n sn pr D) (i : wIn 1600 (tZ nd (2 ^ n)) (tEg nd (2 ^ n) sn pr) d) {u : Nat} (hu : u < 2 ^ n) (st : ∀ c v, c < 25 → u < v → v < 2 ^ n → d (nd c v) = D (nd c v)) : wIn 1600 (tZ nd (2 ^ n)) (tEg nd (2 ^ n) sn pr) (tcl nd sn pr u 25 (d, false)).1 ∧ (wUn (tcl nd sn pr u 25 (d, false)).1 D (fun c => nd c u) 25 ≤ wUn d D (fun c => nd c u) 25 - 1) ∧ ((tcl nd sn pr u 25 (d, false)).2 = false → ∀ c, c < 25 → (tcl nd sn pr u 25 (d, false)).1 (nd c u) = D (nd c u)) ∧ (∀ a, a < 1600 → d a = D a → (tcl nd sn pr u 25 (d, false)).1 a = D a) := by
  have p := (pw6 k.1).1
  refine wSwp (f := fun c => nd c u) (m := 25) (tEg_ok h k pr) hD.1 hD.2 i (tcl_Q h k hu 25 (Nat.le_refl _) (d, false)) (fun c hc => h.1 c u hc (by omega)) (fun c b w hc e => ?_) (fun c b w hc e => tcl_cv h k hu 25 (Nat.le_refl _) c hc (d, false) b w e)
  obtain ⟨c', u', y, t, hc', hu', h1, h2, nb, hp, hw, ha, hb⟩ := e
  obtain ⟨rfl, rfl⟩ := h.2 c u c' u' hc hc' (by omega) (by omega) ha
  have ht := ft_nb_lt hc nb
  by_cases q : u ||| sn t = u
  · left
    exact ⟨t, ht, by rw [hb, q]⟩
  · right
    rw [hb]
    have g : u ≤ u ||| sn t := Nat.left_le_or
    exact st t _ ht (by omega) (k.or hu t)
/-- the reference: a whole sweep -/
theorem tro_1 {nd : Nat → Nat → Nat} (h : nOk nd) {n : Nat} {sn : Nat → Nat} (k : tOk n sn) {pr : Nat → Nat → Nat} {D d : Nat → Nat} (hD : tD nd n sn pr D) (i : wIn 1600 (tZ nd (2 ^ n)) (tEg nd (2 ^ n) sn pr) d) : wIn 1600 (tZ nd (2 ^ n)) (tEg nd (2 ^ n) sn pr) (tro nd sn pr (2 ^ n - 1) 25 (d, false)).1 ∧ (wUn (tro nd sn pr (2 ^ n - 1) 25 (d, false)).1 D (fun a => a) 1600 ≤ wUn d D (fun a => a) 1600 - 1) ∧ ((tro nd sn pr (2 ^ n - 1) 25 (d, false)).2 = false → ∀ a, a < 1600 → (tro nd sn pr (2 ^ n - 1) 25 (d, false)).1 a = D a) ∧ (wUn d D (fun a => a) 1600 = 0 → (tro nd sn pr (2 ^ n - 1) 25 (d, false)).2 = false) := by
  have p := pw6 k.1
  have q := tro_Q h k (pr := pr) (z := tZ nd (2 ^ n)) (m := 2 ^ n - 1) (by omega) 25 (Nat.le_refl _) (d, false)
  have ok := tEg_ok h k pr
  obtain ⟨s1, s2, s3, s4⟩ := wSwp (f := fun a => a) (m := 1600) ok hD.1 hD.2 i q (fun a ha => ha) (fun c b w hc e => Or.inl ⟨b, (ok _ _ _ e).2.1, rfl⟩) (fun a b w ha e => by
    obtain ⟨c, u, y, t, hc, hu, h1, h2, nb, hp, hw, e1, e2⟩ := e
    by_cases v : u < 2 ^ n - 1
    · have := tro_cv h k (pr := pr) (m := 2 ^ n - 1) (by omega) 25 (Nat.le_refl _) c u hc v (d, false) b w ⟨c, u, y, t, hc, hu, h1, h2, nb, hp, hw, rfl, e2⟩
      rw [e1]
      exact this
    · have hz : tZ nd (2 ^ n) a := ⟨c, hc, by rw [e1, show u = 2 ^ n - 1 from by omega]⟩
      have := (q.2.2.2 i).2.1 a ha hz
      show (tro nd sn pr (2 ^ n - 1) 25 (d, false)).1 a ≤ _
      rw [this]; omega)
  exact ⟨s1, s2, s3, fun e => wSwp_f ok hD.1 hD.2 i q (fun a ha => wUn_0 (f := fun a => a) e ha)⟩
