/-! TOURS: TWO NUMBERINGS OF WHAT IS WANTED -/
def wat (p : Nat → Bool) (j : Nat) : Nat → Nat
  | 0 => 0
  | x + 1 => if p x = true ∧ cnt p x = j then x else wat p j x
theorem cnt_s (p : Nat → Bool) (n : Nat) : cnt p (n + 1) = cnt p n + ft_z (p n) := rfl
theorem cnt_up {p : Nat → Bool} {x : Nat} : ∀ y, x ≤ y → cnt p x ≤ cnt p y
  | 0, h => by rw [show x = 0 from by omega]; exact Nat.le_refl _
  | y + 1, h => by
    by_cases e : x = y + 1
    · rw [e]; exact Nat.le_refl _
    · have := cnt_up (p := p) (x := x) y (by omega)
      rw [cnt_s]; omega
theorem cnt_st {p : Nat → Bool} {x y : Nat} (px : p x = true) (h : x < y) : cnt p x < cnt p y := by
  have := cnt_up (p := p) (x := x + 1) y h
  rw [cnt_s, px, ft_zt] at this
  omega
theorem wat_c {p : Nat → Bool} {x : Nat} (px : p x = true) : ∀ n, x < n → wat p (cnt p x) n = x
  | 0, h => by omega
  | n + 1, h => by
    unfold wat
    by_cases e : x = n
    · rw [if_pos ⟨by rw [← e]; exact px, by rw [e]⟩, e]
    · have := cnt_st (y := n) px (by omega)
      rw [if_neg (fun q => by omega)]
      exact wat_c px n (by omega)
theorem wat_p {p : Nat → Bool} {j : Nat} : ∀ n, j < cnt p n → p (wat p j n) = true ∧ wat p j n < n ∧ cnt p (wat p j n) = j
  | 0, h => by
    have : cnt p 0 = 0 := rfl
    omega
  | n + 1, h => by
    unfold wat
    by_cases q : p n = true ∧ cnt p n = j
    · rw [if_pos q]; exact ⟨q.1, by omega, q.2⟩
    · rw [if_neg q]
      have h' : j < cnt p n := by
        rw [cnt_s] at h
        cases pn : p n with
        | false => rw [pn, ft_zf] at h; omega
        | true =>
          rw [pn, ft_zt] at h
          have : cnt p n ≠ j := fun z => q ⟨pn, z⟩
          omega
      have := wat_p n h'
      exact ⟨this.1, by omega, this.2.2⟩
def tMs (p sh : Nat → Bool) : Nat → Bool := fun x => p x && !sh x
theorem tMs_le (p sh : Nat → Bool) : cnt (tMs p sh) 25 ≤ cnt p 25 := cnt_mo 25 (fun i _ h => by
  unfold tMs at h
  cases q : p i with
  | true => rfl
  | false => rw [q] at h; cases h)
theorem tMs_1 {p sh : Nat → Bool} {x : Nat} (h : tMs p sh x = true) : p x = true ∧ sh x = false := by
  unfold tMs at h
  cases q : p x <;> cases r : sh x <;> rw [q, r] at h <;> first | (cases h; done) | exact ⟨rfl, rfl⟩
theorem tMs_0 {p sh : Nat → Bool} {x : Nat} (h : p x = true) (r : sh x = false) : tMs p sh x = true := by unfold tMs; rw [h, r]; rfl
/-- what comes up, numbered by p -/
def tSn (p : Nat → Bool) (vis : Nat → Nat → Bool) (t : Nat) : Nat := ft_bs (fun i => vis t (wat p i 25)) (cnt p 25)
theorem tSn_ok {p : Nat → Bool} {vis : Nat → Nat → Bool} (h : cnt p 25 ≤ 6) : tOk (cnt p 25) (tSn p vis) := ⟨h, fun t => ft_bs_lt _ _⟩
def emb (p sh : Nat → Bool) (s : Nat) : Nat := ft_bs (fun i => sh (wat p i 25) || s.testBit (cnt (tMs p sh) (wat p i 25))) (cnt p 25)
theorem emb_lt (p sh : Nat → Bool) (s : Nat) : emb p sh s < 2 ^ cnt p 25 := ft_bs_lt _ _
theorem emb_0 (p sh : Nat → Bool) : emb p sh 0 = ft_bs (fun i => sh (wat p i 25)) (cnt p 25) := ft_bs_e _ (fun i _ => by rw [Nat.zero_testBit, Bool.or_false])
theorem emb_or (p sh : Nat → Bool) (vis : Nat → Nat → Bool) (s t : Nat) : emb p sh (s ||| tSn (tMs p sh) vis t) = emb p sh s ||| tSn p vis t := by
  refine Nat.eq_of_testBit_eq (fun i => ?_)
  unfold emb tSn
  rw [Nat.testBit_or, ft_bs_t, ft_bs_t, ft_bs_t]
  by_cases hi : i < cnt p 25
  · obtain ⟨w1, w2, w3⟩ := wat_p 25 hi
    rw [decide_eq_true hi, Bool.true_and, Bool.true_and, Bool.true_and, Nat.testBit_or, ft_bs_t]
    cases r : sh (wat p i 25) with
    | true => rw [Bool.true_or, Bool.true_or, Bool.true_or]
    | false =>
      have m := tMs_0 w1 r
      have l := cnt_st (p := tMs p sh) (y := 25) m w2
      rw [decide_eq_true l, Bool.true_and, wat_c m 25 w2, Bool.false_or, Bool.false_or]
  · rw [decide_eq_false hi, Bool.false_and, Bool.false_and, Bool.false_and]; rfl
theorem emb_all (p sh : Nat → Bool) : emb p sh (2 ^ cnt (tMs p sh) 25 - 1) = 2 ^ cnt p 25 - 1 := by
  refine Nat.eq_of_testBit_eq (fun i => ?_)
  unfold emb
  rw [ft_bs_t, Nat.testBit_two_pow_sub_one, Nat.testBit_two_pow_sub_one]
  by_cases hi : i < cnt p 25
  · obtain ⟨w1, w2, w3⟩ := wat_p 25 hi
    rw [decide_eq_true hi, Bool.true_and]
    cases r : sh (wat p i 25) with
    | true => rfl
    | false =>
      have l := cnt_st (p := tMs p sh) (y := 25) (tMs_0 w1 r) w2
      rw [decide_eq_true l]; rfl
  · rw [decide_eq_false hi]; rfl
theorem emb_inj {p sh : Nat → Bool} {s : Nat} (hs : s < 2 ^ cnt (tMs p sh) 25) (h : emb p sh s = 2 ^ cnt p 25 - 1) : s = 2 ^ cnt (tMs p sh) 25 - 1 := by
  refine Nat.eq_of_testBit_eq (fun j => ?_)
  rw [Nat.testBit_two_pow_sub_one]
  by_cases hj : j < cnt (tMs p sh) 25
  · obtain ⟨w1, w2, w3⟩ := wat_p 25 hj
    obtain ⟨p1, p2⟩ := tMs_1 w1
    have l := cnt_st (p := p) (y := 25) p1 w2
    have e : (emb p sh s).testBit (cnt p (wat (tMs p sh) j 25)) = true := by
      rw [h, Nat.testBit_two_pow_sub_one, decide_eq_true l]
    unfold emb at e
    rw [ft_bs_t, decide_eq_true l, Bool.true_and, wat_c p1 25 w2, p2, Bool.false_or, w3] at e
    rw [e, decide_eq_true hj]
  · rw [decide_eq_false hj, Nat.testBit_lt_two_pow (Nat.lt_of_lt_of_le hs (Nat.pow_le_pow_right (by omega) (by omega)))]
/-- the class's counts out of the reference's -/
def tPb (p sh : Nat → Bool) (D : Nat → Nat) : Nat → Nat := fun a => if a / 25 < 2 ^ cnt (tMs p sh) 25 then D (nR (a % 25) (emb p sh (a / 25))) else 1000000
theorem tPb_n {p sh : Nat → Bool} {D : Nat → Nat} {c s : Nat} (hc : c < 25) (hs : s < 2 ^ cnt (tMs p sh) 25) : tPb p sh D (nC c s) = D (nR c (emb p sh s)) := by
  unfold tPb
  have e1 : nC c s / 25 = s := by unfold nC; omega
  have e2 : nC c s % 25 = c := by unfold nC; omega
  rw [e1, e2, if_pos hs]
theorem tPb_D {p sh : Nat → Bool} {vis : Nat → Nat → Bool} (hp : cnt p 25 ≤ 6) {pr : Nat → Nat → Nat} {D : Nat → Nat} (hD : tD nR (cnt p 25) (tSn p vis) pr D) : tD nC (cnt (tMs p sh) 25) (tSn (tMs p sh) vis) pr (tPb p sh D) := by
  have hm := tMs_le p sh
  have k := tSn_ok (vis := vis) hp
  have k' := tSn_ok (p := tMs p sh) (vis := vis) (by omega)
  have p6 := pw6 hp
  have m6 := pw6 (n := cnt (tMs p sh) 25) (by omega)
  have el := fun s => emb_lt p sh s
  have key : ∀ a, a < 1600 → a / 25 < 2 ^ cnt (tMs p sh) 25 → ∃ c s, c < 25 ∧ s < 2 ^ cnt (tMs p sh) 25 ∧ a = nC c s := fun a ha h => ⟨a % 25, a / 25, by omega, h, by unfold nC; omega⟩
  refine ⟨⟨fun a ha => ?_, fun a ha hz => ?_, fun a ha => ?_⟩, ?_⟩
  · by_cases q : a / 25 < 2 ^ cnt (tMs p sh) 25
    · obtain ⟨c, s, hc, hs, rfl⟩ := key a ha q
      rw [tPb_n hc hs]
      exact hD.1.1 _ (nR_ok.1 c _ hc (by have := el s; omega))
    · unfold tPb; rw [if_neg q]; exact Nat.le_refl _
  · obtain ⟨c, hc, rfl⟩ := hz
    rw [tPb_n hc (by omega), emb_all]
    exact hD.1.2.1 _ (nR_ok.1 c _ hc (by omega)) ⟨c, hc, rfl⟩
  · by_cases q : a / 25 < 2 ^ cnt (tMs p sh) 25
    · obtain ⟨c, s, hc, hs, rfl⟩ := key a ha q
      rw [tPb_n hc hs]
      rcases hD.1.2.2 _ (nR_ok.1 c (emb p sh s) hc (by have := el s; omega)) with ⟨c', hc', e⟩ | e | ⟨b, w, ⟨c', u', y, t, hc', hu', h1, h2, nb, hp', hw, e1, e2⟩, l⟩
      · left
        obtain ⟨_, e'⟩ := nR_ok.2 _ _ _ _ hc hc' (by have := el s; omega) (by omega) e
        exact ⟨c, hc, by rw [← emb_inj hs e']⟩
      · exact Or.inr (Or.inl e)
      · right; right
        obtain ⟨q1, q2⟩ := nR_ok.2 _ _ _ _ hc hc' (by have := el s; omega) (by omega) e1
        subst q1 q2
        have ht := ft_nb_lt hc nb
        refine ⟨nC t (s ||| tSn (tMs p sh) vis t), w, ⟨c, s, y, t, hc, hs, h1, h2, nb, hp', hw, rfl, rfl⟩, ?_⟩
        rw [tPb_n ht (k'.or hs t), emb_or, ← e2]
        exact l
    · right; left
      unfold tPb; rw [if_neg q]
  · rintro a b w ⟨c, s, y, t, hc, hs, h1, h2, nb, hp', hw, e1, e2⟩
    have ht := ft_nb_lt hc nb
    rw [e1, e2, tPb_n hc hs, tPb_n ht (k'.or hs t), emb_or]
    exact hD.2 _ _ _ ⟨c, emb p sh s, y, t, hc, el s, h1, h2, nb, hp', hw, rfl, rfl⟩
/-! the next cell of a tour -/
def tNx (nd : Nat → Nat → Nat) (sn : Nat → Nat) (pr : Nat → Nat → Nat) (D : Nat → Nat) (u c : Nat) : Option Nat := wNx pr (va_up (fun t => D (nd t (u ||| sn t))) c (D (nd c u))) c
theorem ft_nb_ne {c y t : Nat} (h1 : 1 ≤ y) (e : ft_nb c y = some t) : t ≠ c := by
  unfold ft_nb at e
  rw [if_neg (by omega)] at e
  repeat' split at e
  all_goals first | (cases e; done) | (have := Option.some.inj e; omega)
theorem wHit_e {pr : Nat → Nat → Nat} {G G' : Nat → Nat} {c y : Nat} (hc : c < 25) (e : ∀ t, t < 25 → G t = G' t) : wHit pr G c y = wHit pr G' c y := by
  unfold wHit
  cases nb : ft_nb c y with
  | none => rfl
  | some t =>
    show decide _ = decide _
    rw [e t (ft_nb_lt hc nb), e c hc]
theorem wNx_e {pr : Nat → Nat → Nat} {G G' : Nat → Nat} {c : Nat} (hc : c < 25) (e : ∀ t, t < 25 → G t = G' t) : wNx pr G c = wNx pr G' c := by
  unfold wNx
  rw [wHit_e hc e, wHit_e hc e, wHit_e hc e, wHit_e hc e]
theorem tNx_pb {p sh : Nat → Bool} {vis : Nat → Nat → Bool} (hp : cnt p 25 ≤ 6) {pr : Nat → Nat → Nat} {D : Nat → Nat} {c s : Nat} (hc : c < 25) (hs : s < 2 ^ cnt (tMs p sh) 25) : tNx nC (tSn (tMs p sh) vis) pr (tPb p sh D) s c = tNx nR (tSn p vis) pr D (emb p sh s) c := by
  have k' := tSn_ok (p := tMs p sh) (vis := vis) (by have := tMs_le p sh; omega)
  refine wNx_e hc (fun t ht => ?_)
  by_cases e : t = c
  · rw [e, va_e, va_e, tPb_n hc hs]
  · rw [va_n e, va_n e]
    show tPb p sh D (nC t (s ||| tSn (tMs p sh) vis t)) = D (nR t (emb p sh s ||| tSn p vis t))
    rw [tPb_n ht (k'.or hs t), emb_or]
theorem tNx_t {nd : Nat → Nat → Nat} {sn : Nat → Nat} {pr : Nat → Nat → Nat} {D : Nat → Nat} {u c t : Nat} (h : tNx nd sn pr D u c = some t) : ∃ y, 1 ≤ y ∧ y ≤ 4 ∧ ft_nb c y = some t ∧ 0 < pr c y ∧ pr c y + D (nd t (u ||| sn t)) = D (nd c u) := by
  obtain ⟨y, h1, h2, e, p, q⟩ := wNx_t h
  rw [va_e, va_n (ft_nb_ne h1 e)] at q
  exact ⟨y, h1, h2, e, p, q⟩
theorem nx4_ex {v : Nat} {b1 b2 b3 b4 : Bool} (h1 : b1 = true → (ft_nb v 1).isSome = true) (h2 : b2 = true → (ft_nb v 2).isSome = true) (h3 : b3 = true → (ft_nb v 3).isSome = true) (h4 : b4 = true → (ft_nb v 4).isSome = true) (h : b1 = true ∨ b2 = true ∨ b3 = true ∨ b4 = true) : ∃ t, nx4 v b1 b2 b3 b4 = some t := by
  unfold nx4
  cases b3 with
  | true => exact Option.isSome_iff_exists.mp (h3 rfl)
  | false =>
    cases b4 with
    | true => exact Option.isSome_iff_exists.mp (h4 rfl)
    | false =>
      cases b2 with
      | true => exact Option.isSome_iff_exists.mp (h2 rfl)
      | false =>
        cases b1 with
        | true => exact Option.isSome_iff_exists.mp (h1 rfl)
        | false => rcases h with h | h | h | h <;> cases h
/-- a tour that can be gone and isn't done goes on -/
theorem tNx_ex {nd : Nat → Nat → Nat} (h : nOk nd) {n : Nat} {sn : Nat → Nat} (k : tOk n sn) {pr : Nat → Nat → Nat} {D : Nat → Nat} (hD : tD nd n sn pr D) {u c : Nat} (hc : c < 25) (hu : u < 2 ^ n) (nz : u ≠ 2 ^ n - 1) (far : D (nd c u) < 1000000) : ∃ t, tNx nd sn pr D u c = some t := by
  have p := (pw6 k.1).1
  rcases hD.1.2.2 _ (h.1 c u hc (by omega)) with ⟨c', hc', e⟩ | e | ⟨b, w, ed, l⟩
  · obtain ⟨_, e'⟩ := h.2 _ _ _ _ hc hc' (by omega) (by omega) e
    exact absurd e' nz
  · omega
  · have l2 := hD.2 _ _ _ ed
    obtain ⟨c', u', y, t, hc', hu', h1, h2, nb, hp', hw, e1, e2⟩ := ed
    obtain ⟨q1, q2⟩ := h.2 _ _ _ _ hc hc' (by omega) (by omega) e1
    subst q1 q2
    have hit : wHit pr (va_up (fun t => D (nd t (u ||| sn t))) c (D (nd c u))) c y = true := wHit_1 nb ⟨hp', by
      rw [va_e, va_n (ft_nb_ne h1 nb)]
      show pr c y + D (nd t (u ||| sn t)) = D (nd c u)
      rw [e2, hw] at l l2
      omega⟩
    refine nx4_ex wHit_s wHit_s wHit_s wHit_s ?_
    obtain rfl | rfl | rfl | rfl : y = 1 ∨ y = 2 ∨ y = 3 ∨ y = 4 := by omega
    · exact Or.inl hit
    · exact Or.inr (Or.inl hit)
    · exact Or.inr (Or.inr (Or.inl hit))
    · exact Or.inr (Or.inr (Or.inr hit))
theorem tD_0 {nd : Nat → Nat → Nat} (h : nOk nd) {n : Nat} {sn : Nat → Nat} (k : tOk n sn) {pr : Nat → Nat → Nat} {D : Nat → Nat} (hD : tD nd n sn pr D) {u c : Nat} (hc : c < 25) (hu : u < 2 ^ n) : D (nd c u) = 0 ↔ u = 2 ^ n - 1 := by
  have p := (pw6 k.1).1
  constructor
  · intro z
    rcases hD.1.2.2 _ (h.1 c u hc (by omega)) with ⟨c', hc', e⟩ | e | ⟨b, w, ed, l⟩
    · exact (h.2 _ _ _ _ hc hc' (by omega) (by omega) e).2
    · omega
    · have := (tEg_ok h k pr _ _ _ ed).2.2
      omega
  · intro e
    exact hD.1.2.1 _ (h.1 c u hc (by omega)) ⟨c, hc, by rw [e]⟩
/-- the tour told, from the set s at the cell c -/
def tIt (sn : Nat → Nat) (pr : Nat → Nat → Nat) (D : Nat → Nat) (al : Nat) : Nat → Nat → Option Nat → Option Nat
  | 0, _, o => o
  | _ + 1, _, none => none
  | n + 1, s, some c => if s = al then none else match tNx nC sn pr D s c with
    | none => none
    | some t => tIt sn pr D al n (s ||| sn t) (some t)
theorem tIt_n (sn : Nat → Nat) (pr : Nat → Nat → Nat) (D : Nat → Nat) (al : Nat) (s : Nat) : ∀ n, tIt sn pr D al n s none = none
  | 0 => rfl
  | _ + 1 => rfl
theorem tIt_z {sn : Nat → Nat} {pr : Nat → Nat → Nat} {D : Nat → Nat} {al : Nat} (n c : Nat) : tIt sn pr D al (n + 1) al (some c) = none := if_pos rfl
theorem tIt_s {sn : Nat → Nat} {pr : Nat → Nat → Nat} {D : Nat → Nat} {al s c t : Nat} (n : Nat) (h : s ≠ al) (e : tNx nC sn pr D s c = some t) : tIt sn pr D al (n + 1) s (some c) = tIt sn pr D al n (s ||| sn t) (some t) := by
  show (if _ then _ else _) = _
  rw [if_neg h, e]
def tLo (D : Nat → Nat) (a : Nat) : Nat := cnt (fun b => decide (D b < D a)) 1600
theorem cnt_all : ∀ m, cnt (fun _ => true) m = m
  | 0 => rfl
  | m + 1 => by rw [cnt_s, cnt_all m]; rfl
theorem tLo_lt {D : Nat → Nat} {v : Nat} (hv : v < 1600) : tLo D v < 1600 := by
  have h1 : tLo D v < cnt (fun _ => true) 1600 := cnt_ls (c := v) rfl (decide_eq_false (Nat.lt_irrefl _)) 1600 hv (fun _ _ _ => rfl)
  rw [cnt_all] at h1
  exact h1
theorem tLo_fall {D : Nat → Nat} {v t : Nat} (ht : t < 1600) (l : D t < D v) : tLo D t < tLo D v := by
  unfold tLo
  refine cnt_ls (c := t) ?_ ?_ 1600 ht (fun i _ q => ?_)
  · show decide (D t < D v) = true
    exact decide_eq_true l
  · show decide (D t < D t) = false
    exact decide_eq_false (Nat.lt_irrefl _)
  · have q' : decide (D i < D t) = true := q
    have := of_decide_eq_true q'
    show decide (D i < D v) = true
    exact decide_eq_true (by omega)
