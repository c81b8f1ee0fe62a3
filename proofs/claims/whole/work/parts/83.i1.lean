/-! ONE STATE, HELD BY THE REFERENCE AND BY THE CLASS -/
/-- a row that can be gone back to, what was done, one more than who did it, one more than who else -/
abbrev Ue : Type := (Nat → Nat) × Nat × Nat × Nat
/-- status, refused, blots, fault, stopped -/
abbrev Sc : Type := Int32 × (Nat → Int32) × Int32 × Int32 × Int32
def MIm (h : jH) (im : Nat → Option (Nat → Nat)) : Prop := ∀ x, x < 2 → j_I h 89 x = nI (ft_z (im x).isSome) ∧ ∀ kk, im x = some kk → (∀ i, i < 5788 → i ≠ 180 → j_I h 88 (5788 * x + i) = nI (kk i)) ∧ j_I h 88 (5788 * x + 180) = nI (kk 180) - nI 1
def MU (h : jH) (u : List Ue) : Prop := j_I h 85 31 = nI u.length ∧ u.length ≤ 16 ∧ ∀ j e, u[j]? = some e → (∀ i, i < 105 → j_I h 98 (106 * j + i) = nI (e.1 i)) ∧ j_I h 98 (106 * j + 105) = nI e.2.1
def MT (h : jH) (tp : Nat → Nat) (tl : Nat) : Prop := TQ h tp tl ∧ j_I h 85 13 = nI tl
def MS (h : jH) (sc : Sc) : Prop := j_I h 85 0 = sc.1 ∧ (∀ q, q < 7 → j_I h 86 q = sc.2.1 q) ∧ j_I h 85 6 = sc.2.2.1 ∧ j_I h 85 14 = sc.2.2.2.1 ∧ j_I h 85 42 = sc.2.2.2.2
def MD (h : jH) (kd : Nat → Nat) : Prop := (j_I h 85 50 = nI (kd 177) ∨ (kd 177 = 0 ∧ j_I h 85 50 = mI 0)) ∧ (∀ i, i < 105 → j_I h 110 i = nI (kd i)) ∧ kd 177 ≤ 4 ∧ ∀ i, i < 105 → kd i < 33554432
def MI (h : jH) (k : Nat → Nat) (im : Nat → Option (Nat → Nat)) (u : List Ue) (tp : Nat → Nat) (tl : Nat) (sc : Sc) (kd : Nat → Nat) : Prop := ShM h ∧ WM h ∧ SB h ∧ KM h k ∧ MIm h im ∧ MU h u ∧ MT h tp tl ∧ MS h sc ∧ MD h kd
/-- a text behind all standing cells, clear of the images -/
def FT (h : jH) (t : Nat) : Prop := 110 < t ∧ t + 6 < j_c h ∧ ∀ x g, j_R h 41 x = some g → t + 6 < g ∨ g + 11 < t
def LW (h : jH) (o : Nat) (k : Nat → Nat) : Prop := (∀ j, j < k 179 → ∃ t, j_R h (o + 11) j = some t ∧ TX h t false (kC k j)) ∧ ∀ j t, j_R h (o + 11) j = some t → FT h t ∧ j_k h t = 15
def LL (h : jH) (o : Nat) (k : Nat → Nat) : Prop := LA h o ∧ LI h o k ∧ LW h o k
def CIm (h : jH) (im : Nat → Option (Nat → Nat)) : Prop := (∀ x, j_R h 41 x = none ↔ im x = none) ∧ (∀ x g kk, j_R h 41 x = some g → im x = some kk → 110 < g ∧ g + 11 < j_c h ∧ LL h g kk) ∧ ∀ x y g g', x ≠ y → j_R h 41 x = some g → j_R h 41 y = some g' → g + 11 < g' ∨ g' + 11 < g
def CE (h : jH) (d p : Nat) (e : Ue) : Prop := j_I h (d + 1) p = nI e.2.1 ∧ j_I h (d + 2) p = iV e.2.2.1 ∧ j_I h (d + 6) p = iV e.2.2.2 ∧ (∀ w, e.2.2.1 = w + 1 → j_I h (d + 3) p = nI (e.1 w) ∧ j_I h (d + 4) p = nI (ft_bs (ft_sh e.1 w) 25) ∧ j_J h (d + 5) p = lN (mrk e.1 w)) ∧ ∀ w, e.2.2.2 = w + 1 → j_I h (d + 7) p = nI (ft_bs (ft_sh e.1 w) 25) ∧ j_J h (d + 8) p = lN (mrk e.1 w)
def CU (h : jH) (d : Nat) (u : List Ue) : Prop := j_I h d 9 = nI u.length ∧ u.length ≤ 16 ∧ ∃ s, s < 16 ∧ j_I h d 8 = nI ((s + u.length) % 16) ∧ ∀ j e, u[j]? = some e → CE h d ((s + j) % 16) e
def CS (h : jH) (sc : Sc) : Prop := j_I h 4 13 = sc.1 ∧ (∀ q, q < 7 → j_I h 84 q = sc.2.1 q) ∧ j_I h 4 15 = sc.2.2.1 ∧ j_I h 60 2 = sc.2.2.2.1 ∧ j_I h 4 14 = sc.2.2.2.2
def CD (h : jH) (kd : Nat → Nat) : Prop := j_I h 17 2 = nI (kd 177) ∧ kd 177 ≤ 4 ∧ ∀ w, w < kd 177 → j_I h 20 w = nI (kd w) ∧ j_I h 23 w = nI (ft_bs (ft_sh kd w) 25)
/-- the two tables -/
def CT0 (h : jH) : Prop := (j_k h 0 = 6 ∧ j_n h 0 = 3 ∧ j_k h 1 = 6 ∧ j_n h 1 = 4) ∧ (j_I h 0 0 = nI 999 ∧ j_I h 0 1 = nI 10 ∧ j_I h 0 2 = nI 9) ∧ j_I h 1 0 = nI 3 ∧ j_I h 1 1 = nI 4 ∧ j_I h 1 2 = nI 2 ∧ j_I h 1 3 = nI 1
theorem CT0.fr {D E : Nat → Nat → Prop} {h h' : jH} (T : CT0 h) (x : jX D E h h') (d : ∀ a i, a < 2 → ¬ D a i) : CT0 h' := by
  unfold CT0 at T ⊢
  simp only [x.k, x.n, x.I (d 0 _ (by omega)), x.I (d 1 _ (by omega))]
  exact T
def CI (h : jH) (k : Nat → Nat) (im : Nat → Option (Nat → Nat)) (u : List Ue) (tp : Nat → Nat) (tl : Nat) (sc : Sc) (kd : Nat → Nat) : Prop := ShF h ∧ 110 < j_c h ∧ LL h 5 k ∧ CIm h im ∧ CU h 42 u ∧ TP h tp tl ∧ CS h sc ∧ CD h kd ∧ CT0 h
/-- what an entry may have touched of the moved part -/
def tch (e : Ue) (i : Nat) : Prop := (∃ w, e.2.2.1 = w + 1 ∧ (i = w ∨ (4 + 25 * w ≤ i ∧ i < 4 + 25 * w + 25))) ∨ (∃ w, e.2.2.2 = w + 1 ∧ 4 + 25 * w ≤ i ∧ i < 4 + 25 * w + 25) ∨ (e.2.1 = 3 ∧ i = 104)
/-- from an entry to what was next -/
def UE1 (e : Ue) (k : Nat → Nat) (n : Nat) : Prop := (∀ i, i < 105 → ¬ tch e i → k i = e.1 i) ∧ (e.2.1 = 3 → k 104 = e.1 104 + 1) ∧ e.2.1 ≤ 3 ∧ e.2.2.1 ≤ n ∧ e.2.2.2 ≤ n ∧ (∀ w, w < 4 → e.1 w < 25) ∧ (∀ i, i < 100 → e.1 (4 + i) ≤ 4) ∧ e.1 104 ≤ 999
def UC (n : Nat) (k : Nat → Nat) : List Ue → Prop
  | [] => True
  | e :: u => UE1 e (match u with | [] => k | e' :: _ => e'.1) n ∧ UC n k u
def WS (k : Nat → Nat) (im : Nat → Option (Nat → Nat)) (u : List Ue) : Prop := WK k ∧ (∀ x kk, im x = some kk → WK kk) ∧ UC (k 177) k u
/-- what the reference may change -/
def dMM : Nat → Nat → Prop := fun a _ => 85 ≤ a ∧ a ≤ 110
/-- what the class leaves -/
def jY (h h' : jH) : Prop := (∀ a, a < j_c h → j_k h' a = j_k h a ∧ j_n h' a = j_n h a) ∧ (∀ a i, (a = 2 ∨ 85 ≤ a) → a ≤ 110 → j_I h' a i = j_I h a i ∧ j_J h' a i = j_J h a i ∧ j_R h' a i = j_R h a i) ∧ j_c h ≤ j_c h' ∧ j_c h' ≤ j_c h + 12 ∧ j_z h' ≤ j_z h + 700
theorem jY.of {D E : Nat → Nat → Prop} {h h' : jH} (x : jX D E h h') (d : ∀ a i, D a i → (2 < a ∧ a < 85) ∨ 110 < a) (e : ∀ a i, E a i → (2 < a ∧ a < 85) ∨ 110 < a) : jY h h' :=
  ⟨fun a _ => ⟨x.k a, x.n a⟩, fun a i h1 h2 => ⟨x.I (fun z => by have := d a i z; omega), x.J (fun z => by have := d a i z; omega), x.R (fun z => by have := e a i z; omega)⟩, by rw [x.2.1]; omega, by rw [x.2.1]; omega, by rw [x.2.2.1]; omega⟩
theorem MI.frY {h h' : jH} {k : Nat → Nat} {im : Nat → Option (Nat → Nat)} {u : List Ue} {tp : Nat → Nat} {tl : Nat} {sc : Sc} {kd : Nat → Nat} (M : MI h k im u tp tl sc kd) (c : 110 < j_c h) (y : jY h h') : MI h' k im u tp tl sc kd := by
  have yk : ∀ a, a < j_c h → j_k h' a = j_k h a := fun a ha => (y.1 a ha).1
  have yn : ∀ a, a < j_c h → j_n h' a = j_n h a := fun a ha => (y.1 a ha).2
  have yI : ∀ a i, 85 ≤ a → a ≤ 110 → j_I h' a i = j_I h a i := fun a i h1 h2 => (y.2.1 a i (Or.inr h1) h2).1
  have yJ : ∀ a i, 85 ≤ a → a ≤ 110 → j_J h' a i = j_J h a i := fun a i h1 h2 => (y.2.1 a i (Or.inr h1) h2).2.1
  have yR : ∀ a i, 85 ≤ a → a ≤ 110 → j_R h' a i = j_R h a i := fun a i h1 h2 => (y.2.1 a i (Or.inr h1) h2).2.2
  obtain ⟨m1, m2, m3, m4, m5, m6, m7, m8, m9⟩ := M
  refine ⟨?_, ?_, ?_, ?_, ?_, ?_, ?_, ?_, ?_⟩
  · unfold ShM at m1 ⊢
    simp (disch := omega) only [yk, yn, yR]
    exact m1
  · unfold WM at m2 ⊢
    simp (disch := omega) only [yI]
    exact m2
  · unfold SB at m3 ⊢
    simp (disch := omega) only [yI]
    exact m3
  · unfold KM at m4 ⊢
    simp (disch := omega) only [yI]
    exact m4
  · unfold MIm at m5 ⊢
    simp (disch := omega) only [yI]
    exact m5
  · unfold MU at m6 ⊢
    simp (disch := omega) only [yI]
    exact m6
  · unfold MT TQ at m7 ⊢
    simp (disch := omega) only [yI]
    exact m7
  · unfold MS at m8 ⊢
    simp (disch := omega) only [yI]
    exact m8
  · unfold MD at m9 ⊢
    simp (disch := omega) only [yI]
    exact m9
theorem FT.fr {D E : Nat → Nat → Prop} {h h' : jH} {t : Nat} (f : FT h t) (x : jX D E h h') (e : ∀ i, ¬ E 41 i) : FT h' t := ⟨f.1, by rw [x.2.1]; exact f.2.1, fun y g => by rw [x.R (e y)]; exact f.2.2 y g⟩
/-- a land stays where nothing of it, and nothing behind all standing cells, has changed -/
theorem LL.fr {D E : Nat → Nat → Prop} {h h' : jH} {o : Nat} {k : Nat → Nat} (L : LL h o k) (x : jX D E h h') (d : ∀ a i, (o ≤ a ∧ a ≤ o + 10) ∨ 110 < a → ¬ D a i) (e : ∀ a i, a = o ∨ a = o + 11 ∨ a = 41 ∨ 110 < a → ¬ E a i) : LL h' o k := by
  obtain ⟨A, I, W1, W2⟩ := L
  refine ⟨A.fr x (fun i => e o i (Or.inl rfl)), I.fr x (fun j i hj => d _ i (by omega)), fun j hj => ?_, fun j t ht => ?_⟩
  · obtain ⟨t, h1, X⟩ := W1 j hj
    have f := (W2 j t h1).1.1
    exact ⟨t, by rw [x.R (e _ j (by omega))]; exact h1, X.fr x (fun j i _ => d _ i (by omega)) (fun i => e _ i (by omega))⟩
  · rw [x.R (e _ j (by omega))] at ht
    exact ⟨(W2 j t ht).1.fr x (fun i => e _ i (by omega)), by rw [x.k]; exact (W2 j t ht).2⟩
theorem CIm.fr {D E : Nat → Nat → Prop} {h h' : jH} {im : Nat → Option (Nat → Nat)} (C : CIm h im) (x : jX D E h h') (d : ∀ a i, 110 < a → ¬ D a i) (e : ∀ a i, a = 41 ∨ 110 < a → ¬ E a i) : CIm h' im := by
  have r : ∀ i, j_R h' 41 i = j_R h 41 i := fun i => x.R (e 41 i (Or.inl rfl))
  refine ⟨fun y => by rw [r]; exact C.1 y, fun y g kk h1 h2 => ?_, fun y z g g' h0 h1 h2 => ?_⟩
  · rw [r] at h1
    obtain ⟨a1, a2, a3⟩ := C.2.1 y g kk h1 h2
    exact ⟨a1, by rw [x.2.1]; exact a2, a3.fr x (fun a i q => d a i (by omega)) (fun a i q => e a i (by omega))⟩
  · rw [r] at h1 h2
    exact C.2.2 y z g g' h0 h1 h2
theorem CE.fr {D E : Nat → Nat → Prop} {h h' : jH} {d p : Nat} {e : Ue} (C : CE h d p e) (x : jX D E h h') (n : ∀ a i, d ≤ a → a ≤ d + 8 → ¬ D a i) : CE h' d p e := by
  unfold CE at C ⊢
  rw [x.I (n (d + 1) p (by omega) (by omega)), x.I (n (d + 2) p (by omega) (by omega)), x.I (n (d + 3) p (by omega) (by omega)), x.I (n (d + 4) p (by omega) (by omega)), x.J (n (d + 5) p (by omega) (by omega)), x.I (n (d + 6) p (by omega) (by omega)), x.I (n (d + 7) p (by omega) (by omega)), x.J (n (d + 8) p (by omega) (by omega))]
  exact C
theorem CU.fr {D E : Nat → Nat → Prop} {h h' : jH} {d : Nat} {u : List Ue} (C : CU h d u) (x : jX D E h h') (n : ∀ a i, d ≤ a → a ≤ d + 8 → ¬ D a i) : CU h' d u := by
  obtain ⟨c1, c2, s, c3, c4, c5⟩ := C
  exact ⟨by rw [x.I (n d 9 (by omega) (by omega))]; exact c1, c2, s, c3, by rw [x.I (n d 8 (by omega) (by omega))]; exact c4, fun j e q => (c5 j e q).fr x n⟩
theorem TP.fr {D E : Nat → Nat → Prop} {h h' : jH} {tp : Nat → Nat} {tl : Nat} (C : TP h tp tl) (x : jX D E h h') (n1 : ¬ D 60 1) (n2 : ∀ i, ¬ D 61 i) : TP h' tp tl := by
  unfold TP at C ⊢
  simp only [x.I n1, x.I (n2 _)]
  exact C
theorem CD.fr {D E : Nat → Nat → Prop} {h h' : jH} {kd : Nat → Nat} (C : CD h kd) (x : jX D E h h') (n : ∀ a i, 17 ≤ a → a ≤ 28 → ¬ D a i) : CD h' kd := by
  unfold CD at C ⊢
  simp only [x.I (n 17 _ (by omega) (by omega)), x.I (n 20 _ (by omega) (by omega)), x.I (n 23 _ (by omega) (by omega))]
  exact C
theorem CI.frM {h h' : jH} {k : Nat → Nat} {im : Nat → Option (Nat → Nat)} {u : List Ue} {tp : Nat → Nat} {tl : Nat} {sc : Sc} {kd : Nat → Nat} (C : CI h k im u tp tl sc kd) (x : jX dMM jN h h') : CI h' k im u tp tl sc kd := by
  obtain ⟨c1, c2, c3, c4, c5, c6, c7, c8, c9⟩ := C
  have n : ∀ a i, (a < 85 ∨ 110 < a) → ¬ dMM a i := fun a i q z => by unfold dMM at z; omega
  refine ⟨c1.fr x (fun _ _ z => z), by rw [x.2.1]; exact c2, c3.fr x (fun a i q => n a i (by omega)) (fun _ _ _ z => z), c4.fr x (fun a i q => n a i (by omega)) (fun _ _ _ z => z), c5.fr x (fun a i _ _ => n a i (by omega)), c6.fr x (n _ _ (by omega)) (fun i => n _ _ (by omega)), ?_, c8.fr x (fun a i _ _ => n a i (by omega)), c9.fr x (fun a i _ => n a i (by omega))⟩
  unfold CS at c7 ⊢
  simp only [x.I (n 4 _ (by omega)), x.I (n 84 _ (by omega)), x.I (n 60 _ (by omega))]
  exact c7
