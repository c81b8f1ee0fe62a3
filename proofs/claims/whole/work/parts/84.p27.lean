/-! CALL: image -/
theorem LL.cp2 {h h' : jH} {o a : Nat} {k : Nat → Nat} (A0 : LA h o) (V2 : ∀ j t, j_R h (o + 11) j = some t → FT h t ∧ j_k h t = 15) (L : LL h a k) (W : WK k) (x : jX (dO o) (eO o) h h') (I : LI h' o k) (r : ∀ i, i < 6 → j_R h' (o + 11) i = j_R h (a + 11) i) (dis : ∀ j t, j_R h (a + 11) j = some t → t + 6 < o ∨ o + 11 < t) (o41 : o + 11 ≠ 41) : LL h' o k := by
  obtain ⟨A, I', U1, U2⟩ := L
  have bt := W.told
  refine ⟨A0.fr x (fun i z => by unfold eO at z; omega), I, fun j hj => ?_, fun j t ht => ?_⟩
  · obtain ⟨t, h1, X⟩ := U1 j hj
    have ds := dis j t h1
    exact ⟨t, by rw [r j (by omega)]; exact h1, X.fr x (fun j i hj z => by unfold dO at z; omega) (fun i z => by unfold eO at z; omega)⟩
  · by_cases c : j < 6
    · rw [r j c] at ht
      exact ⟨(U2 j t ht).1.fr x (fun i z => by unfold eO at z; omega), by rw [x.k]; exact (U2 j t ht).2⟩
    · rw [x.R (fun z => by unfold eO at z; omega)] at ht
      exact ⟨(V2 j t ht).1.fr x (fun i z => by unfold eO at z; omega), by rw [x.k]; exact (V2 j t ht).2⟩
/-- a land stays where an image is written -/
theorem LL.frG {h h' : jH} {o g x0 : Nat} {k : Nat → Nat} (L : LL h o k) (x : jX (dO g) (eO g) h h') (hg : j_R h 41 x0 = some g) (g1 : 110 < g) (d : o + 11 < g ∨ g + 11 < o) : LL h' o k := by
  obtain ⟨A, I, W1, W2⟩ := L
  have ds : ∀ j t, j_R h (o + 11) j = some t → t + 6 < g ∨ g + 11 < t := fun j t q => (W2 j t q).1.2.2 x0 g hg
  refine ⟨A.fr x (fun i z => by unfold eO at z; omega), I.fr x (fun j i hj z => by unfold dO at z; omega), fun j hj => ?_, fun j t ht => ?_⟩
  · obtain ⟨t, h1, X⟩ := W1 j hj
    have q := ds j t h1
    exact ⟨t, by rw [x.R (fun z => by unfold eO at z; omega)]; exact h1, X.fr x (fun j i hj z => by unfold dO at z; omega) (fun i z => by unfold eO at z; omega)⟩
  · rw [x.R (fun z => by unfold eO at z; omega)] at ht
    exact ⟨(W2 j t ht).1.fr x (fun i z => by unfold eO at z; omega), by rw [x.k]; exact (W2 j t ht).2⟩
def imU (im : Nat → Option (Nat → Nat)) (x : Nat) (k : Nat → Nat) : Nat → Option (Nat → Nat) := fun y => if y = x then some k else im y
theorem C_img {F : Nat × Nat} (hF : FF F) {h : jH} {k : Nat → Nat} {im : Nat → Option (Nat → Nat)} {u : List Ue} {tp : Nat → Nat} {tl : Nat} {sc : Sc} {kd : Nat → Nat} (W : WK k) (S : ShF h) (cA : 110 < j_c h) (L5 : LL h 5 k) {g x : Nat} (Ag : LA h g) (g1 : 110 < g) (g2 : g + 11 < j_c h) (hg : j_R h 41 x = some g) (Vg : ∀ j t, j_R h (g + 11) j = some t → FT h t ∧ j_k h t = 15) (on : ∀ y, y ≠ x → (j_R h 41 y = none ↔ im y = none)) (ol : ∀ y g' kk, y ≠ x → j_R h 41 y = some g' → im y = some kk → 110 < g' ∧ g' + 11 < j_c h ∧ LL h g' kk) (od : ∀ y z a b, y ≠ z → j_R h 41 y = some a → j_R h 41 z = some b → a + 11 < b ∨ b + 11 < a) (c5 : CU h 42 u) (c6 : TP h tp tl) (c7 : CS h sc) (c8 : CD h kd) (c9 : CT0 h) : ∃ h', m_L_copyFrom F g 5 h = some (none, h') ∧ CI h' k (imU im x k) u tp tl sc kd ∧ jX (dO g) (eO g) h h' := by
  obtain ⟨h', e, xx, I, r⟩ := U_copy (F := F) hF Ag L5.1 L5.2.1 W (Or.inr (by omega)) (fun t i q => (L5.2.2.2 i t q).2)
  have Lg : LL h' g k := LL.cp2 Ag Vg L5 W xx I r (fun j t q => (L5.2.2.2 j t q).1.2.2 x g hg) (by omega)
  have r41 : ∀ i, j_R h' 41 i = j_R h 41 i := fun i => xx.R (fun z => by unfold eO at z; omega)
  refine ⟨h', e, ⟨S.fr2 xx (fun a i z => by unfold eO at z; omega), by rw [xx.2.1]; exact cA, L5.frG xx hg g1 (Or.inl (by omega)), ⟨fun y => ?_, fun y g' kk h1 h2 => ?_, fun y z a b h0 h1 h2 => ?_⟩, c5.fr xx (fun a i q1 q2 z => by unfold dO at z; omega), c6.fr xx (fun z => by unfold dO at z; omega) (fun i z => by unfold dO at z; omega), ?_, c8.fr xx (fun a i q1 q2 z => by unfold dO at z; omega), c9.fr xx (fun a i q z => by unfold dO at z; omega)⟩, xx⟩
  · rw [r41]
    unfold imU
    by_cases q : y = x
    · rw [if_pos q, q, hg]; constructor <;> (intro z; cases z)
    · rw [if_neg q]; exact on y q
  · rw [r41] at h1
    unfold imU at h2
    by_cases q : y = x
    · rw [if_pos q] at h2
      injection h2 with h2
      subst h2
      rw [q, hg] at h1
      injection h1 with h1
      subst h1
      exact ⟨g1, by rw [xx.2.1]; exact g2, Lg⟩
    · rw [if_neg q] at h2
      obtain ⟨a1, a2, a3⟩ := ol y g' kk q h1 h2
      have d := od y x g' g q h1 hg
      exact ⟨a1, by rw [xx.2.1]; exact a2, a3.frG xx hg g1 d⟩
  · rw [r41] at h1 h2
    exact od y z a b h0 h1 h2
  · have n : ∀ a i, (a = 4 ∨ a = 84 ∨ a = 60) → j_I h' a i = j_I h a i := fun a i q => xx.I (fun z => by unfold dO at z; omega)
    unfold CS at c7 ⊢
    simp (disch := omega) only [n]
    exact c7
/-- a land is laid as far as its s-th array -/
def lnF (r : Nat) : Nat := if r < 2 then r else if r < 7 then r + 1 else r + 2
def lnK (r : Nat) : Nat := if r = 6 then 1 else if r = 10 then 4 else 0
def lnN (r : Nat) : Nat := if r < 2 then 25 else if r < 7 then 4 else if r = 9 then 3 else 6
def NS (h hs : jH) (s : Nat) : Prop := jB h hs ∧ j_c hs = j_c h + 1 + s ∧ j_k hs (j_c h) = 12 ∧ (∀ r, r < s → j_R hs (j_c h) (lnF r) = some (j_c h + 1 + r) ∧ j_k hs (j_c h + 1 + r) = lnK r ∧ j_n hs (j_c h + 1 + r) = lnN r) ∧ j_z hs ≤ j_z h + 15 + 25 * s ∧ ∀ r i, r < s → j_R hs (j_c h + 1 + r) i = none
theorem lnF_inj {a b : Nat} (h : a ≠ b) : lnF a ≠ lnF b := by
  unfold lnF
  split <;> split <;> (try split) <;> (try split) <;> omega
theorem NS.sI {h hs : jH} {s i : Nat} {v : Int32} (N : NS h hs s) : NS h (j_sI hs (j_c h) i v) s := ⟨N.1.sI (Nat.le_refl _), N.2.1, N.2.2.1, N.2.2.2.1, N.2.2.2.2.1, N.2.2.2.2.2⟩
theorem NS.step {h hs : jH} {s : Nat} (N : NS h hs s) (hs11 : s < 11) : NS h (j_sR (j_new hs (lnK s) (lnN s)) (j_c h) (lnF s) (some (j_c hs))) (s + 1) := by
  obtain ⟨n1, n2, n3, n4, n5, n6⟩ := N
  have B := jB.new hs (lnK s) (lnN s)
  have bt := B.2 (j_c h) (by omega)
  have ln : lnN s ≤ 25 := by unfold lnN; split <;> (try split) <;> (try split) <;> omega
  refine ⟨(n1.tr B).sR (Nat.le_refl _), by show j_c hs + 1 = _; omega, by rw [k_sR, bt.1.1]; exact n3, fun r hr => ?_, by show j_z hs + lnN s ≤ _; omega, fun r i hr => ?_⟩
  · by_cases q : r = s
    · subst q
      refine ⟨by rw [R_sRe, n2], ?_, ?_⟩
      · rw [k_sR, ← n2]; exact new_k hs _ _
      · rw [n_sR, ← n2]; exact new_n hs _ _
    · have br := B.2 (j_c h + 1 + r) (by omega)
      obtain ⟨v1, v2, v3⟩ := n4 r (by omega)
      refine ⟨by rw [R_sRk (lnF_inj q), (bt.2 _).2.2]; exact v1, by rw [k_sR, br.1.1]; exact v2, by rw [n_sR, br.1.2]; exact v3⟩
  · rw [R_sRn (by omega)]
    by_cases q : r = s
    · subst q
      rw [← n2]
      exact congrFun (va_up3 (f := hs.2.2.2.1)) i
    · rw [((B.2 (j_c h + 1 + r) (by omega)).2 i).2.2]; exact n6 r i (by omega)
theorem NS.k12 {h hs : jH} {s : Nat} (N : NS h hs s) (q n : Nat) : j_k (j_new hs q n) (j_c h) = 12 := by
  rw [((jB.new hs q n).2 (j_c h) (by have := N.2.1; omega)).1.1]; exact N.2.2.1
theorem L_new {F : Nat × Nat} {h : jH} : ∃ h', m_L_new F (j_c h) (j_new h 12 15) = some (none, h') ∧ (jB h h' ∧ j_c h' = j_c h + 12 ∧ j_z h' ≤ j_z h + 290 ∧ LA h' (j_c h) ∧ ∀ i, j_R h' (j_c h + 11) i = none) := by
  have N0 : NS h (j_new h 12 15) 0 := ⟨jB.new h 12 15, rfl, new_k h 12 15, fun r hr => absurd hr (by omega), Nat.le_refl _, fun r i hr => absurd hr (by omega)⟩
  have c25 : (nI 25).toNatClampNeg = 25 := ft_cl (by omega)
  have c4 : (nI 4).toNatClampNeg = 4 := ft_cl (by omega)
  have c6 : (nI 6).toNatClampNeg = 6 := ft_cl (by omega)
  have c3 : (nI 3).toNatClampNeg = 3 := ft_cl (by omega)
  rw [q_L_new]
  simp (config := { zeta := false }) only [c25, c4, c6, c3]
  generalize hH0 : j_new h 12 15 = H0 at N0 ⊢
  rw [if_pos (show ¬ (nI 25) < 0 ∧ 25 ≤ 50000 from ⟨by decide, by decide⟩)]
  show ∃ h', (if j_k (j_new H0 0 25) (j_c h) = 12 then _ else _) = some (none, h') ∧ _
  rw [if_pos (N0.k12 0 25)]
  have N1 : NS h (j_sR (j_new H0 0 25) (j_c h) 0 (some (j_c H0))) 1 := N0.step (by omega)
  show ∃ h', (if ¬ (nI 25) < 0 ∧ 25 ≤ 50000 then _ else _) = some (none, h') ∧ _
  generalize hH1 : j_sR (j_new H0 0 25) (j_c h) 0 (some (j_c H0)) = H1 at N1 ⊢
  rw [if_pos (show ¬ (nI 25) < 0 ∧ 25 ≤ 50000 from ⟨by decide, by decide⟩)]
  show ∃ h', (if j_k (j_new H1 0 25) (j_c h) = 12 then _ else _) = some (none, h') ∧ _
  rw [if_pos (N1.k12 0 25)]
  have N2 : NS h (j_sR (j_new H1 0 25) (j_c h) 1 (some (j_c H1))) 2 := N1.step (by omega)
  show ∃ h', (if j_k (j_sR (j_new H1 0 25) (j_c h) 1 (some (j_c H1))) (j_c h) = 12 then _ else _) = some (none, h') ∧ _
  generalize hH2 : j_sR (j_new H1 0 25) (j_c h) 1 (some (j_c H1)) = H2 at N2 ⊢
  rw [if_pos N2.2.2.1]
  have N3 : NS h (j_sI H2 (j_c h) 2 (nI 0)) 2 := N2.sI
  show ∃ h', (if ¬ (nI 4) < 0 ∧ 4 ≤ 50000 then _ else _) = some (none, h') ∧ _
  generalize hH3 : j_sI H2 (j_c h) 2 (nI 0) = H3 at N3 ⊢
  rw [if_pos (show ¬ (nI 4) < 0 ∧ 4 ≤ 50000 from ⟨by decide, by decide⟩)]
  show ∃ h', (if j_k (j_new H3 0 4) (j_c h) = 12 then _ else _) = some (none, h') ∧ _
  rw [if_pos (N3.k12 0 4)]
  have N4 : NS h (j_sR (j_new H3 0 4) (j_c h) 3 (some (j_c H3))) 3 := N3.step (by omega)
  show ∃ h', (if ¬ (nI 4) < 0 ∧ 4 ≤ 50000 then _ else _) = some (none, h') ∧ _
  generalize hH4 : j_sR (j_new H3 0 4) (j_c h) 3 (some (j_c H3)) = H4 at N4 ⊢
  rw [if_pos (show ¬ (nI 4) < 0 ∧ 4 ≤ 50000 from ⟨by decide, by decide⟩)]
  show ∃ h', (if j_k (j_new H4 0 4) (j_c h) = 12 then _ else _) = some (none, h') ∧ _
  rw [if_pos (N4.k12 0 4)]
  have N5 : NS h (j_sR (j_new H4 0 4) (j_c h) 4 (some (j_c H4))) 4 := N4.step (by omega)
  show ∃ h', (if ¬ (nI 4) < 0 ∧ 4 ≤ 50000 then _ else _) = some (none, h') ∧ _
  generalize hH5 : j_sR (j_new H4 0 4) (j_c h) 4 (some (j_c H4)) = H5 at N5 ⊢
  rw [if_pos (show ¬ (nI 4) < 0 ∧ 4 ≤ 50000 from ⟨by decide, by decide⟩)]
  show ∃ h', (if j_k (j_new H5 0 4) (j_c h) = 12 then _ else _) = some (none, h') ∧ _
  rw [if_pos (N5.k12 0 4)]
  have N6 : NS h (j_sR (j_new H5 0 4) (j_c h) 5 (some (j_c H5))) 5 := N5.step (by omega)
  show ∃ h', (if ¬ (nI 4) < 0 ∧ 4 ≤ 50000 then _ else _) = some (none, h') ∧ _
  generalize hH6 : j_sR (j_new H5 0 4) (j_c h) 5 (some (j_c H5)) = H6 at N6 ⊢
  rw [if_pos (show ¬ (nI 4) < 0 ∧ 4 ≤ 50000 from ⟨by decide, by decide⟩)]
  show ∃ h', (if j_k (j_new H6 0 4) (j_c h) = 12 then _ else _) = some (none, h') ∧ _
  rw [if_pos (N6.k12 0 4)]
  have N7 : NS h (j_sR (j_new H6 0 4) (j_c h) 6 (some (j_c H6))) 6 := N6.step (by omega)
  show ∃ h', (if ¬ (nI 4) < 0 ∧ 4 ≤ 50000 then _ else _) = some (none, h') ∧ _
  generalize hH7 : j_sR (j_new H6 0 4) (j_c h) 6 (some (j_c H6)) = H7 at N7 ⊢
  rw [if_pos (show ¬ (nI 4) < 0 ∧ 4 ≤ 50000 from ⟨by decide, by decide⟩)]
  show ∃ h', (if j_k (j_new H7 1 4) (j_c h) = 12 then _ else _) = some (none, h') ∧ _
  rw [if_pos (N7.k12 1 4)]
  have N8 : NS h (j_sR (j_new H7 1 4) (j_c h) 7 (some (j_c H7))) 7 := N7.step (by omega)
  show ∃ h', (if j_k (j_sR (j_new H7 1 4) (j_c h) 7 (some (j_c H7))) (j_c h) = 12 then _ else _) = some (none, h') ∧ _
  generalize hH8 : j_sR (j_new H7 1 4) (j_c h) 7 (some (j_c H7)) = H8 at N8 ⊢
  rw [if_pos N8.2.2.1]
  have N9 : NS h (j_sI H8 (j_c h) 8 (nI 0)) 7 := N8.sI
  show ∃ h', (if ¬ (nI 6) < 0 ∧ 6 ≤ 50000 then _ else _) = some (none, h') ∧ _
  generalize hH9 : j_sI H8 (j_c h) 8 (nI 0) = H9 at N9 ⊢
  rw [if_pos (show ¬ (nI 6) < 0 ∧ 6 ≤ 50000 from ⟨by decide, by decide⟩)]
  show ∃ h', (if j_k (j_new H9 0 6) (j_c h) = 12 then _ else _) = some (none, h') ∧ _
  rw [if_pos (N9.k12 0 6)]
  have N10 : NS h (j_sR (j_new H9 0 6) (j_c h) 9 (some (j_c H9))) 8 := N9.step (by omega)
  show ∃ h', (if ¬ (nI 6) < 0 ∧ 6 ≤ 50000 then _ else _) = some (none, h') ∧ _
  generalize hH10 : j_sR (j_new H9 0 6) (j_c h) 9 (some (j_c H9)) = H10 at N10 ⊢
  rw [if_pos (show ¬ (nI 6) < 0 ∧ 6 ≤ 50000 from ⟨by decide, by decide⟩)]
  show ∃ h', (if j_k (j_new H10 0 6) (j_c h) = 12 then _ else _) = some (none, h') ∧ _
  rw [if_pos (N10.k12 0 6)]
  have N11 : NS h (j_sR (j_new H10 0 6) (j_c h) 10 (some (j_c H10))) 9 := N10.step (by omega)
  show ∃ h', (if ¬ (nI 3) < 0 ∧ 3 ≤ 50000 then _ else _) = some (none, h') ∧ _
  generalize hH11 : j_sR (j_new H10 0 6) (j_c h) 10 (some (j_c H10)) = H11 at N11 ⊢
  rw [if_pos (show ¬ (nI 3) < 0 ∧ 3 ≤ 50000 from ⟨by decide, by decide⟩)]
  show ∃ h', (if j_k (j_new H11 0 3) (j_c h) = 12 then _ else _) = some (none, h') ∧ _
  rw [if_pos (N11.k12 0 3)]
  have N12 : NS h (j_sR (j_new H11 0 3) (j_c h) 11 (some (j_c H11))) 10 := N11.step (by omega)
  show ∃ h', (if ¬ (nI 6) < 0 ∧ 6 ≤ 50000 then _ else _) = some (none, h') ∧ _
  generalize hH12 : j_sR (j_new H11 0 3) (j_c h) 11 (some (j_c H11)) = H12 at N12 ⊢
  rw [if_pos (show ¬ (nI 6) < 0 ∧ 6 ≤ 50000 from ⟨by decide, by decide⟩)]
  show ∃ h', (if j_k (j_new H12 4 6) (j_c h) = 12 then _ else _) = some (none, h') ∧ _
  rw [if_pos (N12.k12 4 6)]
  have N13 : NS h (j_sR (j_new H12 4 6) (j_c h) 12 (some (j_c H12))) 11 := N12.step (by omega)
  show ∃ h', (if j_k (j_sR (j_new H12 4 6) (j_c h) 12 (some (j_c H12))) (j_c h) = 12 then _ else _) = some (none, h') ∧ _
  generalize hH13 : j_sR (j_new H12 4 6) (j_c h) 12 (some (j_c H12)) = H13 at N13 ⊢
  rw [if_pos N13.2.2.1]
  have N14 : NS h (j_sI H13 (j_c h) 13 (nI 0)) 11 := N13.sI
  show ∃ h', (if j_k (j_sI H13 (j_c h) 13 (nI 0)) (j_c h) = 12 then _ else _) = some (none, h') ∧ _
  generalize hH14 : j_sI H13 (j_c h) 13 (nI 0) = H14 at N14 ⊢
  rw [if_pos N14.2.2.1]
  have N15 : NS h (j_sI H14 (j_c h) 14 (mI 0)) 11 := N14.sI
  show ∃ h', (if j_k (j_sI H14 (j_c h) 14 (mI 0)) (j_c h) = 12 then _ else _) = some (none, h') ∧ _
  generalize hH15 : j_sI H14 (j_c h) 14 (mI 0) = H15 at N15 ⊢
  obtain ⟨n1, n2, n3, n4, n5, n6⟩ := id N15
  have R11 : j_R H15 (j_c h) 11 = some (j_c h + 10) := (n4 9 (by omega)).1
  have K10 : j_k H15 (j_c h + 10) = 0 := (n4 9 (by omega)).2.1
  have L10 : j_n H15 (j_c h + 10) = 3 := (n4 9 (by omega)).2.2
  rw [if_pos n3, R11, ft_rv, if_pos ⟨K10, by rw [ft_in (by omega), L10]; omega⟩, ft_cl (by omega)]
  refine ⟨j_sI H15 (j_c h + 10) 1 (nI 1), rfl, n1.sI (by omega), n2, by show j_z H15 ≤ _; omega, ?_, fun i => n6 10 i (by omega)⟩
  exact ⟨n3, ⟨(n4 0 (by omega)).1, (n4 1 (by omega)).1, (n4 2 (by omega)).1, (n4 3 (by omega)).1, (n4 4 (by omega)).1, (n4 5 (by omega)).1, (n4 6 (by omega)).1, (n4 7 (by omega)).1, (n4 8 (by omega)).1, (n4 9 (by omega)).1, (n4 10 (by omega)).1⟩, (n4 0 (by omega)).2, (n4 1 (by omega)).2, (n4 2 (by omega)).2, (n4 3 (by omega)).2, (n4 4 (by omega)).2, (n4 5 (by omega)).2, (n4 6 (by omega)).2, (n4 7 (by omega)).2, (n4 8 (by omega)).2, (n4 9 (by omega)).2, (n4 10 (by omega)).2⟩
