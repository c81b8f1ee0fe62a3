/-! ORDERS: ONE TIME -/
def dRu : Nat → Nat → Prop := fun a i => dMd a i ∨ dGl a i ∨ (a = 85 ∧ (i = 27 ∨ i = 28 ∨ i = 43))
def dOc : Nat → Nat → Prop := fun a i => dDd a i ∨ dWo a i
/-- the reference's state in orders -/
def RM (h : jH) (s : St) (m : Nat) (v : Int) (t : Nat) : Prop := MJ h s ∧ j_I h 85 27 = nI m ∧ j_I h 85 28 = iI v ∧ j_I h 85 43 = nI (2400 + t)
/-- the class's state in orders -/
def CM (h : jH) (s : St) (m : Nat) (v : Int) (cs : List Cz) : Prop := CJ h s ∧ TX h 62 true cs ∧ j_J h 81 1 = iL (m : Nat) ∧ j_J h 81 2 = iL v
theorem dGl_W {h h' : jH} (x : jX dGl jN h h') : jX dW jN h h' := x.up (fun a i d => by unfold dGl at d; unfold dW; omega) (fun _ _ z => z)
theorem MJ.gl {h h' : jH} {s : St} (M : MJ h s) (x : jX dGl jN h h') (B : SB h') : MJ h' s := by
  obtain ⟨k, im, u, tp, tl, sc, kd⟩ := s
  have M' : MI h k im u tp tl sc kd := M
  exact M'.w (dGl_W x) B (M'.2.2.2.1.fr x (fun a i z => by unfold dGl at z; omega))
theorem MJ.f27 {h h' : jH} {s : St} (M : MJ h s) (x : jX (fun a i => a = 85 ∧ (i = 27 ∨ i = 28 ∨ i = 43)) jN h h') : MJ h' s := by
  obtain ⟨k, im, u, tp, tl, sc, kd⟩ := s
  have M' : MI h k im u tp tl sc kd := M
  exact M'.w (x.up (fun a i d => by unfold dW; omega) (fun _ _ z => z)) (M'.2.2.1.fr x (fun z => by omega)) (M'.2.2.2.1.fr x (fun a i z => by omega))
theorem CJ.wo {h h' : jH} {s : St} (C : CJ h s) (x : jX dWo jN h h') : CJ h' s := by
  obtain ⟨k, im, u, tp, tl, sc, kd⟩ := s
  have C' : CI h k im u tp tl sc kd := C
  exact C'.w (x.up (fun a i d => by unfold dWo at d; unfold dV; omega) (fun _ _ z => z))
theorem TX.rc {h h' : jH} {cs : List Cz} (X : TX h 62 true cs) (x : jX dOc jN h h') : TX h' 62 true cs := X.fr x (fun j i hj z => by unfold dOc dDd dWo at z; omega) (fun i z => z)
/-- the state after a deed -/
def Nx (s s' : St) : Prop := WJ s' ∧ (∀ i, 105 ≤ i → s'.1 i = s.1 i) ∧ s'.2.1 = s.2.1 ∧ s'.2.2.2 = s.2.2.2
theorem Nx.rf {s : St} (w : WJ s) : Nx s s := ⟨w, fun _ _ => rfl, rfl, rfl⟩
theorem Nx.tr {s s' s'' : St} (a : Nx s s') (b : Nx s' s'') : Nx s s'' := ⟨b.1, fun i hi => (b.2.1 i hi).trans (a.2.1 i hi), b.2.2.1.trans a.2.2.1, b.2.2.2.trans a.2.2.2⟩
theorem oFn_w {e : Ev} {c : Cz} (h : oFn e c = true) : ∃ x1 x2, wS e c.2.1 = some x1 ∧ wS e c.2.2.1 = some x2 := by
  unfold oFn at h
  unfold wS
  cases h1 : c.2.1 with
  | none =>
    cases h2 : c.2.2.1 with
    | none => exact ⟨1, 1, rfl, rfl⟩
    | some d =>
      rw [h1, h2] at h
      obtain ⟨x, e⟩ := Option.isSome_iff_exists.mp (show (d.2 _).isSome = true from h)
      exact ⟨1, x, rfl, e⟩
  | some d1 =>
    rw [h1] at h
    have h' := (Bool.and_eq_true _ _).mp h
    obtain ⟨x, e⟩ := Option.isSome_iff_exists.mp (show (d1.2 _).isSome = true from h'.1)
    cases h2 : c.2.2.1 with
    | none => exact ⟨x, 1, e, rfl⟩
    | some d =>
      rw [h2] at h'
      obtain ⟨y, e'⟩ := Option.isSome_iff_exists.mp (show (d.2 _).isSome = true from h'.2)
      exact ⟨x, y, e, e'⟩
theorem oFn_n {e : Ev} {c : Cz} (h : wS e c.2.1 = none ∨ wS e c.2.2.1 = none) : oFn e c = false := by
  cases hh : oFn e c with
  | false => rfl
  | true =>
    obtain ⟨x1, x2, e1, e2⟩ := oFn_w hh
    rcases h with z | z
    · rw [e1] at z; cases z
    · rw [e2] at z; cases z
theorem oFn_s {e : Ev} {c : Cz} {x1 x2 : Int} (h1 : wS e c.2.1 = some x1) (h2 : wS e c.2.2.1 = some x2) : oFn e c = true := by
  unfold oFn
  unfold wS at h1 h2
  cases a1 : c.2.1 with
  | none =>
    cases a2 : c.2.2.1 with
    | none => rfl
    | some d => rw [a2] at h2; show (true && (d.2 e).isSome) = true; rw [show d.2 e = some x2 from h2]; rfl
  | some d1 =>
    rw [a1] at h1
    cases a2 : c.2.2.1 with
    | none => show ((d1.2 e).isSome && true) = true; rw [show d1.2 e = some x1 from h1]; rfl
    | some d => rw [a2] at h2; show ((d1.2 e).isSome && (d.2 e).isSome) = true; rw [show d1.2 e = some x1 from h1, show d.2 e = some x2 from h2]; rfl
