/-! THE HEAP ONLY GROWS -/
abbrev jMo (h h' : jH) : Prop := j_c h ≤ j_c h' ∧ j_z h ≤ j_z h'
theorem jmo_k {k : jK} {out : jO} (hk : ∀ pc L S h, k pc L S h = some out → jMo h out.2) {pc : Nat} {L : jL} {S : List Value} {h h' : jH} (e : k pc L S h' = some out) (h1 : j_c h ≤ j_c h') (h2 : j_z h ≤ j_z h') : jMo h out.2 := by
  have := hk _ _ _ _ e
  exact ⟨Nat.le_trans h1 this.1, Nat.le_trans h2 this.2⟩
set_option maxHeartbeats 4000000 in
theorem jst_mo {C : jC} {rt : Nat} {en : jE} {L : jL} {S : List Value} {h : jH} {k : jK} {out : jO} (hk : ∀ pc L S h, k pc L S h = some out → jMo h out.2) (hC : ∀ c as h k out, C c as h k = some out → ∃ r h', jMo h h' ∧ k r h' = some out) (e : jst C rt en L S h k = some out) : jMo h out.2 := by
  obtain ⟨i, nx, x, u, t, z, v, w, sw⟩ := en
  cases i <;> (simp only [jst, j_i1, j_i2, j_l1, j_l2, j_li, j_ai, j_r1, j_rv, j_ld, j_lda, j_ld2, j_st, j_sta, j_st2, j_ifn, j_sw_eq, cond_eq_ite] at e) <;> (repeat' split at e) <;> first
    | (cases e; done)
    | exact hk _ _ _ _ e
    | exact jmo_k hk e (Nat.le_refl _) (Nat.le_refl _)
    | exact jmo_k hk e (Nat.le_succ _) (Nat.le_add_right _ _)
    | (obtain ⟨r, h', m1, e⟩ := hC _ _ _ _ _ e; exact jmo_k hk e m1.1 m1.2)
    | (cases Option.some.inj e; exact ⟨Nat.le_refl _, Nat.le_refl _⟩)
