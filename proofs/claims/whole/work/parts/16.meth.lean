/-! WHOLE METHODS: a plain function that is some, is a contract met -/
/-- a method: its class, bytes, locals, return code, whether it is a constructor -/
abbrev jMe : Type := String × ByteArray × Nat × Nat × Bool
def jCt (M : jMe) (D : Nat) (out : jO) (p : Program) (l : Launch) (e0 : Env) (R : Room) (s : State) (m : MethodId) (args : Array Value) (below : List Frame) (meth : Method) (c : Code) (Q : State → Prop) (E : jEv) (n0 z0 : Nat) : Prop :=
  p.tables.exec = Jvm.exec ∧ c.code = M.2.1 ∧ c.maxLocals = M.2.2.1 ∧ s.vm.findClass M.1 = some m.cls ∧ (∀ w ∈ jgw, w.before args s = true) ∧ jKn E s ∧ E.2.1 ≤ s.heap.size ∧ D + 1 ≤ R.frames ∧ 100 * (D + 1) ≤ R.locals ∧ j_c out.2 - n0 ≤ R.cells ∧ j_z out.2 - z0 ≤ R.slots ∧ jRt p l e0 R s m args below meth c Q E n0 z0 out M.2.1 M.2.2.2.1 ∧ (M.2.2.2.2 = true → meth.name = "<init>")
/-- what g says of the place pc, the JVM does there -/
def jG (M : jMe) (D pc : Nat) (g : jL → List Value → jH → Option jO) : Prop :=
  ∀ L S h out, g L S h = some out → jMo h out.2 ∧ ∀ (p : Program) (l : Launch) (e0 : Env) (R : Room) (s : State) (m : MethodId) (args : Array Value) (below : List Frame) (meth : Method) (c : Code) (Q : State → Prop) (E : jEv) (n0 z0 : Nat), jCt M D out p l e0 R s m args below meth c Q E n0 z0 → jWp p l e0 R s m args below meth c Q E M.2.2.1 n0 z0 pc L S h
theorem jG.of {M : jMe} {D pc : Nat} {g g' : jL → List Value → jH → Option jO} (h : jG M D pc g) (hg : ∀ L S h out, g' L S h = some out → g L S h = some out) : jG M D pc g' := fun L S h1 out e => h L S h1 out (hg L S h1 out e)
theorem jG.no {M : jMe} {D pc : Nat} {g : jL → List Value → jH → Option jO} (hg : ∀ L S h, g L S h = none) : jG M D pc g := fun L S h out e => by rw [hg] at e; cases e
def jcdok (M : jMe) (cd : Nat → jE) : Prop := ∀ pc, (cd pc).1 = .nop ∨ jchk M.1 M.2.1 M.2.2.1 M.2.2.2.2 pc (cd pc) = true
theorem j_out {x y : jE} {pc N : Nat} (h : N ≤ pc) : cond (Nat.blt pc N) x y = y := by
  have : Nat.blt pc N = false := by
    cases hb : Nat.blt pc N with
    | false => rfl
    | true =>
      have : pc + 1 ≤ N := by simpa [Nat.blt] using hb
      omega
  rw [this]
  rfl
theorem jcdok_of {M : jMe} {cd : Nat → jE} (N : Nat) (h1 : ∀ pc, pc < N → (decide ((cd pc).1 = .nop) || jchk M.1 M.2.1 M.2.2.1 M.2.2.2.2 pc (cd pc)) = true) (h2 : ∀ pc, N ≤ pc → (cd pc).1 = .nop) : jcdok M cd := by
  intro pc
  by_cases hp : pc < N
  · have := h1 pc hp
    rw [Bool.or_eq_true, decide_eq_true_eq] at this
    exact this
  · exact Or.inl (h2 pc (by omega))
theorem jC_mo {D : Nat} {C : jC} (hC : jCok D C) : ∀ c as h k out, C c as h k = some out → ∃ r h', jMo h h' ∧ k r h' = some out := by
  intro c as h k out e
  obtain ⟨d, r, h', -, hm, -, e⟩ := hC _ _ _ _ _ e
  exact ⟨r, h', hm.1, e⟩
theorem jst_ok {M : jMe} {D : Nat} {cd : Nat → jE} {C : jC} (hcd : jcdok M cd) (hC : jCok D C) {k : jK} (hk : ∀ pc, jG M D pc (k pc)) (pc : Nat) : jG M D pc (fun L S h => jst C M.2.2.2.1 (cd pc) L S h k) := by
  intro L S h out e
  rcases hcd pc with hn | hc
  · exfalso
    dsimp only at e
    generalize cd pc = en at hn e
    obtain ⟨i, nx, x, u, t, z, v, w, sw⟩ := en
    have hn : i = .nop := hn
    subst hn
    cases e
  · refine ⟨jst_mo (fun pc L S h e => (hk pc L S h out e).1) (jC_mo hC) e, ?_⟩
    intro p l e0 R s m args below meth c Q E n0 z0 hct
    have hkk : jHk p l e0 R s m args below meth c Q E M.2.2.1 n0 z0 out k := fun pc L S h e => ⟨(hk pc L S h out e).1, (hk pc L S h out e).2 p l e0 R s m args below meth c Q E n0 z0 hct⟩
    obtain ⟨c1, c2, c3, c4, c5, c6, c7, c8, c9, c10, c11, c12, c13⟩ := hct
    exact (jsim hkk c1 c2 c3 c4 c5 c6 c7 c8 c9 c10 c11 hC c12 c13 hc e).2
theorem jrun_ok {M : jMe} {D : Nat} {cd : Nat → jE} {C : jC} (hcd : jcdok M cd) (hC : jCok D C) {T : Nat → Option (jL → List Value → jH → Option jO)} (hT : ∀ pc g, T pc = some g → jG M D pc g) : ∀ f pc, jG M D pc (jrun C M.2.2.2.1 cd T f pc)
  | 0, pc => jG.no fun _ _ _ => rfl
  | f + 1, pc => by
    intro L S h out e
    unfold jrun at e
    split at e
    · rename_i g hg
      exact hT pc g hg L S h out e
    · exact jst_ok hcd hC (jrun_ok hcd hC hT f) pc L S h out e
theorem jT_ok {M : jMe} {D : Nat} {l : List (Nat × (jL → List Value → jH → Option jO))} (h : ∀ q ∈ l, jG M D q.1 q.2) : ∀ pc g, j_T l pc = some g → jG M D pc g := by
  induction l with
  | nil => intro pc g e; cases e
  | cons q r ih =>
    obtain ⟨p, g0⟩ := q
    intro pc g e
    unfold j_T at e
    cases hb : Nat.beq p pc with
    | true =>
      rw [hb] at e
      cases e
      have : p = pc := Nat.eq_of_beq_eq_true hb
      subst this
      exact h _ List.mem_cons_self
    | false =>
      rw [hb] at e
      exact ih (fun q hq => h q (List.mem_cons_of_mem _ hq)) pc g e
/-- a handler of callee n -/
def jc_ok (D n : Nat) (H : jc1) : Prop := ∀ as h k out, H as h k = some out → ∃ d r h', d + 1 ≤ D ∧ jM1 d n as h r h' ∧ jRec n as h ∧ k r h' = some out
theorem jc_ok.up {D D' n : Nat} {H : jc1} (h : jc_ok D n H) (hd : D ≤ D') : jc_ok D' n H := by
  intro as h1 k out e
  obtain ⟨d, r, h', h1, h2⟩ := h as h1 k out e
  exact ⟨d, r, h', by omega, h2⟩
theorem jC_ok {D : Nat} {l : List (Nat × jc1)} (h : ∀ q ∈ l, jc_ok D q.1 q.2) : jCok D (j_C l) := by
  induction l with
  | nil => intro c as h k out e; cases e
  | cons q r ih =>
    obtain ⟨p, g0⟩ := q
    intro c as h1 k out e
    unfold j_C at e
    cases hb : Nat.beq p c with
    | true =>
      rw [hb] at e
      have : p = c := Nat.eq_of_beq_eq_true hb
      subst this
      exact h _ List.mem_cons_self as h1 k out e
    | false =>
      rw [hb] at e
      exact ih (fun q hq => h q (List.mem_cons_of_mem _ hq)) c as h1 k out e
/-- the locals at a method's entry -/
def j_ent : List Value → jL
  | [] => []
  | .long y :: r => some (.long y) :: some (.float 0) :: j_ent r
  | v :: r => some v :: j_ent r
def j_ok1 (v : Value) : Bool := match v with
  | .int _ => true
  | .ref _ => true
  | .null => true
  | .long _ => true
  | _ => false
theorem j_ent_in {E : jEv} {post : jL} (hp : ∀ q ∈ post, q = none) : ∀ (as : List Value) (k : Nat), (∀ v ∈ as, j_ok1 v = true) → ∀ (i : Nat) (v : Value), (j_ent as ++ post)[i]? = some (some v) → (j_is1 v = true → (k + i, cv E v) ∈ lv_args k (as.map (cv E))) ∧ ∀ y, v = .long y → (k + i, Value.long y) ∈ lv_args k (as.map (cv E))
  | [], k, _, i, v, h => by
    have := hp _ (List.mem_of_getElem? h)
    cases this
  | a :: as, k, ho, i, v, h => by
    have ho' : ∀ v ∈ as, j_ok1 v = true := fun v hv => ho v (List.mem_cons_of_mem _ hv)
    have hcase : (∃ y, a = .long y) ∨ (j_is1 a = true ∧ j_ent (a :: as) = some a :: j_ent as) := by
      have := ho a List.mem_cons_self
      cases a <;> simp_all [j_ok1, j_is1, j_ent]
    rcases hcase with ⟨y, rfl⟩ | ⟨h1, he⟩
    · have hl : lv_args k ((Value.long y :: as).map (cv E)) = (k, .long y) :: lv_args (k + 2) (as.map (cv E)) := rfl
      rw [hl]
      match i, h with
      | 0, h =>
        cases h
        exact ⟨fun q => (by cases q), fun z hz => (by cases hz; exact List.mem_cons_self)⟩
      | 1, h =>
        cases h
        exact ⟨fun q => (by cases q), fun z hz => (by cases hz)⟩
      | i + 2, h =>
        obtain ⟨g1, g2⟩ := j_ent_in hp as (k + 2) ho' i v h
        rw [show k + (i + 2) = k + 2 + i by omega]
        exact ⟨fun q => List.mem_cons_of_mem _ (g1 q), fun z hz => List.mem_cons_of_mem _ (g2 z hz)⟩
    · have hl : lv_args k ((a :: as).map (cv E)) = (k, cv E a) :: lv_args (k + 1) (as.map (cv E)) := by
        show (k, cv E a) :: lv_args (if (cv E a).category = 2 then k + 2 else k + 1) (as.map (cv E)) = _
        rw [if_neg (by rw [is1_cat h1]; decide)]
      rw [hl]
      rw [he] at h
      match i, h with
      | 0, h =>
        cases h
        refine ⟨fun q => List.mem_cons_self, fun z hz => ?_⟩
        subst hz
        cases h1
      | i + 1, h =>
        obtain ⟨g1, g2⟩ := j_ent_in hp as (k + 1) ho' i v h
        rw [show k + (i + 1) = k + 1 + i by omega]
        exact ⟨fun q => List.mem_cons_of_mem _ (g1 q), fun z hz => List.mem_cons_of_mem _ (g2 z hz)⟩
theorem jLr.entry {E : jEv} {as : List Value} {ml : Nat} {ls : Array Slot} (ho : ∀ v ∈ as, j_ok1 v = true) (hn : (j_ent as).length ≤ ml) (h : lv_has ls ml (lv_args 0 (as.map (cv E)))) : jLr E (j_ent as ++ List.replicate (ml - (j_ent as).length) none) ls ml := by
  have hp : ∀ q ∈ (List.replicate (ml - (j_ent as).length) (none : Option Value)), q = none := fun q hq => (List.mem_replicate.mp hq).2
  refine ⟨by simp; omega, h.1, h.2.1, fun q hq => h.2.2 q ?_⟩
  obtain ⟨i, w⟩ := q
  rcases jpr_in.mp hq with ⟨v, hv, h1, rfl⟩ | ⟨y, z, hy, hz, rfl⟩
  · have := (j_ent_in (E := E) hp as 0 ho i v hv).1 h1
    rwa [Nat.zero_add] at this
  · have := (j_ent_in (E := E) hp as 0 ho i _ hy).2 y rfl
    rwa [Nat.zero_add] at this
def jrtok (rt : Nat) (ret : Option FieldType) : Prop := (rt = 0 ∧ ret = some .int) ∨ (rt = 1 ∧ ret = some .boolean) ∨ (rt = 2 ∧ ret = some .long) ∨ (rt = 3 ∧ ((∃ n, ret = some (.object n)) ∨ ∃ t, ret = some (.array t))) ∨ (rt = 4 ∧ ret = none)
/-- a method whose plain function is some: its contract -/
theorem jM_of {cN D : Nat} {M : jMe} {ret : Option FieldType} (hok : jMok cN M.2.1 M.2.2.1 ret) (hpl : plainFor (jmn cN) = true) (hcl : (jmn cN).cls = M.1) (hrt : jrtok M.2.2.2.1 ret) (hini : M.2.2.2.2 = true → (jmn cN).name = "<init>") {g : jL → List Value → jH → Option jO} (hG : jG M D 0 g) {as : List Value} (ho : ∀ v ∈ as, j_ok1 v = true) (hn : (j_ent as).length ≤ M.2.2.1) (hlen : ∀ E : jEv, (lg_sl (as.map (cv E))).length ≤ M.2.2.1) {h h' : jH} {r : Option Value} (e : g (j_ent as ++ List.replicate (M.2.2.1 - (j_ent as).length) none) [] h = some (r, h')) : jM1 D cN as h r h' := by
  obtain ⟨mo, hw⟩ := hG _ _ _ _ e
  refine ⟨mo, M.2.1, M.2.2.1, ret, hok, fun l E => ?_⟩
  refine va_MetF (cc := M.2.1) (maxL := M.2.2.1) (ret := ret) hpl rfl ?_
  intro p e1 s m args below meth c s₁ B hml hv
  obtain ⟨rfl, hK, hW, hS⟩ := hv
  have hx := B.exec
  have hb := B.bytes
  have hr := B.returns
  have hts0 := atoms_spec (ws := Cond.code (jmn cN) M.2.1 M.2.2.1 ret :: jgw) B.pre
  have hts : ∀ w ∈ jgw, w.before ((as.map (cv E)).toArray) s = true := fun w hw => hts0 w (List.mem_cons_of_mem _ hw)
  have hown : s.vm.findClass M.1 = some m.cls := by rw [← hcl]; exact findClass_of_methodNamed B.named
  have hlocks := B.notSynchronized
  have hnm : M.2.2.2.2 = true → meth.name = "<init>" := fun q => (name_of_methodNamed B.named B.method).1.trans (hini q)
  have hl := lv_entry (as.map (cv E)) (n := M.2.2.1) (hlen E)
  rw [lg_entry_eq]
  generalize (lg_sl (as.map (cv E)) ++ List.replicate (M.2.2.1 - (lg_sl (as.map (cv E))).length) Slot.unset).toArray = ls at hl ⊢
  have hbs : E.2.1 ≤ s.heap.size := by rw [hW.2.1]; omega
  have hrt' : jRt p l e1 (jrm D (j_c h' - j_c h) (j_z h' - j_z h)) s m (as.map (cv E)).toArray below meth c (MQ below (jQc E r h') (as.map (cv E)).toArray s (j_c h' - j_c h) (j_z h' - j_z h) (e_A E)) E (j_c h) (j_z h) (r, h') M.2.1 M.2.2.2.1 := by
    intro pc i H locs ls hdg hro w1 w2 w3
    have hq : ∀ t : State, t.heap = H → s.WarmedH t.vm → jQc E r h' (as.map (cv E)).toArray s (.returned (r.map (cv E))) t := by
      intro t ht hWm
      have hqq : ∀ a : Nat, a < s.heap.size → ¬ e_A E a → t.heap[a]? = s.heap[a]? := fun a h1 h2 => by rw [ht]; exact w3.2.1 a h1 h2
      exact ⟨rfl, by rw [ht]; exact w1, jSt.to hWm.alike hbs hqq w2, fun q hq => hqq q (by omega) (Nat.not_le.mpr hq)⟩
    have hf : ∀ q ∈ locs, e_A E q.base := w3.2.2
    rcases hro with ⟨rfl, hro⟩ | ⟨rfl, hrr, y, hy⟩ | ⟨rfl, hrr, hro⟩ | ⟨rfl, hrr, hro⟩
    · rcases hro with ⟨hrr, y, hy⟩ | ⟨hrr, hy⟩
      · simp only at hy
        subst hy
        have hret : ret = some .int := by rcases hrt with ⟨q, z⟩ | ⟨q, z⟩ | ⟨q, z⟩ | ⟨q, z⟩ | ⟨q, z⟩ <;> first | exact z | omega
        exact W.iret hx hb (by rw [hr]; exact hret) hq hf hdg hlocks
      · have hret : ret = some .boolean := by rcases hrt with ⟨q, z⟩ | ⟨q, z⟩ | ⟨q, z⟩ | ⟨q, z⟩ | ⟨q, z⟩ <;> first | exact z | omega
        rcases hy with hy | hy <;> (simp only at hy; subst hy; exact W.zret hx hb (by rw [hr]; exact hret) (by decide) hq hf hdg hlocks)
    · simp only at hy
      subst hy
      have hret : ret = some .long := by rcases hrt with ⟨q, z⟩ | ⟨q, z⟩ | ⟨q, z⟩ | ⟨q, z⟩ | ⟨q, z⟩ <;> first | exact z | omega
      exact W.lret hx hb (by rw [hr]; exact hret) hq hf hdg hlocks
    · have hret : (∃ n, ret = some (.object n)) ∨ ∃ t, ret = some (.array t) := by rcases hrt with ⟨q, z⟩ | ⟨q, z⟩ | ⟨q, z⟩ | ⟨q, z⟩ | ⟨q, z⟩ <;> first | exact z | omega
      have hrt2 : ∃ rt', ret = some rt' ∧ ((∃ n, rt' = .object n) ∨ ∃ t, rt' = .array t) := by
        rcases hret with ⟨n, z⟩ | ⟨t, z⟩
        · exact ⟨_, z, Or.inl ⟨n, rfl⟩⟩
        · exact ⟨_, z, Or.inr ⟨t, rfl⟩⟩
      obtain ⟨rt', z, hk⟩ := hrt2
      rcases hro with hy | ⟨a, hy⟩
      · simp only at hy
        subst hy
        exact W.aret hx hb (by rw [hr]; exact z) hk (Or.inl rfl) hq hf hdg hlocks
      · simp only at hy
        subst hy
        exact W.aret hx hb (by rw [hr]; exact z) hk (Or.inr ⟨_, rfl⟩) hq hf hdg hlocks
    · simp only at hro
      subst hro
      have hret : ret = none := by rcases hrt with ⟨q, z⟩ | ⟨q, z⟩ | ⟨q, z⟩ | ⟨q, z⟩ | ⟨q, z⟩ <;> first | exact z | omega
      exact W.vret hx hb (by rw [hr]; exact hret) hq hf hdg hlocks
  have w := hw p l e1 (jrm D (j_c h' - j_c h) (j_z h' - j_z h)) s m (as.map (cv E)).toArray below meth c _ E (j_c h) (j_z h) ⟨hx, hb, hml, hown, hts, hK, hbs, Nat.le_refl _, Nat.le_refl _, Nat.le_refl _, Nat.le_refl _, hrt', hnm⟩ (Nat.le_refl _) (Nat.le_refl _) s.heap [] ls hW hS va_S.rf (jLr.entry ho hn hl)
  rw [Nat.sub_self, Nat.sub_self] at w
  exact w
