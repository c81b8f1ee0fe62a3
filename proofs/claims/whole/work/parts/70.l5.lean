/-! A TEXT OF THE CLASS IN MEMORY: object p, arrays p + 1 .. p + 6 -/
def KZp (h : jH) (p i : Nat) (c : Cz) (sz : Nat) : Prop := j_I h (p + 2) i = nI (gC c.1) ∧ j_I h (p + 3) i = zI c.2.1 sz ∧ j_I h (p + 4) i = zI c.2.2.1 (sz + (zc1 c.2.1).length) ∧ j_I h (p + 5) i = zI c.2.2.2.2 (sz + (zc1 c.2.1 ++ zc1 c.2.2.1).length) ∧ j_I h (p + 6) i = nI c.2.2.2.1
def KLp (h : jH) (p : Nat) : Nat → Nat → List Cz → Prop
  | _, _, [] => True
  | i, sz, c :: cs => KZp h p i c sz ∧ KLp h p (i + 1) (sz + (czC c sz).length) cs
theorem KL_p {h : jH} : ∀ {cs : List Cz} {i sz : Nat}, KL h i sz cs → KLp h 62 i sz cs
  | [], _, _, _ => True.intro
  | c :: cs, i, sz, K => ⟨K.1, KL_p K.2⟩
theorem KLp_at {h : jH} {p : Nat} : ∀ {cs : List Cz} {i sz : Nat}, KLp h p i sz cs → ∀ j (hj : j < cs.length), ∃ s pre post, KZp h p (i + j) cs[j] s ∧ czL sz cs = pre ++ czC cs[j] s ++ post ∧ sz + pre.length = s
  | [], _, _, _, j, hj => absurd hj (by simp)
  | c :: cs, i, sz, K, 0, hj => ⟨sz, [], czL (sz + (czC c sz).length) cs, K.1, rfl, rfl⟩
  | c :: cs, i, sz, K, j + 1, hj => by
    obtain ⟨s, pre, post, a, b, e⟩ := KLp_at K.2 j (by simpa using hj)
    refine ⟨s, czC c sz ++ pre, post, ?_, ?_, ?_⟩
    · have : i + (j + 1) = i + 1 + j := by omega
      rw [this]; exact a
    · show czC c sz ++ czL (sz + (czC c sz).length) cs = _
      rw [b]
      simp only [List.append_assoc, List.getElem_cons_succ]
    · rw [List.length_append]; omega
theorem hd_one {T : Tk} (b : ∀ i, T.1 i < 356) (od : Bool) (s : Ps) : (h_one T od s).2.1 < 356 := by
  cases od
  · exact b _
  · exact b _
theorem hd_xl {T : Tk} (b : ∀ i, T.1 i < 356) {od : Bool} : ∀ f m (x : Ps × List Cz), (∀ c ∈ x.2, c.1 < 356) → ∀ c ∈ (h_xl T od f m x).2, c.1 < 356
  | 0, m, x, h => h
  | f + 1, m, x, h => by
    unfold h_xl
    by_cases w : h_tk T 159 x.1 = true
    · rw [if_pos w]
      by_cases e : m = 12
      · rw [if_pos e]; exact h
      · rw [if_neg e]
        refine hd_xl b f (m + 1) _ (fun c hc => ?_)
        rcases List.mem_append.mp hc with q | q
        · exact h c q
        · rw [List.mem_singleton.mp q]; exact hd_one b od _
    · rw [if_neg w]; exact h
theorem hd_text {T : Tk} (b : ∀ i, T.1 i < 356) {od : Bool} {n : Nat} : ∀ c ∈ (h_text T od n).2, c.1 < 356 := by
  refine hd_xl b hN 1 ((h_one T od (true, 0, 0)).1, [(h_one T od (true, 0, 0)).2]) (fun c hc => ?_)
  rw [List.mem_singleton.mp hc]
  exact hd_one b od _
/-- the arrays of a text -/
def TA (h : jH) (p a b : Nat) : Prop := j_k h p = 15 ∧ (j_R h p 0 = some (p + 1) ∧ j_R h p 1 = some (p + 2) ∧ j_R h p 2 = some (p + 3) ∧ j_R h p 3 = some (p + 4) ∧ j_R h p 4 = some (p + 5) ∧ j_R h p 5 = some (p + 6)) ∧ (j_k h (p + 1) = 0 ∧ j_n h (p + 1) = a) ∧ (j_k h (p + 2) = 0 ∧ j_n h (p + 2) = b) ∧ (j_k h (p + 3) = 0 ∧ j_n h (p + 3) = b) ∧ (j_k h (p + 4) = 0 ∧ j_n h (p + 4) = b) ∧ (j_k h (p + 5) = 0 ∧ j_n h (p + 5) = b) ∧ (j_k h (p + 6) = 0 ∧ j_n h (p + 6) = b)
/-- a text with these clauses -/
def TX (h : jH) (p : Nat) (od : Bool) (cs : List Cz) : Prop := ∃ na nb, (TA h p na nb ∧ (czL 0 cs).length ≤ na ∧ cs.length ≤ nb) ∧ KLp h p 0 0 cs ∧ j_I h p 6 = nI (czL 0 cs).length ∧ j_I h p 7 = nI cs.length ∧ cs.length ≤ 12 ∧ (czL 0 cs).length ≤ 400 ∧ (∀ i, i < (czL 0 cs).length → j_I h (p + 1) i = nI ((czL 0 cs).getD i 0)) ∧ (∀ c ∈ cs, gZ od c) ∧ ∀ c ∈ cs, c.1 < 356
def tcd (cs : List Cz) : Nat → Nat := fun i => (czL 0 cs).getD i 0
theorem TX_XT {h : jH} {p : Nat} {od : Bool} {cs : List Cz} (X : TX h p od cs) : XT h p (p + 1) (czL 0 cs).length (tcd cs) := by
  obtain ⟨na, nb, ⟨A, ha, hb⟩, K, h6, h7, hl, hz, hc, g, -⟩ := X
  refine ⟨A.1, A.2.1.1, A.2.2.1.1, by rw [A.2.2.1.2]; omega, by omega, h6, hc, fun i => ?_⟩
  unfold tcd
  rcases Nat.lt_or_ge i (czL 0 cs).length with w | w
  · rw [List.getD_eq_getElem?_getD, List.getElem?_eq_getElem w]
    have := gL_B g (by omega) _ (List.getElem_mem w)
    show (czL 0 cs)[i] < 1000000
    omega
  · rw [List.getD_eq_getElem?_getD, List.getElem?_eq_none w]
    show 0 < 1000000
    omega
theorem tcd_at {cs : List Cz} {pre c post : List Nat} (e : czL 0 cs = pre ++ c ++ post) : Xat (tcd cs) (czL 0 cs).length pre.length c := by
  refine ⟨by rw [e]; simp only [List.length_append]; omega, fun i x hx => ?_⟩
  have hi : i < c.length := by
    rcases Nat.lt_or_ge i c.length with w | w
    · exact w
    · rw [List.getElem?_eq_none w] at hx; cases hx
  unfold tcd
  rw [e, List.getD_eq_getElem?_getD, List.append_assoc, List.getElem?_append_right (by omega), Nat.add_sub_cancel_left, List.getElem?_append_left hi, hx]
  rfl
/-- the worth of a sum, of a test, absent or not -/
def wS (e : Ev) (o : Option (List Nat × Dn)) : Option Int := match o with
  | none => some 1
  | some d => d.2 e
def wT (e : Ev) (o : Option ((Nat → List Nat) × Dt)) : Option Int := match o with
  | none => some 1
  | some d => (d.2 e).map zL
theorem U_w0 {F : Nat × Nat} {h : jH} {t ws : Nat} : m_U_worth F 72 t (mI 0) ws h = some (some (.long (1 : Int64)), h) := by
  rw [q_U_worth, if_pos rfl]
theorem U_w0_b {F : Nat × Nat} {h : jH} {t ws : Nat} (ff : Int64 → jH → Option jO) : jbJ (m_U_worth F 72 t (mI 0) ws h) ff = ff ((1 : Int64)) (h) := bJ_of (U_w0 (F := F) (h := h) (t := t) (ws := ws)) ff
theorem C_w1 {F : Nat × Nat} (hF : FF F) {h : jH} {p : Nat} {od : Bool} {cs : List Cz} (X : TX h p od cs) (U : XU h) {e : Ev} {ws : Nat} (E : XE h ws e od) {o : Option (List Nat × Dn)} (g : gS od o) {s : Nat} (A : Xat (tcd cs) (czL 0 cs).length s (zc1 o)) : ∃ st, m_U_worth F 72 p (zI o s) ws h = some (some (.long (iL ((wS e o).getD BR))), hW h st) := by
  cases o with
  | none => exact ⟨j_J h 74, by rw [hW_0]; exact U_w0⟩
  | some d =>
    obtain ⟨T, st, rfl, t⟩ := g d rfl
    have A' : Xat (tcd cs) (czL 0 cs).length s ((h_sum T od 8 st).2.1 ++ [0]) := A
    exact X_worth hF U (TX_XT X) A' (X_sum U (TX_XT X) E 8 st t s A'.app.1) (by omega)
theorem C_w3 {F : Nat × Nat} (hF : FF F) {h : jH} {p : Nat} {od : Bool} {cs : List Cz} (X : TX h p od cs) (U : XU h) {e : Ev} {ws : Nat} (E : XE h ws e od) {o : Option ((Nat → List Nat) × Dt)} (g : gT od o) {s : Nat} (A : Xat (tcd cs) (czL 0 cs).length s (zc3 o s)) : ∃ st, m_U_worth F 72 p (zI o s) ws h = some (some (.long (iL ((wT e o).getD BR))), hW h st) := by
  cases o with
  | none => exact ⟨j_J h 74, by rw [hW_0]; exact U_w0⟩
  | some d =>
    obtain ⟨T, st, rfl, t⟩ := g d rfl
    have A' : Xat (tcd cs) (czL 0 cs).length s ((h_test T od 8 st).2.1 s ++ [0]) := A
    exact X_worth hF U (TX_XT X) A' (X_test U (TX_XT X) E 8 st t s A'.app.1) (by omega)
theorem TA_draft {h : jH} (S : ShF h) : TA h 62 480 12 := ⟨sf_k62 S, ⟨sf_R62_0 S, sf_R62_1 S, sf_R62_2 S, sf_R62_3 S, sf_R62_4 S, sf_R62_5 S⟩, ⟨sf_k63 S, sf_n63 S⟩, ⟨sf_k64 S, sf_n64 S⟩, ⟨sf_k65 S, sf_n65 S⟩, ⟨sf_k66 S, sf_n66 S⟩, ⟨sf_k67 S, sf_n67 S⟩, ⟨sf_k68 S, sf_n68 S⟩⟩
/-- a text that reads well stands in the draft -/
theorem C_draft {F : Nat × Nat} (hF : FF F) {h : jH} (S : ShF h) {tp : Nat → Nat} {tl : Nat} (P : TP h tp tl) {od : Bool} (t : (tX tp tl od).1.1 = true) : ∃ h1, m_P_reads F 60 (nI (ft_z od)) h = some (some (.int (nI 1)), h1) ∧ jX dQ jN h h1 ∧ TX h1 62 od (tX tp tl od).2 ∧ j_I h1 60 2 = mI 0 ∧ j_I h1 60 1 = nI 0 := by
  obtain ⟨h1, a1, a2, a3, a4, a5, a6, a7, a8, a9, a10⟩ := (C_reads hF S P od).1 t
  have C := hL9_CT P od
  have S1 : TA h1 62 480 12 := by
    have A := TA_draft S
    unfold TA at A ⊢
    simp only [a2.k, a2.n, a2.R (fun q => q)]
    exact A
  exact ⟨h1, a1, a2, ⟨480, 12, ⟨S1, by omega, a5⟩, KL_p a3, a6, a4, a5, a7, a8, gZ_text C.2.2.1 t, hd_text C.2.2.2.2.2.1⟩, a9, a10⟩
