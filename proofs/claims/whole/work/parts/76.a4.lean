/-! A LAND'S POINTERS AND FRAMES, COST, SIGHT, BARS OF THE CLASS -/
theorem la_v0 {h : jH} {o : Nat} (A : LA h o) {h2 : jH} (e : sR h2 h) (f : Nat → Option jO) : j_rv (va_rf (j_R h2 o 0)) f = f (o + 1) := rv_of A.2.1.1 e f
theorem la_k1 {h : jH} {o : Nat} (A : LA h o) : j_k h (o + 1) = 0 := A.2.2.1.1
theorem la_n1 {h : jH} {o : Nat} (A : LA h o) : j_n h (o + 1) = 25 := A.2.2.1.2
theorem la_v1 {h : jH} {o : Nat} (A : LA h o) {h2 : jH} (e : sR h2 h) (f : Nat → Option jO) : j_rv (va_rf (j_R h2 o 1)) f = f (o + 2) := rv_of A.2.1.2.1 e f
theorem la_k2 {h : jH} {o : Nat} (A : LA h o) : j_k h (o + 2) = 0 := A.2.2.2.1.1
theorem la_n2 {h : jH} {o : Nat} (A : LA h o) : j_n h (o + 2) = 25 := A.2.2.2.1.2
theorem la_v3 {h : jH} {o : Nat} (A : LA h o) {h2 : jH} (e : sR h2 h) (f : Nat → Option jO) : j_rv (va_rf (j_R h2 o 3)) f = f (o + 3) := rv_of A.2.1.2.2.1 e f
theorem la_k3 {h : jH} {o : Nat} (A : LA h o) : j_k h (o + 3) = 0 := A.2.2.2.2.1.1
theorem la_n3 {h : jH} {o : Nat} (A : LA h o) : j_n h (o + 3) = 4 := A.2.2.2.2.1.2
theorem la_v4 {h : jH} {o : Nat} (A : LA h o) {h2 : jH} (e : sR h2 h) (f : Nat → Option jO) : j_rv (va_rf (j_R h2 o 4)) f = f (o + 4) := rv_of A.2.1.2.2.2.1 e f
theorem la_k4 {h : jH} {o : Nat} (A : LA h o) : j_k h (o + 4) = 0 := A.2.2.2.2.2.1.1
theorem la_n4 {h : jH} {o : Nat} (A : LA h o) : j_n h (o + 4) = 4 := A.2.2.2.2.2.1.2
theorem la_v5 {h : jH} {o : Nat} (A : LA h o) {h2 : jH} (e : sR h2 h) (f : Nat → Option jO) : j_rv (va_rf (j_R h2 o 5)) f = f (o + 5) := rv_of A.2.1.2.2.2.2.1 e f
theorem la_k5 {h : jH} {o : Nat} (A : LA h o) : j_k h (o + 5) = 0 := A.2.2.2.2.2.2.1.1
theorem la_n5 {h : jH} {o : Nat} (A : LA h o) : j_n h (o + 5) = 4 := A.2.2.2.2.2.2.1.2
theorem la_v6 {h : jH} {o : Nat} (A : LA h o) {h2 : jH} (e : sR h2 h) (f : Nat → Option jO) : j_rv (va_rf (j_R h2 o 6)) f = f (o + 6) := rv_of A.2.1.2.2.2.2.2.1 e f
theorem la_k6 {h : jH} {o : Nat} (A : LA h o) : j_k h (o + 6) = 0 := A.2.2.2.2.2.2.2.1.1
theorem la_n6 {h : jH} {o : Nat} (A : LA h o) : j_n h (o + 6) = 4 := A.2.2.2.2.2.2.2.1.2
theorem la_v7 {h : jH} {o : Nat} (A : LA h o) {h2 : jH} (e : sR h2 h) (f : Nat → Option jO) : j_rv (va_rf (j_R h2 o 7)) f = f (o + 7) := rv_of A.2.1.2.2.2.2.2.2.1 e f
theorem la_k7 {h : jH} {o : Nat} (A : LA h o) : j_k h (o + 7) = 1 := A.2.2.2.2.2.2.2.2.1.1
theorem la_n7 {h : jH} {o : Nat} (A : LA h o) : j_n h (o + 7) = 4 := A.2.2.2.2.2.2.2.2.1.2
theorem la_v9 {h : jH} {o : Nat} (A : LA h o) {h2 : jH} (e : sR h2 h) (f : Nat → Option jO) : j_rv (va_rf (j_R h2 o 9)) f = f (o + 8) := rv_of A.2.1.2.2.2.2.2.2.2.1 e f
theorem la_k8 {h : jH} {o : Nat} (A : LA h o) : j_k h (o + 8) = 0 := A.2.2.2.2.2.2.2.2.2.1.1
theorem la_n8 {h : jH} {o : Nat} (A : LA h o) : j_n h (o + 8) = 6 := A.2.2.2.2.2.2.2.2.2.1.2
theorem la_v10 {h : jH} {o : Nat} (A : LA h o) {h2 : jH} (e : sR h2 h) (f : Nat → Option jO) : j_rv (va_rf (j_R h2 o 10)) f = f (o + 9) := rv_of A.2.1.2.2.2.2.2.2.2.2.1 e f
theorem la_k9 {h : jH} {o : Nat} (A : LA h o) : j_k h (o + 9) = 0 := A.2.2.2.2.2.2.2.2.2.2.1.1
theorem la_n9 {h : jH} {o : Nat} (A : LA h o) : j_n h (o + 9) = 6 := A.2.2.2.2.2.2.2.2.2.2.1.2
theorem la_v11 {h : jH} {o : Nat} (A : LA h o) {h2 : jH} (e : sR h2 h) (f : Nat → Option jO) : j_rv (va_rf (j_R h2 o 11)) f = f (o + 10) := rv_of A.2.1.2.2.2.2.2.2.2.2.2.1 e f
theorem la_k10 {h : jH} {o : Nat} (A : LA h o) : j_k h (o + 10) = 0 := A.2.2.2.2.2.2.2.2.2.2.2.1.1
theorem la_n10 {h : jH} {o : Nat} (A : LA h o) : j_n h (o + 10) = 3 := A.2.2.2.2.2.2.2.2.2.2.2.1.2
theorem la_v12 {h : jH} {o : Nat} (A : LA h o) {h2 : jH} (e : sR h2 h) (f : Nat → Option jO) : j_rv (va_rf (j_R h2 o 12)) f = f (o + 11) := rv_of A.2.1.2.2.2.2.2.2.2.2.2.2 e f
theorem la_k11 {h : jH} {o : Nat} (A : LA h o) : j_k h (o + 11) = 4 := A.2.2.2.2.2.2.2.2.2.2.2.2.1
theorem la_n11 {h : jH} {o : Nat} (A : LA h o) : j_n h (o + 11) = 6 := A.2.2.2.2.2.2.2.2.2.2.2.2.2
theorem LA.fr {D E : Nat → Nat → Prop} {h h' : jH} {o : Nat} (A : LA h o) (x : jX D E h h') (e : ∀ i, ¬ E o i) : LA h' o := by
  unfold LA at A ⊢
  simp only [x.k, x.n, x.R (e _)]
  exact A
theorem LI.fr {D E : Nat → Nat → Prop} {h h' : jH} {o : Nat} {k : Nat → Nat} (I : LI h o k) (x : jX D E h h') (d : ∀ j i, j < 11 → ¬ D (o + j) i) : LI h' o k := by
  have e0 : ∀ i, j_I h' o i = j_I h o i := fun i => x.I (d 0 i (by omega))
  have e : ∀ j i, j < 11 → j_I h' (o + j) i = j_I h (o + j) i := fun j i hj => x.I (d j i hj)
  have ej : ∀ i, j_J h' (o + 7) i = j_J h (o + 7) i := fun i => x.J (d 7 i (by omega))
  unfold LI at I ⊢
  simp only [e0, ej, e 1 _ (by omega), e 2 _ (by omega), e 3 _ (by omega), e 4 _ (by omega), e 5 _ (by omega), e 6 _ (by omega), e 8 _ (by omega), e 9 _ (by omega), e 10 _ (by omega)]
  exact I
theorem KLp.fr {h h' : jH} {p : Nat} (e : ∀ j i, j < 7 → j_I h' (p + j) i = j_I h (p + j) i) : ∀ {cs : List Cz} {i sz : Nat}, KLp h p i sz cs → KLp h' p i sz cs
  | [], _, _, _ => True.intro
  | c :: cs, i, sz, K => ⟨by
      have K1 := K.1
      unfold KZp at K1 ⊢
      simp only [e 2 _ (by omega), e 3 _ (by omega), e 4 _ (by omega), e 5 _ (by omega), e 6 _ (by omega)]
      exact K1, KLp.fr e K.2⟩
theorem TX.fr {D E : Nat → Nat → Prop} {h h' : jH} {p : Nat} {od : Bool} {cs : List Cz} (X : TX h p od cs) (x : jX D E h h') (d : ∀ j i, j < 7 → ¬ D (p + j) i) (e : ∀ i, ¬ E p i) : TX h' p od cs := by
  obtain ⟨na, nb, ⟨A, ha, hb⟩, K, h6, h7, hl, hz, hc, g, g2⟩ := X
  have e0 : ∀ i, j_I h' p i = j_I h p i := fun i => x.I (d 0 i (by omega))
  refine ⟨na, nb, ⟨?_, ha, hb⟩, KLp.fr (fun j i hj => x.I (d j i hj)) K, by rw [e0]; exact h6, by rw [e0]; exact h7, hl, hz, fun i hi => by rw [x.I (d 1 i (by omega))]; exact hc i hi, g, g2⟩
  unfold TA at A ⊢
  simp only [x.k, x.n, x.R (e _)]
  exact A
/-- a law by one more than its number, none by 0, as a value of the class -/
def Lv (h : jH) (k : Nat → Nat) (q : Nat) (V : Value) : Prop := (q = 0 ∧ V = .null) ∨ (0 < q ∧ q ≤ k 179 ∧ ∃ t : Nat, V = .ref t ∧ 110 < t ∧ TX h t false (kC k (q - 1)))
def lwT (k : Nat → Nat) (q head w fr to lo hi wo : Nat) : Nat := if q = 0 then wo else (kC k (q - 1)).foldl (h_tell (lE k w fr to) head lo hi) wo
theorem S_lw (k : Nat → Nat) (head w fr to lo hi wo : Nat) : S_tells k head w fr to lo hi wo = lwT k (k 180) head w fr to lo hi wo := rfl
def dU : Nat → Nat → Prop := fun a _ => a = 73 ∨ a = 74
theorem Lv.fr {D E : Nat → Nat → Prop} {h h' : jH} {k : Nat → Nat} {q : Nat} {V : Value} (L : Lv h k q V) (x : jX D E h h') (d : ∀ a i, 110 < a → ¬ D a i ∧ ¬ E a i) : Lv h' k q V := by
  rcases L with L | ⟨h1, h2, t, h3, h4, X⟩
  · exact Or.inl L
  · exact Or.inr ⟨h1, h2, t, h3, h4, X.fr x (fun j i _ => (d _ i (by omega)).1) (fun i => (d _ i h4).2)⟩
theorem U_XE {h : jH} {k : Nat → Nat} (W : WK k) {w fr to : Nat} (hw : w < 4) (hf : fr < 25) (ht : to < 25) (k1 : j_k h 73 = 1) (n1 : j_n h 73 = 8) (v : ∀ i, i < 8 → j_J h 73 i = iL (lwd k w fr to i)) : XE h 73 (lE k w fr to) false := by
  refine ⟨k1, by omega, by omega, fun c i => lE_b W hw hf ht c i, fun c u q => ?_⟩
  obtain ⟨q1, q2, q3⟩ := q
  have q1' : 8 ≤ c := q1
  have q2' : c ≤ 15 := q2
  rw [n1]
  obtain rfl | rfl | rfl | rfl | rfl | rfl | rfl | rfl : c = 8 ∨ c = 9 ∨ c = 10 ∨ c = 11 ∨ c = 12 ∨ c = 13 ∨ c = 14 ∨ c = 15 := by omega
  · exact ⟨(show (0 : Nat) < 8 by omega), v 0 (by omega)⟩
  · exact ⟨(show (2 : Nat) < 8 by omega), v 2 (by omega)⟩
  · exact ⟨(show (3 : Nat) < 8 by omega), v 3 (by omega)⟩
  · exact ⟨(show (4 : Nat) < 8 by omega), v 4 (by omega)⟩
  · exact ⟨(show (5 : Nat) < 8 by omega), v 5 (by omega)⟩
  · exact ⟨(show (7 : Nat) < 8 by omega), v 7 (by omega)⟩
  · exact ⟨(show (1 : Nat) < 8 by omega), v 1 (by omega)⟩
  · exact ⟨(show (6 : Nat) < 8 by omega), v 6 (by omega)⟩
theorem hW_X {h h' : jH} {D E : Nat → Nat → Prop} (x : jX D E h h') (d : ∀ i, D 74 i) (st : Nat → Int64) : jX D E h (hW h' st) := by
  unfold hW
  exact x.wJ (fun i n => absurd (d i) n)
theorem ShF.fr {D E : Nat → Nat → Prop} {h h' : jH} (S : ShF h) (x : jX D E h h') (e : ∀ a i, ¬ E a i) : ShF h' := by
  unfold ShF at S ⊢
  simp only [x.k, x.n, x.R (e _ _)]
  exact S
theorem U_words2 {F : Nat × Nat} {h : jH} (S : ShF h) {o : Nat} {k : Nat → Nat} (A : LA h o) (I : LI h o k) (W : WK k) {w fr to : Nat} (hw : w < k 177) (hf : fr < 25) (ht : to < 25) : ∃ h', m_U_tellLawWords F 72 o (nI w) (nI fr) (nI to) h = some (none, h') ∧ jX d73 jN h h' ∧ XE h' 73 (lE k w fr to) false := by
  obtain ⟨h', e, x, v⟩ := U_words (F := F) S A I W hw hf ht
  have := W.many
  exact ⟨h', e, x, U_XE W (by omega) hf ht (by rw [x.k]; exact sf_k73 S) (by rw [x.n]; exact sf_n73 S) v⟩
theorem U_told {F : Nat × Nat} (hF : FF F) {h : jH} (S : ShF h) {p : Nat} {cs : List Cz} (X : TX h p false cs) {e : Ev} (E : XE h 73 e false) {hd hc lo hi : Nat} (hab : (hc, hd) ∈ ctab) (hh : hc < 1000) (hlo : lo ≤ 100) (hhi : hi ≤ 100) (hlh : lo ≤ hi) : ∃ st, m_U_lastTold F 72 p (nI hc) (nI lo) (nI hi) h = some (some (.int (nI (cs.foldl (h_tell e hd lo hi) 1))), hW h st) := by
  obtain ⟨na, nb, ⟨A, ha, hb⟩, K, h6, h7, hl, hz, hcc, g, g2⟩ := id X
  have hF1 := hF.1
  obtain ⟨st, c⟩ := C_last hF S X E hab hh hlo hhi hlh cs.length F.1 (j_J h 74) (Nat.le_refl _) (by omega)
  rw [hW_0, List.take_length] at c
  refine ⟨st, ?_⟩
  rw [q_U_lastTold, if_pos A.1, h7, iV_b]
  exact c
theorem U_cost {F : Nat × Nat} (hF : FF F) {h : jH} (S : ShF h) {o : Nat} {k : Nat → Nat} (A : LA h o) (I : LI h o k) (W : WK k) {q : Nat} {V : Value} (L : Lv h k q V) {w fr to : Nat} (hw : w < k 177) (hf : fr < 25) (ht : to < 25) : ∃ h', m_U_cost F 72 o V (nI w) (nI fr) (nI to) h = some (some (.int (nI (lwT k q 1 w fr to 1 9 1))), h') ∧ jX dU jN h h' := by
  rcases L with ⟨rfl, rfl⟩ | ⟨h1, h2, t, rfl, h4, X⟩
  · exact ⟨h, rfl, jX.rf⟩
  · obtain ⟨h', e, x, E⟩ := U_words2 (F := F) S A I W hw hf ht
    have X' := X.fr x (fun j i _ => by unfold d73; omega) (fun i n => n)
    have S' := S.fr x (fun a i n => n)
    obtain ⟨st, c⟩ := U_told hF S' X' E (hd := 1) (hc := 300) (lo := 1) (hi := 9) (by decide) (by omega) (by omega) (by omega) (by omega)
    refine ⟨hW h' st, ?_, hW_X (D := dU) (x.up (fun a i d => Or.inl d) (fun _ _ d => d)) (fun i => Or.inr rfl) st⟩
    have z : lwT k q 1 w fr to 1 9 1 = (kC k (q - 1)).foldl (h_tell (lE k w fr to) 1 1 9) 1 := by unfold lwT; rw [if_neg (by omega)]
    rw [z]
    have k2 : j_k h' 72 = 14 := by rw [x.k]; exact sf_k72 S
    rw [q_U_cost]
    simp only [ft_isr, ft_ifr, cond_true, sf_k72 S, if_true, bV_of e, ft_rvr, k2, bI_of c]
theorem U_sight {F : Nat × Nat} (hF : FF F) {h : jH} (S : ShF h) {o : Nat} {k : Nat → Nat} (A : LA h o) (I : LI h o k) (W : WK k) {q : Nat} {V : Value} (L : Lv h k q V) {w fr : Nat} (hw : w < k 177) (hf : fr < 25) : ∃ h', m_U_sight F 72 o V (nI w) (nI fr) h = some (some (.int (nI (lwT k q 2 w fr fr 0 3 1))), h') ∧ jX dU jN h h' := by
  rcases L with ⟨rfl, rfl⟩ | ⟨h1, h2, t, rfl, h4, X⟩
  · exact ⟨h, rfl, jX.rf⟩
  · obtain ⟨h', e, x, E⟩ := U_words2 (F := F) S A I W hw hf hf
    have X' := X.fr x (fun j i _ => by unfold d73; omega) (fun i n => n)
    have S' := S.fr x (fun a i n => n)
    obtain ⟨st, c⟩ := U_told hF S' X' E (hd := 2) (hc := 301) (lo := 0) (hi := 3) (by decide) (by omega) (by omega) (by omega) (by omega)
    refine ⟨hW h' st, ?_, hW_X (D := dU) (x.up (fun a i d => Or.inl d) (fun _ _ d => d)) (fun i => Or.inr rfl) st⟩
    have z : lwT k q 2 w fr fr 0 3 1 = (kC k (q - 1)).foldl (h_tell (lE k w fr fr) 2 0 3) 1 := by unfold lwT; rw [if_neg (by omega)]
    rw [z]
    have k2 : j_k h' 72 = 14 := by rw [x.k]; exact sf_k72 S
    rw [q_U_sight]
    simp only [ft_isr, ft_ifr, cond_true, sf_k72 S, if_true, bV_of e, ft_rvr, k2, bI_of c]
/-- a clause that bars has no sum -/
def bN (cs : List Cz) : Prop := ∀ c ∈ cs, c.1 = 3 → c.2.1 = none
theorem bN_one {T : Tk} (s : Ps) : (h_one T false s).2.1 = 3 → (h_one T false s).2.2.1 = none := by
  intro e
  have e' : T.1 s.2.1 = 3 := e
  show (h_lsum T s).2.1 = none
  have n1 : ¬ h_tk T 1 s = true := by unfold h_tk; rw [e']; simp
  have n2 : ¬ h_tk T 2 s = true := by unfold h_tk; rw [e']; simp
  unfold h_lsum
  rw [if_neg n1, if_neg n2]
theorem bN_xl {T : Tk} : ∀ f m (x : Ps × List Cz), bN x.2 → bN (h_xl T false f m x).2
  | 0, m, x, h => h
  | f + 1, m, x, h => by
    unfold h_xl
    by_cases w : h_tk T 159 x.1 = true
    · rw [if_pos w]
      by_cases e : m = 12
      · rw [if_pos e]; exact h
      · rw [if_neg e]
        refine bN_xl f (m + 1) _ (fun c hc => ?_)
        rcases List.mem_append.mp hc with q | q
        · exact h c q
        · rw [List.mem_singleton.mp q]; exact bN_one _
    · rw [if_neg w]; exact h
theorem bN_text (T : Tk) (n : Nat) : bN (h_text T false n).2 := by
  refine bN_xl hN 1 ((h_one T false (true, 0, 0)).1, [(h_one T false (true, 0, 0)).2]) (fun c hc => ?_)
  rw [List.mem_singleton.mp hc]
  exact bN_one _
theorem bA_fold {e : Ev} : ∀ (cs : List Cz) (b : Bool), bN cs → cs.foldl (h_tell e 3 0 1) (ft_z b) = ft_z (b || bA e 3 cs)
  | [], b, _ => by simp [bA]
  | c :: cs, b, n => by
    have n2 : bN cs := fun c hc => n c (List.mem_cons_of_mem _ hc)
    have eb : bA e 3 (c :: cs) = ((c.1 == 3 && h_holds e c) || bA e 3 cs) := rfl
    rw [List.foldl_cons, eb]
    have st : h_tell e 3 0 1 (ft_z b) c = ft_z (b || (c.1 == 3 && h_holds e c)) := by
      unfold h_tell
      by_cases w : c.1 = 3
      · have s := n c List.mem_cons_self w
        unfold h_cw
        rw [if_pos w, s, w]
        cases hh : h_holds e c
        · simp
        · simp [h_clamp]; rfl
      · have wb : (c.1 == 3) = false := by simpa using w
        rw [if_neg w, wb]; simp
    rw [st, bA_fold cs _ n2, Bool.or_assoc]
def lwB (k : Nat → Nat) (q w fr to : Nat) : Bool := decide (0 < q) && bA (lE k w fr to) 3 (kC k (q - 1))
theorem lwT_B (k : Nat → Nat) (q w fr to : Nat) : lwT k q 3 w fr to 0 1 0 = ft_z (lwB k q w fr to) := by
  unfold lwT lwB
  by_cases h : q = 0
  · rw [if_pos h, h]; rfl
  · rw [if_neg h, decide_eq_true (by omega : 0 < q), Bool.true_and]
    exact bA_fold (kC k (q - 1)) false (bN_text _ _)
theorem U_bars {F : Nat × Nat} (hF : FF F) {h : jH} (S : ShF h) {o : Nat} {k : Nat → Nat} (A : LA h o) (I : LI h o k) (W : WK k) {q : Nat} {V : Value} (L : Lv h k q V) {w fr to : Nat} (hw : w < k 177) (hf : fr < 25) (ht : to < 25) : ∃ h', m_U_bars F 72 o V (nI w) (nI fr) (nI to) h = some (some (.int (nI (ft_z (lwB k q w fr to)))), h') ∧ jX dU jN h h' := by
  rcases L with ⟨rfl, rfl⟩ | ⟨h1, h2, t, rfl, h4, X⟩
  · exact ⟨h, rfl, jX.rf⟩
  · obtain ⟨h', e, x, E⟩ := U_words2 (F := F) S A I W hw hf ht
    have X' := X.fr x (fun j i _ => by unfold d73; omega) (fun i n => n)
    have S' := S.fr x (fun a i n => n)
    obtain ⟨na, nb, ⟨TA, ha, hb⟩, K, h6, h7, hl, hz, hcc, g, g2⟩ := id X'
    have hF1 := hF.1
    obtain ⟨st, c⟩ := C_bars hF S' X' E (kC k (q - 1)).length 0 F.1 (j_J h' 74) (by omega) (by omega)
    rw [hW_0, List.drop_zero] at c
    refine ⟨hW h' st, ?_, hW_X (D := dU) (x.up (fun a i d => Or.inl d) (fun _ _ d => d)) (fun i => Or.inr rfl) st⟩
    have z : lwB k q w fr to = bA (lE k w fr to) 3 (kC k (q - 1)) := by unfold lwB; rw [decide_eq_true h1, Bool.true_and]
    rw [z, q_U_bars]
    simp only [ft_isr, ft_ifr, cond_true, sf_k72 S, if_true, bV_of e, c]
