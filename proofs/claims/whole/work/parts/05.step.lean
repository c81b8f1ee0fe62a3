/-! ONE STEP of the plain machine is one step of the JVM -/
/-- what holds of a state in which our methods run -/
def jKn (E : jEv) (U : State) : Prop :=
  (∀ ci, ci < 8 → u_Kn U (jRf ci) (jTf ci) (jNf ci) (E.2.2.2.1 ci) (E.2.2.2.2 ci)) ∧
  (∀ q, q < 6 → ArrOfT U (E.2.2.1 q) (j_ety q) ∧ va_RA U (E.2.2.1 q) (j_ety q)) ∧
  (∀ w ∈ jnw, va_Nw w U) ∧ va_AO "FootMaps$Text" U ∧ va_AO "FootMaps$Land" U ∧ va_Nw (.castable "[I" "java/lang/Cloneable") U ∧
  va_Z "FootMaps" "MOST_TERM" "[I" (.ref (E.1 0)) (e_A E) U U.heap ∧ va_Z "FootMaps" "WAYS_LOWEST_FIRST" "[I" (.ref (E.1 1)) (e_A E) U U.heap ∧
  (∃ tx : String, vk_R "FootMaps$Reader" 95 tx (E.1 3) U) ∧
  (∃ adV : Nat → Nat, vk_S 1 [jwb.length] [jwb] (fun _ => E.1 3) adV (e_A E) U U.heap) ∧
  va_Z "java/lang/String" "COMPACT_STRINGS" "Z" (.int 1) (e_A E) U U.heap ∧ va_Zq "jdk/internal/util/Preconditions" "SIOOBE_FORMATTER" "Ljava/util/function/BiFunction;" (e_A E) U U.heap
section JS
variable {p : Program} {l : Launch} {e0 : Env} {R : Room} {s : State} {m : MethodId} {args : Array Value} {below : List Frame} {meth : Method} {c : Code} {Q : State → Prop} {E : jEv} {cc : ByteArray} {own : String} {nL n0 z0 : Nat} {out : jO}
def jWp (p : Program) (l : Launch) (e0 : Env) (R : Room) (s : State) (m : MethodId) (args : Array Value) (below : List Frame) (meth : Method) (c : Code) (Q : State → Prop) (E : jEv) (nL n0 z0 : Nat) (pc : Nat) (L : jL) (S : List Value) (h : jH) : Prop :=
  n0 ≤ j_c h → z0 ≤ j_z h → ∀ (H : Heap) (locs : List Loc) (ls : Array Slot), jWd E h H → jSt E h s → va_S (e_A E) s.heap H locs → jLr E L ls nL → W p l e0 R s m args below meth c H locs (j_c h - n0) (j_z h - z0) Q (F0 m pc ls (S.map (cv E)))
def jG1 (p : Program) (l : Launch) (e0 : Env) (R : Room) (s : State) (m : MethodId) (args : Array Value) (below : List Frame) (meth : Method) (c : Code) (Q : State → Prop) (E : jEv) (nL n0 z0 : Nat) (out : jO) (pc : Nat) (L : jL) (S : List Value) (h : jH) : Prop :=
  (j_c h ≤ j_c out.2 ∧ j_z h ≤ j_z out.2) ∧ jWp p l e0 R s m args below meth c Q E nL n0 z0 pc L S h
abbrev jHk (p : Program) (l : Launch) (e0 : Env) (R : Room) (s : State) (m : MethodId) (args : Array Value) (below : List Frame) (meth : Method) (c : Code) (Q : State → Prop) (E : jEv) (nL n0 z0 : Nat) (out : jO) (k : jK) : Prop := ∀ pc L S h, k pc L S h = some out → jG1 p l e0 R s m args below meth c Q E nL n0 z0 out pc L S h
variable {k : jK}
variable {pc nx : Nat} {L : jL} {S : List Value} {h : jH}
theorem js_push (hk : jHk p l e0 R s m args below meth c Q E nL n0 z0 out k) {v : Value} (row : ∀ (rest : List Value) (H : Heap) (locs : List Loc) (cells slots : Nat) (ls : Array Slot), W p l e0 R s m args below meth c H locs cells slots Q (F0 m nx ls (cv E v :: rest)) → W p l e0 R s m args below meth c H locs cells slots Q (F0 m pc ls rest)) (e : k nx L (v :: S) h = some out) : jG1 p l e0 R s m args below meth c Q E nL n0 z0 out pc L S h := by
  obtain ⟨mo, w⟩ := hk _ _ _ _ e
  exact ⟨mo, fun a1 b1 H locs ls g1 g2 g3 g4 => row _ _ _ _ _ _ (w a1 b1 H locs ls g1 g2 g3 g4)⟩
theorem js_i2 (hk : jHk p l e0 R s m args below meth c Q E nL n0 z0 out k) {f : Int32 → Int32 → Int32} (row : ∀ (a b : Int32) (rest : List Value) (H : Heap) (locs : List Loc) (cells slots : Nat) (ls : Array Slot), W p l e0 R s m args below meth c H locs cells slots Q (F0 m nx ls (.int (f a b) :: rest)) → W p l e0 R s m args below meth c H locs cells slots Q (F0 m pc ls (.int b :: .int a :: rest))) (e : (j_i2 S fun a b S => k nx L (.int (f a b) :: S) h) = some out) : jG1 p l e0 R s m args below meth c Q E nL n0 z0 out pc L S h := by
  unfold j_i2 at e
  split at e
  · obtain ⟨mo, w⟩ := hk _ _ _ _ e
    exact ⟨mo, fun a1 b1 H locs ls g1 g2 g3 g4 => row _ _ _ _ _ _ _ _ (w a1 b1 H locs ls g1 g2 g3 g4)⟩
  · cases e
theorem js_i2d (hk : jHk p l e0 R s m args below meth c Q E nL n0 z0 out k) {f : Int32 → Int32 → Int32} (row : ∀ (a b : Int32), ¬ b = 0 → ∀ (rest : List Value) (H : Heap) (locs : List Loc) (cells slots : Nat) (ls : Array Slot), W p l e0 R s m args below meth c H locs cells slots Q (F0 m nx ls (.int (f a b) :: rest)) → W p l e0 R s m args below meth c H locs cells slots Q (F0 m pc ls (.int b :: .int a :: rest))) (e : (j_i2 S fun a b S => if b = 0 then none else k nx L (.int (f a b) :: S) h) = some out) : jG1 p l e0 R s m args below meth c Q E nL n0 z0 out pc L S h := by
  unfold j_i2 at e
  split at e
  · dsimp only at e
    split at e
    · cases e
    · rename_i hb
      obtain ⟨mo, w⟩ := hk _ _ _ _ e
      exact ⟨mo, fun a1 b1 H locs ls g1 g2 g3 g4 => row _ _ hb _ _ _ _ _ _ (w a1 b1 H locs ls g1 g2 g3 g4)⟩
  · cases e
theorem js_l2 (hk : jHk p l e0 R s m args below meth c Q E nL n0 z0 out k) {f : Int64 → Int64 → Value} (hf : ∀ a b, cv E (f a b) = f a b) (row : ∀ (a b : Int64) (rest : List Value) (H : Heap) (locs : List Loc) (cells slots : Nat) (ls : Array Slot), W p l e0 R s m args below meth c H locs cells slots Q (F0 m nx ls (f a b :: rest)) → W p l e0 R s m args below meth c H locs cells slots Q (F0 m pc ls (.long b :: .long a :: rest))) (e : (j_l2 S fun a b S => k nx L (f a b :: S) h) = some out) : jG1 p l e0 R s m args below meth c Q E nL n0 z0 out pc L S h := by
  unfold j_l2 at e
  split at e
  · obtain ⟨mo, w⟩ := hk _ _ _ _ e
    exact ⟨mo, fun a1 b1 H locs ls g1 g2 g3 g4 => row _ _ _ _ _ _ _ _ (by have := w a1 b1 H locs ls g1 g2 g3 g4; rwa [List.map_cons, hf] at this)⟩
  · cases e
theorem js_l2d (hk : jHk p l e0 R s m args below meth c Q E nL n0 z0 out k) {f : Int64 → Int64 → Int64} (row : ∀ (a b : Int64), ¬ b = 0 → ∀ (rest : List Value) (H : Heap) (locs : List Loc) (cells slots : Nat) (ls : Array Slot), W p l e0 R s m args below meth c H locs cells slots Q (F0 m nx ls (.long (f a b) :: rest)) → W p l e0 R s m args below meth c H locs cells slots Q (F0 m pc ls (.long b :: .long a :: rest))) (e : (j_l2 S fun a b S => if b = 0 then none else k nx L (.long (f a b) :: S) h) = some out) : jG1 p l e0 R s m args below meth c Q E nL n0 z0 out pc L S h := by
  unfold j_l2 at e
  split at e
  · dsimp only at e
    split at e
    · cases e
    · rename_i hb
      obtain ⟨mo, w⟩ := hk _ _ _ _ e
      exact ⟨mo, fun a1 b1 H locs ls g1 g2 g3 g4 => row _ _ hb _ _ _ _ _ _ (w a1 b1 H locs ls g1 g2 g3 g4)⟩
  · cases e
theorem js_li (hk : jHk p l e0 R s m args below meth c Q E nL n0 z0 out k) {f : Int64 → Int32 → Int64} (row : ∀ (a : Int64) (b : Int32) (rest : List Value) (H : Heap) (locs : List Loc) (cells slots : Nat) (ls : Array Slot), W p l e0 R s m args below meth c H locs cells slots Q (F0 m nx ls (.long (f a b) :: rest)) → W p l e0 R s m args below meth c H locs cells slots Q (F0 m pc ls (.int b :: .long a :: rest))) (e : (j_li S fun a b S => k nx L (.long (f a b) :: S) h) = some out) : jG1 p l e0 R s m args below meth c Q E nL n0 z0 out pc L S h := by
  unfold j_li at e
  split at e
  · obtain ⟨mo, w⟩ := hk _ _ _ _ e
    exact ⟨mo, fun a1 b1 H locs ls g1 g2 g3 g4 => row _ _ _ _ _ _ _ _ (w a1 b1 H locs ls g1 g2 g3 g4)⟩
  · cases e
theorem js_i1 (hk : jHk p l e0 R s m args below meth c Q E nL n0 z0 out k) {f : Int32 → Value} (hf : ∀ a, cv E (f a) = f a) (row : ∀ (a : Int32) (rest : List Value) (H : Heap) (locs : List Loc) (cells slots : Nat) (ls : Array Slot), W p l e0 R s m args below meth c H locs cells slots Q (F0 m nx ls (f a :: rest)) → W p l e0 R s m args below meth c H locs cells slots Q (F0 m pc ls (.int a :: rest))) (e : (j_i1 S fun a S => k nx L (f a :: S) h) = some out) : jG1 p l e0 R s m args below meth c Q E nL n0 z0 out pc L S h := by
  unfold j_i1 at e
  split at e
  · obtain ⟨mo, w⟩ := hk _ _ _ _ e
    exact ⟨mo, fun a1 b1 H locs ls g1 g2 g3 g4 => row _ _ _ _ _ _ _ (by have := w a1 b1 H locs ls g1 g2 g3 g4; rwa [List.map_cons, hf] at this)⟩
  · cases e
theorem js_l1 (hk : jHk p l e0 R s m args below meth c Q E nL n0 z0 out k) {f : Int64 → Int32} (row : ∀ (a : Int64) (rest : List Value) (H : Heap) (locs : List Loc) (cells slots : Nat) (ls : Array Slot), W p l e0 R s m args below meth c H locs cells slots Q (F0 m nx ls (.int (f a) :: rest)) → W p l e0 R s m args below meth c H locs cells slots Q (F0 m pc ls (.long a :: rest))) (e : (j_l1 S fun a S => k nx L (.int (f a) :: S) h) = some out) : jG1 p l e0 R s m args below meth c Q E nL n0 z0 out pc L S h := by
  unfold j_l1 at e
  split at e
  · obtain ⟨mo, w⟩ := hk _ _ _ _ e
    exact ⟨mo, fun a1 b1 H locs ls g1 g2 g3 g4 => row _ _ _ _ _ _ _ (w a1 b1 H locs ls g1 g2 g3 g4)⟩
  · cases e
/-- a branch on one int -/
theorem js_b1 (hk : jHk p l e0 R s m args below meth c Q E nL n0 z0 out k) {P : Int32 → Prop} {dP : ∀ a, Decidable (P a)} {x y : Nat} (row : ∀ (a : Int32) (rest : List Value) (H : Heap) (locs : List Loc) (cells slots : Nat) (ls : Array Slot), (P a → W p l e0 R s m args below meth c H locs cells slots Q (F0 m x ls rest)) → (¬ P a → W p l e0 R s m args below meth c H locs cells slots Q (F0 m y ls rest)) → W p l e0 R s m args below meth c H locs cells slots Q (F0 m pc ls (.int a :: rest))) (e : (j_i1 S fun a S => @ite (Option jO) (P a) (dP a) (k x L S h) (k y L S h)) = some out) : jG1 p l e0 R s m args below meth c Q E nL n0 z0 out pc L S h := by
  unfold j_i1 at e
  split at e
  · rename_i a S'
    dsimp only at e
    by_cases hp : P a
    · rw [if_pos hp] at e
      obtain ⟨mo, w⟩ := hk _ _ _ _ e
      exact ⟨mo, fun a1 b1 H locs ls g1 g2 g3 g4 => row _ _ _ _ _ _ _ (fun _ => w a1 b1 H locs ls g1 g2 g3 g4) (fun q => absurd hp q)⟩
    · rw [if_neg hp] at e
      obtain ⟨mo, w⟩ := hk _ _ _ _ e
      exact ⟨mo, fun a1 b1 H locs ls g1 g2 g3 g4 => row _ _ _ _ _ _ _ (fun q => absurd q hp) (fun _ => w a1 b1 H locs ls g1 g2 g3 g4)⟩
  · cases e
theorem js_b2 (hk : jHk p l e0 R s m args below meth c Q E nL n0 z0 out k) {P : Int32 → Int32 → Prop} {dP : ∀ a b, Decidable (P a b)} {x y : Nat} (row : ∀ (a b : Int32) (rest : List Value) (H : Heap) (locs : List Loc) (cells slots : Nat) (ls : Array Slot), (P a b → W p l e0 R s m args below meth c H locs cells slots Q (F0 m x ls rest)) → (¬ P a b → W p l e0 R s m args below meth c H locs cells slots Q (F0 m y ls rest)) → W p l e0 R s m args below meth c H locs cells slots Q (F0 m pc ls (.int b :: .int a :: rest))) (e : (j_i2 S fun a b S => @ite (Option jO) (P a b) (dP a b) (k x L S h) (k y L S h)) = some out) : jG1 p l e0 R s m args below meth c Q E nL n0 z0 out pc L S h := by
  unfold j_i2 at e
  split at e
  · rename_i b a S'
    dsimp only at e
    by_cases hp : P a b
    · rw [if_pos hp] at e
      obtain ⟨mo, w⟩ := hk _ _ _ _ e
      exact ⟨mo, fun a1 b1 H locs ls g1 g2 g3 g4 => row _ _ _ _ _ _ _ _ (fun _ => w a1 b1 H locs ls g1 g2 g3 g4) (fun q => absurd hp q)⟩
    · rw [if_neg hp] at e
      obtain ⟨mo, w⟩ := hk _ _ _ _ e
      exact ⟨mo, fun a1 b1 H locs ls g1 g2 g3 g4 => row _ _ _ _ _ _ _ _ (fun q => absurd q hp) (fun _ => w a1 b1 H locs ls g1 g2 g3 g4)⟩
  · cases e
theorem js_ld (hk : jHk p l e0 R s m args below meth c Q E nL n0 z0 out k) {x : Nat} (row : ∀ (a : Int32) (rest : List Value) (H : Heap) (locs : List Loc) (cells slots : Nat) (ls : Array Slot), ls[x]? = some (.val (.int a)) → W p l e0 R s m args below meth c H locs cells slots Q (F0 m nx ls (.int a :: rest)) → W p l e0 R s m args below meth c H locs cells slots Q (F0 m pc ls rest)) (e : (j_ld L x fun v => k nx L (v :: S) h) = some out) : jG1 p l e0 R s m args below meth c Q E nL n0 z0 out pc L S h := by
  unfold j_ld at e
  split at e
  · rename_i v hv
    obtain ⟨mo, w⟩ := hk _ _ _ _ e
    exact ⟨mo, fun a1 b1 H locs ls g1 g2 g3 g4 => row _ _ _ _ _ _ _ (g4.at hv rfl) (w a1 b1 H locs ls g1 g2 g3 g4)⟩
  · cases e
theorem js_ld2 (hk : jHk p l e0 R s m args below meth c Q E nL n0 z0 out k) {x : Nat} (row : ∀ (a : Int64) (rest : List Value) (H : Heap) (locs : List Loc) (cells slots : Nat) (ls : Array Slot), ls[x]? = some (.val (.long a)) → W p l e0 R s m args below meth c H locs cells slots Q (F0 m nx ls (.long a :: rest)) → W p l e0 R s m args below meth c H locs cells slots Q (F0 m pc ls rest)) (e : (j_ld2 L x fun v => k nx L (v :: S) h) = some out) : jG1 p l e0 R s m args below meth c Q E nL n0 z0 out pc L S h := by
  unfold j_ld2 at e
  split at e
  · rename_i v hv
    split at e
    · rename_i z hz
      obtain ⟨mo, w⟩ := hk _ _ _ _ e
      exact ⟨mo, fun a1 b1 H locs ls g1 g2 g3 g4 => row _ _ _ _ _ _ _ (g4.at2 hv hz) (w a1 b1 H locs ls g1 g2 g3 g4)⟩
    · cases e
  · cases e
theorem js_lda (hk : jHk p l e0 R s m args below meth c Q E nL n0 z0 out k) {x : Nat} (row : ∀ (a : Nat) (rest : List Value) (H : Heap) (locs : List Loc) (cells slots : Nat) (ls : Array Slot), ls[x]? = some (.val (.ref a)) → W p l e0 R s m args below meth c H locs cells slots Q (F0 m nx ls (.ref a :: rest)) → W p l e0 R s m args below meth c H locs cells slots Q (F0 m pc ls rest)) (rowN : ∀ (rest : List Value) (H : Heap) (locs : List Loc) (cells slots : Nat) (ls : Array Slot), ls[x]? = some (.val .null) → W p l e0 R s m args below meth c H locs cells slots Q (F0 m nx ls (.null :: rest)) → W p l e0 R s m args below meth c H locs cells slots Q (F0 m pc ls rest)) (e : (j_lda L x fun v => k nx L (v :: S) h) = some out) : jG1 p l e0 R s m args below meth c Q E nL n0 z0 out pc L S h := by
  unfold j_lda at e
  split at e
  · rename_i v hv
    cases v with
    | ref a =>
      obtain ⟨mo, w⟩ := hk _ _ _ _ e
      exact ⟨mo, fun a1 b1 H locs ls g1 g2 g3 g4 => row _ _ _ _ _ _ _ (g4.at hv rfl) (w a1 b1 H locs ls g1 g2 g3 g4)⟩
    | null =>
      obtain ⟨mo, w⟩ := hk _ _ _ _ e
      exact ⟨mo, fun a1 b1 H locs ls g1 g2 g3 g4 => rowN _ _ _ _ _ _ (g4.at hv rfl) (w a1 b1 H locs ls g1 g2 g3 g4)⟩
    | _ => cases e
  · cases e
theorem js_st (hk : jHk p l e0 R s m args below meth c Q E nL n0 z0 out k) {x : Nat} (hx : x < nL) (row : ∀ (a : Int32) (lv : List (Nat × Value)) (rest : List Value) (H : Heap) (locs : List Loc) (cells slots : Nat) (ls : Array Slot), lv_has ls nL lv → (∀ ls' : Array Slot, lv_has ls' nL ((x, .int a) :: lv.filter (fun q => !(q.1 == x) && !(q.1 + 1 == x && q.2.category == 2))) → W p l e0 R s m args below meth c H locs cells slots Q (F0 m nx ls' rest)) → W p l e0 R s m args below meth c H locs cells slots Q (F0 m pc ls (.int a :: rest))) (e : (j_st L x S fun L S => k nx L S h) = some out) : jG1 p l e0 R s m args below meth c Q E nL n0 z0 out pc L S h := by
  unfold j_st at e
  split at e
  · rename_i v S'
    obtain ⟨mo, w⟩ := hk _ _ _ _ e
    exact ⟨mo, fun a1 b1 H locs ls g1 g2 g3 g4 => row _ _ _ _ _ _ _ _ g4.2 (fun ls' hls => w a1 b1 H locs ls' g1 g2 g3 (jLr.st g4.1 hx rfl hls))⟩
  · cases e
theorem js_sta (hk : jHk p l e0 R s m args below meth c Q E nL n0 z0 out k) {x : Nat} (hx : x < nL) (row : ∀ (a : Nat) (lv : List (Nat × Value)) (rest : List Value) (H : Heap) (locs : List Loc) (cells slots : Nat) (ls : Array Slot), lv_has ls nL lv → (∀ ls' : Array Slot, lv_has ls' nL ((x, .ref a) :: lv.filter (fun q => !(q.1 == x) && !(q.1 + 1 == x && q.2.category == 2))) → W p l e0 R s m args below meth c H locs cells slots Q (F0 m nx ls' rest)) → W p l e0 R s m args below meth c H locs cells slots Q (F0 m pc ls (.ref a :: rest)))
    (rowN : ∀ (lv : List (Nat × Value)) (rest : List Value) (H : Heap) (locs : List Loc) (cells slots : Nat) (ls : Array Slot), lv_has ls nL lv → (∀ ls' : Array Slot, lv_has ls' nL ((x, .null) :: lv.filter (fun q => !(q.1 == x) && !(q.1 + 1 == x && q.2.category == 2))) → W p l e0 R s m args below meth c H locs cells slots Q (F0 m nx ls' rest)) → W p l e0 R s m args below meth c H locs cells slots Q (F0 m pc ls (.null :: rest))) (e : (j_sta L x S fun L S => k nx L S h) = some out) : jG1 p l e0 R s m args below meth c Q E nL n0 z0 out pc L S h := by
  unfold j_sta at e
  split at e
  · rename_i v S'
    cases v with
    | ref a =>
      obtain ⟨mo, w⟩ := hk _ _ _ _ e
      exact ⟨mo, fun a1 b1 H locs ls g1 g2 g3 g4 => row _ _ _ _ _ _ _ _ g4.2 (fun ls' hls => w a1 b1 H locs ls' g1 g2 g3 (jLr.st g4.1 hx rfl hls))⟩
    | null =>
      obtain ⟨mo, w⟩ := hk _ _ _ _ e
      exact ⟨mo, fun a1 b1 H locs ls g1 g2 g3 g4 => rowN _ _ _ _ _ _ _ g4.2 (fun ls' hls => w a1 b1 H locs ls' g1 g2 g3 (jLr.st g4.1 hx rfl hls))⟩
    | _ => cases e
  · cases e
theorem js_st2 (hk : jHk p l e0 R s m args below meth c Q E nL n0 z0 out k) {x : Nat} (hx : x + 1 < nL) (row : ∀ (a : Int64) (lv : List (Nat × Value)) (rest : List Value) (H : Heap) (locs : List Loc) (cells slots : Nat) (ls : Array Slot), lv_has ls nL lv → (∀ ls' : Array Slot, lv_has ls' nL ((x, .long a) :: lv.filter (fun q => !(q.1 == x) && (!(q.1 == x + 1) && !(q.1 + 1 == x && q.2.category == 2)))) → W p l e0 R s m args below meth c H locs cells slots Q (F0 m nx ls' rest)) → W p l e0 R s m args below meth c H locs cells slots Q (F0 m pc ls (.long a :: rest))) (e : (j_st2 L x S fun L S => k nx L S h) = some out) : jG1 p l e0 R s m args below meth c Q E nL n0 z0 out pc L S h := by
  unfold j_st2 at e
  split at e
  · rename_i v S'
    obtain ⟨mo, w⟩ := hk _ _ _ _ e
    exact ⟨mo, fun a1 b1 H locs ls g1 g2 g3 g4 => row _ _ _ _ _ _ _ _ g4.2 (fun ls' hls => w a1 b1 H locs ls' g1 g2 g3 (jLr.st2 g4.1 hx hls))⟩
  · cases e
theorem js_iinc (hk : jHk p l e0 R s m args below meth c Q E nL n0 z0 out k) (hx0 : p.tables.exec = Jvm.exec) (hb : c.code = cc) {x : Nat} {v : Int32} {n : Int} (hx : x < nL) (hv : Int32.ofInt n = v) (hdg : decode cc pc = .ok (.iinc x n, 3)) (e : (match L[x]? with
      | some (some (.int a)) => k (pc + 3) (L.set x (some (.int (a + v)))) S h
      | _ => none) = some out) : jG1 p l e0 R s m args below meth c Q E nL n0 z0 out pc L S h := by
  split at e
  · rename_i a ha
    obtain ⟨mo, w⟩ := hk _ _ _ _ e
    refine ⟨mo, fun a1 b1 H locs ls g1 g2 g3 g4 => ?_⟩
    obtain ⟨i, hi⟩ := List.getElem?_of_mem (jpr_in (E := E) (L := L) (q := (x, .int a)).mpr (Or.inl ⟨.int a, ha, rfl, rfl⟩))
    exact lv_iinc hx0 hb hdg g4.2 (k := i) hi (v := a + v) (by rw [hv]) hx rfl (fun ls' hls => w a1 b1 H locs ls' g1 g2 g3 (jLr.st (v := .int (a + v)) g4.1 hx rfl hls))
  · cases e
end JS
