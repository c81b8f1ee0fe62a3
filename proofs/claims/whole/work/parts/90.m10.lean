def r_M_splits_169 (g : Nat → Int32 → Int32 → Int32 → Int32 → jH → Option jO) : jL → List Value → jH → Option jO := fun L S h => match L, S with
  | [some (.ref v0), some (.int v1), _, some (.int v3), some (.int v4), some (.int v5)], [] => g v0 v1 v3 v4 v5 h
  | _, _ => none
def r_M_splits_100 (g : Nat → Int32 → Int32 → Int32 → Int32 → jH → Option jO) : jL → List Value → jH → Option jO := fun L S h => match L, S with
  | [some (.ref v0), some (.int v1), some (.int v2), some (.int v3), some (.int v4), _], [] => g v0 v1 v2 v3 v4 h
  | _, _ => none
def r_M_splits_75 (g : Nat → Int32 → Int32 → Int32 → Int32 → jH → Option jO) : jL → List Value → jH → Option jO := fun L S h => match L, S with
  | [some (.ref v0), some (.int v1), some (.int v2), some (.int v3), some (.int v4), _], [] => g v0 v1 v2 v3 v4 h
  | _, _ => none
def r_M_splits_43 (g : Nat → Int32 → Int32 → Int32 → Int32 → jH → Option jO) : jL → List Value → jH → Option jO := fun L S h => match L, S with
  | [some (.ref v0), some (.int v1), some (.int v2), some (.int v3), some (.int v4), _], [] => g v0 v1 v2 v3 v4 h
  | _, _ => none
def r_M_splits_7 (g : Nat → Int32 → Int32 → jH → Option jO) : jL → List Value → jH → Option jO := fun L S h => match L, S with
  | [some (.ref v0), some (.int v1), some (.int v2), _, _, _], [] => g v0 v1 v2 h
  | _, _ => none
def c_M_splits (F : Nat × Nat) : jc1 := fun args h k => match args with
  | [w0, .int a1] => j_rv w0 fun a0 => if j_k h a0 = 17 then (jbV (m_M_splits F a0 a1 h) fun h => k none h) else none
  | _ => none
set_option maxRecDepth 100000 in
theorem e_M_splits_169 (F : Nat × Nat) (k7 : Nat → Int32 → Int32 → jH → Option jO) (f : Nat) (v0 : Nat) (v1 : Int32) (v3 : Int32) (v4 : Int32) (v5 : Int32) (u1 : Option Value) (h : jH) : m_M_splits_169 F k7 (f + 1) v0 v1 v3 v4 v5 h = jst (j_C [(208, c_M_isSmall F), (209, c_M_isDigit F), (210, c_M_wordOf F)]) 4 (cd_M_splits 169) [some (.ref v0), some (.int v1), u1, some (.int v3), some (.int v4), some (.int v5)] [] h (jrun (j_C [(208, c_M_isSmall F), (209, c_M_isDigit F), (210, c_M_wordOf F)]) 4 cd_M_splits (j_T [(7, r_M_splits_7 k7), (169, r_M_splits_169 (m_M_splits_169 F k7 f))]) 160) := rfl
set_option maxRecDepth 100000 in
theorem e_M_splits_100 (F : Nat × Nat) (k7 : Nat → Int32 → Int32 → jH → Option jO) (v0 : Nat) (v1 : Int32) (v2 : Int32) (v3 : Int32) (v4 : Int32) (u1 : Option Value) (h : jH) : m_M_splits_100 F k7 v0 v1 v2 v3 v4 h = jst (j_C [(208, c_M_isSmall F), (209, c_M_isDigit F), (210, c_M_wordOf F)]) 4 (cd_M_splits 100) [some (.ref v0), some (.int v1), some (.int v2), some (.int v3), some (.int v4), u1] [] h (jrun (j_C [(208, c_M_isSmall F), (209, c_M_isDigit F), (210, c_M_wordOf F)]) 4 cd_M_splits (j_T [(169, r_M_splits_169 (m_M_splits_169 F k7 F.1))]) 160) := rfl
set_option maxRecDepth 100000 in
theorem e_M_splits_75 (F : Nat × Nat) (k7 : Nat → Int32 → Int32 → jH → Option jO) (f : Nat) (v0 : Nat) (v1 : Int32) (v2 : Int32) (v3 : Int32) (v4 : Int32) (u1 : Option Value) (h : jH) : m_M_splits_75 F k7 (f + 1) v0 v1 v2 v3 v4 h = jst (j_C [(208, c_M_isSmall F), (209, c_M_isDigit F), (210, c_M_wordOf F)]) 4 (cd_M_splits 75) [some (.ref v0), some (.int v1), some (.int v2), some (.int v3), some (.int v4), u1] [] h (jrun (j_C [(208, c_M_isSmall F), (209, c_M_isDigit F), (210, c_M_wordOf F)]) 4 cd_M_splits (j_T [(75, r_M_splits_75 (m_M_splits_75 F k7 f)), (100, r_M_splits_100 (m_M_splits_100 F k7))]) 160) := rfl
set_option maxRecDepth 100000 in
theorem e_M_splits_43 (F : Nat × Nat) (k7 : Nat → Int32 → Int32 → jH → Option jO) (f : Nat) (v0 : Nat) (v1 : Int32) (v2 : Int32) (v3 : Int32) (v4 : Int32) (u1 : Option Value) (h : jH) : m_M_splits_43 F k7 (f + 1) v0 v1 v2 v3 v4 h = jst (j_C [(208, c_M_isSmall F), (209, c_M_isDigit F), (210, c_M_wordOf F)]) 4 (cd_M_splits 43) [some (.ref v0), some (.int v1), some (.int v2), some (.int v3), some (.int v4), u1] [] h (jrun (j_C [(208, c_M_isSmall F), (209, c_M_isDigit F), (210, c_M_wordOf F)]) 4 cd_M_splits (j_T [(43, r_M_splits_43 (m_M_splits_43 F k7 f)), (75, r_M_splits_75 (m_M_splits_75 F k7 F.1)), (100, r_M_splits_100 (m_M_splits_100 F k7))]) 160) := rfl
set_option maxRecDepth 100000 in
theorem e_M_splits_7 (F : Nat × Nat) (f : Nat) (v0 : Nat) (v1 : Int32) (v2 : Int32) (u1 : Option Value) (u2 : Option Value) (u3 : Option Value) (h : jH) : m_M_splits_7 F (f + 1) v0 v1 v2 h = jst (j_C [(208, c_M_isSmall F), (209, c_M_isDigit F), (210, c_M_wordOf F)]) 4 (cd_M_splits 7) [some (.ref v0), some (.int v1), some (.int v2), u1, u2, u3] [] h (jrun (j_C [(208, c_M_isSmall F), (209, c_M_isDigit F), (210, c_M_wordOf F)]) 4 cd_M_splits (j_T [(7, r_M_splits_7 (m_M_splits_7 F f)), (43, r_M_splits_43 (m_M_splits_43 F (m_M_splits_7 F f) F.1)), (75, r_M_splits_75 (m_M_splits_75 F (m_M_splits_7 F f) F.1)), (100, r_M_splits_100 (m_M_splits_100 F (m_M_splits_7 F f)))]) 160) := rfl
set_option maxRecDepth 100000 in
theorem e_M_splits (F : Nat × Nat) (o : Nat) (a1 : Int32) (h : jH) : m_M_splits F o a1 h = jrun (j_C [(208, c_M_isSmall F), (209, c_M_isDigit F), (210, c_M_wordOf F)]) 4 cd_M_splits (j_T [(7, r_M_splits_7 (m_M_splits_7 F F.1))]) 160 0 [some (.ref o), some (.int a1), none, none, none, none] [] h := rfl
theorem hc_M_splits (F : Nat × Nat) : jCok (1 + 0 * F.2) (j_C [(208, c_M_isSmall F), (209, c_M_isDigit F), (210, c_M_wordOf F)]) := jC_ok (List.forall_mem_cons.mpr ⟨(co_M_isSmall F).up (by omega), List.forall_mem_cons.mpr ⟨(co_M_isDigit F).up (by omega), List.forall_mem_cons.mpr ⟨(co_M_wordOf F).up (by omega), fun _ h => absurd h List.not_mem_nil⟩⟩⟩)
theorem g_M_splits_169 (F : Nat × Nat) (k7 : Nat → Int32 → Int32 → jH → Option jO) (hk7 : jG M_M_splits (1 + 0 * F.2) 7 (r_M_splits_7 k7)) : ∀ f, jG M_M_splits (1 + 0 * F.2) 169 (r_M_splits_169 (m_M_splits_169 F k7 f))
  | 0 => jG.no (fun L S h => by unfold r_M_splits_169; split <;> rfl)
  | f + 1 => (jst_ok ok_M_splits (hc_M_splits F) (jrun_ok ok_M_splits (hc_M_splits F) (jT_ok (List.forall_mem_cons.mpr ⟨hk7, List.forall_mem_cons.mpr ⟨g_M_splits_169 F k7 hk7 f, fun _ h => absurd h List.not_mem_nil⟩⟩)) 160) 169).of (fun L S h out e => by unfold r_M_splits_169 at e; split at e; exact (e_M_splits_169 F k7 f _ _ _ _ _ _ _).symm.trans e; cases e)
theorem g_M_splits_100 (F : Nat × Nat) (k7 : Nat → Int32 → Int32 → jH → Option jO) (hk7 : jG M_M_splits (1 + 0 * F.2) 7 (r_M_splits_7 k7)) : jG M_M_splits (1 + 0 * F.2) 100 (r_M_splits_100 (m_M_splits_100 F k7)) := (jst_ok ok_M_splits (hc_M_splits F) (jrun_ok ok_M_splits (hc_M_splits F) (jT_ok (List.forall_mem_cons.mpr ⟨g_M_splits_169 F k7 hk7 F.1, fun _ h => absurd h List.not_mem_nil⟩)) 160) 100).of (fun L S h out e => by unfold r_M_splits_100 at e; split at e; exact (e_M_splits_100 F k7 _ _ _ _ _ _ _).symm.trans e; cases e)
theorem g_M_splits_75 (F : Nat × Nat) (k7 : Nat → Int32 → Int32 → jH → Option jO) (hk7 : jG M_M_splits (1 + 0 * F.2) 7 (r_M_splits_7 k7)) : ∀ f, jG M_M_splits (1 + 0 * F.2) 75 (r_M_splits_75 (m_M_splits_75 F k7 f))
  | 0 => jG.no (fun L S h => by unfold r_M_splits_75; split <;> rfl)
  | f + 1 => (jst_ok ok_M_splits (hc_M_splits F) (jrun_ok ok_M_splits (hc_M_splits F) (jT_ok (List.forall_mem_cons.mpr ⟨g_M_splits_75 F k7 hk7 f, List.forall_mem_cons.mpr ⟨g_M_splits_100 F k7 hk7, fun _ h => absurd h List.not_mem_nil⟩⟩)) 160) 75).of (fun L S h out e => by unfold r_M_splits_75 at e; split at e; exact (e_M_splits_75 F k7 f _ _ _ _ _ _ _).symm.trans e; cases e)
theorem g_M_splits_43 (F : Nat × Nat) (k7 : Nat → Int32 → Int32 → jH → Option jO) (hk7 : jG M_M_splits (1 + 0 * F.2) 7 (r_M_splits_7 k7)) : ∀ f, jG M_M_splits (1 + 0 * F.2) 43 (r_M_splits_43 (m_M_splits_43 F k7 f))
  | 0 => jG.no (fun L S h => by unfold r_M_splits_43; split <;> rfl)
  | f + 1 => (jst_ok ok_M_splits (hc_M_splits F) (jrun_ok ok_M_splits (hc_M_splits F) (jT_ok (List.forall_mem_cons.mpr ⟨g_M_splits_43 F k7 hk7 f, List.forall_mem_cons.mpr ⟨g_M_splits_75 F k7 hk7 F.1, List.forall_mem_cons.mpr ⟨g_M_splits_100 F k7 hk7, fun _ h => absurd h List.not_mem_nil⟩⟩⟩)) 160) 43).of (fun L S h out e => by unfold r_M_splits_43 at e; split at e; exact (e_M_splits_43 F k7 f _ _ _ _ _ _ _).symm.trans e; cases e)
theorem g_M_splits_7 (F : Nat × Nat) : ∀ f, jG M_M_splits (1 + 0 * F.2) 7 (r_M_splits_7 (m_M_splits_7 F f))
  | 0 => jG.no (fun L S h => by unfold r_M_splits_7; split <;> rfl)
  | f + 1 => (jst_ok ok_M_splits (hc_M_splits F) (jrun_ok ok_M_splits (hc_M_splits F) (jT_ok (List.forall_mem_cons.mpr ⟨g_M_splits_7 F f, List.forall_mem_cons.mpr ⟨g_M_splits_43 F _ (g_M_splits_7 F f) F.1, List.forall_mem_cons.mpr ⟨g_M_splits_75 F _ (g_M_splits_7 F f) F.1, List.forall_mem_cons.mpr ⟨g_M_splits_100 F _ (g_M_splits_7 F f), fun _ h => absurd h List.not_mem_nil⟩⟩⟩⟩)) 160) 7).of (fun L S h out e => by unfold r_M_splits_7 at e; split at e; exact (e_M_splits_7 F f _ _ _ _ _ _ _).symm.trans e; cases e)
theorem k_M_splits (F : Nat × Nat) (o : Nat) (a1 : Int32) (h : jH) (r : Option Value) (h1 : jH) (e : m_M_splits F o a1 h = some (r, h1)) : jM1 (1 + 0 * F.2) 207 [.ref o, .int a1] h r h1 := jM_of (M := M_M_splits) mok_M_splits (by decide +kernel) (by decide +kernel) (Or.inr (Or.inr (Or.inr (Or.inr ⟨rfl, rfl⟩)))) (fun q => nomatch q) (jrun_ok ok_M_splits (hc_M_splits F) (jT_ok (List.forall_mem_cons.mpr ⟨g_M_splits_7 F F.1, fun _ h => absurd h List.not_mem_nil⟩)) 160 0) (List.all_eq_true.mp rfl) (Nat.le_of_ble_eq_true rfl) (fun E => Nat.le_of_ble_eq_true rfl) ((e_M_splits F o a1 h).symm.trans e)
theorem co_M_splits (F : Nat × Nat) : jc_ok (1 + 0 * F.2 + 1) 207 (c_M_splits F) := by
  intro as h k out e
  unfold c_M_splits at e
  split at e
  · obtain ⟨a0, rfl, e1⟩ := js_rv e
    obtain ⟨hg, e2⟩ := js_if e1
    obtain ⟨h1, hm, e3⟩ := js_jbV e2
    exact ⟨_, _, _, Nat.le_refl _, k_M_splits F _ _ _ _ _ hm, ⟨fun _ => ⟨_, _, rfl, Or.inl ⟨7, by decide, hg, by decide +kernel⟩⟩, fun q => absurd q (by decide +kernel)⟩, e3⟩
  · cases e
def c_M_fine (F : Nat × Nat) : jc1 := fun args h k => match args with
  | [w0] => j_rv w0 fun a0 => if j_k h a0 = 17 then (jbI (m_M_fine F a0 h) fun r h => k (some (.int r)) h) else none
  | _ => none
set_option maxRecDepth 100000 in
theorem e_M_fine (F : Nat × Nat) (o : Nat) (h : jH) : m_M_fine F o h = jrun (j_C []) 1 cd_M_fine (j_T []) 13 0 [some (.ref o)] [] h := rfl
theorem hc_M_fine (F : Nat × Nat) : jCok (0 + 0 * F.2) (j_C []) := jC_ok (fun _ h => absurd h List.not_mem_nil)
theorem k_M_fine (F : Nat × Nat) (o : Nat) (h : jH) (r : Option Value) (h1 : jH) (e : m_M_fine F o h = some (r, h1)) : jM1 (0 + 0 * F.2) 214 [.ref o] h r h1 := jM_of (M := M_M_fine) mok_M_fine (by decide +kernel) (by decide +kernel) (Or.inr (Or.inl ⟨rfl, rfl⟩)) (fun q => nomatch q) (jrun_ok ok_M_fine (hc_M_fine F) (jT_ok (fun _ h => absurd h List.not_mem_nil)) 13 0) (List.all_eq_true.mp rfl) (Nat.le_of_ble_eq_true rfl) (fun E => Nat.le_of_ble_eq_true rfl) ((e_M_fine F o h).symm.trans e)
theorem co_M_fine (F : Nat × Nat) : jc_ok (0 + 0 * F.2 + 1) 214 (c_M_fine F) := by
  intro as h k out e
  unfold c_M_fine at e
  split at e
  · obtain ⟨a0, rfl, e1⟩ := js_rv e
    obtain ⟨hg, e2⟩ := js_if e1
    obtain ⟨r, h1, hm, e3⟩ := js_jbI e2
    exact ⟨_, _, _, Nat.le_refl _, k_M_fine F _ _ _ _ hm, ⟨fun _ => ⟨_, _, rfl, Or.inl ⟨7, by decide, hg, by decide +kernel⟩⟩, fun q => absurd q (by decide +kernel)⟩, e3⟩
  · cases e
def c_M_takes0 (F : Nat × Nat) : jc1 := fun args h k => match args with
  | [w0, .int a1] => j_rv w0 fun a0 => if j_k h a0 = 17 then (jbI (m_M_takes0 F a0 a1 h) fun r h => k (some (.int r)) h) else none
  | _ => none
set_option maxRecDepth 100000 in
theorem e_M_takes0 (F : Nat × Nat) (o : Nat) (a1 : Int32) (h : jH) : m_M_takes0 F o a1 h = jrun (j_C [(214, c_M_fine F)]) 1 cd_M_takes0 (j_T []) 29 0 [some (.ref o), some (.int a1), none] [] h := rfl
theorem hc_M_takes0 (F : Nat × Nat) : jCok (1 + 0 * F.2) (j_C [(214, c_M_fine F)]) := jC_ok (List.forall_mem_cons.mpr ⟨(co_M_fine F).up (by omega), fun _ h => absurd h List.not_mem_nil⟩)
theorem k_M_takes0 (F : Nat × Nat) (o : Nat) (a1 : Int32) (h : jH) (r : Option Value) (h1 : jH) (e : m_M_takes0 F o a1 h = some (r, h1)) : jM1 (1 + 0 * F.2) 213 [.ref o, .int a1] h r h1 := jM_of (M := M_M_takes0) mok_M_takes0 (by decide +kernel) (by decide +kernel) (Or.inr (Or.inl ⟨rfl, rfl⟩)) (fun q => nomatch q) (jrun_ok ok_M_takes0 (hc_M_takes0 F) (jT_ok (fun _ h => absurd h List.not_mem_nil)) 29 0) (List.all_eq_true.mp rfl) (Nat.le_of_ble_eq_true rfl) (fun E => Nat.le_of_ble_eq_true rfl) ((e_M_takes0 F o a1 h).symm.trans e)
theorem co_M_takes0 (F : Nat × Nat) : jc_ok (1 + 0 * F.2 + 1) 213 (c_M_takes0 F) := by
  intro as h k out e
  unfold c_M_takes0 at e
  split at e
  · obtain ⟨a0, rfl, e1⟩ := js_rv e
    obtain ⟨hg, e2⟩ := js_if e1
    obtain ⟨r, h1, hm, e3⟩ := js_jbI e2
    exact ⟨_, _, _, Nat.le_refl _, k_M_takes0 F _ _ _ _ _ hm, ⟨fun _ => ⟨_, _, rfl, Or.inl ⟨7, by decide, hg, by decide +kernel⟩⟩, fun q => absurd q (by decide +kernel)⟩, e3⟩
  · cases e
def c_M_faults (F : Nat × Nat) : jc1 := fun args h k => match args with
  | [w0] => j_rv w0 fun a0 => if j_k h a0 = 17 then (jbV (m_M_faults F a0 h) fun h => k none h) else none
  | _ => none
set_option maxRecDepth 100000 in
theorem e_M_faults (F : Nat × Nat) (o : Nat) (h : jH) : m_M_faults F o h = jrun (j_C [(214, c_M_fine F)]) 4 cd_M_faults (j_T []) 16 0 [some (.ref o)] [] h := rfl
theorem hc_M_faults (F : Nat × Nat) : jCok (1 + 0 * F.2) (j_C [(214, c_M_fine F)]) := jC_ok (List.forall_mem_cons.mpr ⟨(co_M_fine F).up (by omega), fun _ h => absurd h List.not_mem_nil⟩)
theorem k_M_faults (F : Nat × Nat) (o : Nat) (h : jH) (r : Option Value) (h1 : jH) (e : m_M_faults F o h = some (r, h1)) : jM1 (1 + 0 * F.2) 219 [.ref o] h r h1 := jM_of (M := M_M_faults) mok_M_faults (by decide +kernel) (by decide +kernel) (Or.inr (Or.inr (Or.inr (Or.inr ⟨rfl, rfl⟩)))) (fun q => nomatch q) (jrun_ok ok_M_faults (hc_M_faults F) (jT_ok (fun _ h => absurd h List.not_mem_nil)) 16 0) (List.all_eq_true.mp rfl) (Nat.le_of_ble_eq_true rfl) (fun E => Nat.le_of_ble_eq_true rfl) ((e_M_faults F o h).symm.trans e)
theorem co_M_faults (F : Nat × Nat) : jc_ok (1 + 0 * F.2 + 1) 219 (c_M_faults F) := by
  intro as h k out e
  unfold c_M_faults at e
  split at e
  · obtain ⟨a0, rfl, e1⟩ := js_rv e
    obtain ⟨hg, e2⟩ := js_if e1
    obtain ⟨h1, hm, e3⟩ := js_jbV e2
    exact ⟨_, _, _, Nat.le_refl _, k_M_faults F _ _ _ _ hm, ⟨fun _ => ⟨_, _, rfl, Or.inl ⟨7, by decide, hg, by decide +kernel⟩⟩, fun q => absurd q (by decide +kernel)⟩, e3⟩
  · cases e
def c_M_must (F : Nat × Nat) : jc1 := fun args h k => match args with
  | [w0, .int a1] => j_rv w0 fun a0 => if j_k h a0 = 17 then (jbV (m_M_must F a0 a1 h) fun h => k none h) else none
  | _ => none
set_option maxRecDepth 100000 in
theorem e_M_must (F : Nat × Nat) (o : Nat) (a1 : Int32) (h : jH) : m_M_must F o a1 h = jrun (j_C [(213, c_M_takes0 F), (219, c_M_faults F)]) 4 cd_M_must (j_T []) 12 0 [some (.ref o), some (.int a1)] [] h := rfl
theorem hc_M_must (F : Nat × Nat) : jCok (2 + 0 * F.2) (j_C [(213, c_M_takes0 F), (219, c_M_faults F)]) := jC_ok (List.forall_mem_cons.mpr ⟨(co_M_takes0 F).up (by omega), List.forall_mem_cons.mpr ⟨(co_M_faults F).up (by omega), fun _ h => absurd h List.not_mem_nil⟩⟩)
theorem k_M_must (F : Nat × Nat) (o : Nat) (a1 : Int32) (h : jH) (r : Option Value) (h1 : jH) (e : m_M_must F o a1 h = some (r, h1)) : jM1 (2 + 0 * F.2) 220 [.ref o, .int a1] h r h1 := jM_of (M := M_M_must) mok_M_must (by decide +kernel) (by decide +kernel) (Or.inr (Or.inr (Or.inr (Or.inr ⟨rfl, rfl⟩)))) (fun q => nomatch q) (jrun_ok ok_M_must (hc_M_must F) (jT_ok (fun _ h => absurd h List.not_mem_nil)) 12 0) (List.all_eq_true.mp rfl) (Nat.le_of_ble_eq_true rfl) (fun E => Nat.le_of_ble_eq_true rfl) ((e_M_must F o a1 h).symm.trans e)
theorem co_M_must (F : Nat × Nat) : jc_ok (2 + 0 * F.2 + 1) 220 (c_M_must F) := by
  intro as h k out e
  unfold c_M_must at e
  split at e
  · obtain ⟨a0, rfl, e1⟩ := js_rv e
    obtain ⟨hg, e2⟩ := js_if e1
    obtain ⟨h1, hm, e3⟩ := js_jbV e2
    exact ⟨_, _, _, Nat.le_refl _, k_M_must F _ _ _ _ _ hm, ⟨fun _ => ⟨_, _, rfl, Or.inl ⟨7, by decide, hg, by decide +kernel⟩⟩, fun q => absurd q (by decide +kernel)⟩, e3⟩
  · cases e
def c_M_leaf (F : Nat × Nat) : jc1 := fun args h k => match args with
  | [w0] => j_rv w0 fun a0 => if j_k h a0 = 17 then (jbV (m_M_leaf F a0 h) fun h => k none h) else none
  | _ => none
set_option maxRecDepth 100000 in
theorem e_M_leaf (F : Nat × Nat) (o : Nat) (h : jH) : m_M_leaf F o h = jrun (j_C [(214, c_M_fine F), (219, c_M_faults F)]) 4 cd_M_leaf (j_T []) 27 0 [some (.ref o)] [] h := rfl
theorem hc_M_leaf (F : Nat × Nat) : jCok (2 + 0 * F.2) (j_C [(214, c_M_fine F), (219, c_M_faults F)]) := jC_ok (List.forall_mem_cons.mpr ⟨(co_M_fine F).up (by omega), List.forall_mem_cons.mpr ⟨(co_M_faults F).up (by omega), fun _ h => absurd h List.not_mem_nil⟩⟩)
theorem k_M_leaf (F : Nat × Nat) (o : Nat) (h : jH) (r : Option Value) (h1 : jH) (e : m_M_leaf F o h = some (r, h1)) : jM1 (2 + 0 * F.2) 221 [.ref o] h r h1 := jM_of (M := M_M_leaf) mok_M_leaf (by decide +kernel) (by decide +kernel) (Or.inr (Or.inr (Or.inr (Or.inr ⟨rfl, rfl⟩)))) (fun q => nomatch q) (jrun_ok ok_M_leaf (hc_M_leaf F) (jT_ok (fun _ h => absurd h List.not_mem_nil)) 27 0) (List.all_eq_true.mp rfl) (Nat.le_of_ble_eq_true rfl) (fun E => Nat.le_of_ble_eq_true rfl) ((e_M_leaf F o h).symm.trans e)
theorem co_M_leaf (F : Nat × Nat) : jc_ok (2 + 0 * F.2 + 1) 221 (c_M_leaf F) := by
  intro as h k out e
  unfold c_M_leaf at e
  split at e
  · obtain ⟨a0, rfl, e1⟩ := js_rv e
    obtain ⟨hg, e2⟩ := js_if e1
    obtain ⟨h1, hm, e3⟩ := js_jbV e2
    exact ⟨_, _, _, Nat.le_refl _, k_M_leaf F _ _ _ _ hm, ⟨fun _ => ⟨_, _, rfl, Or.inl ⟨7, by decide, hg, by decide +kernel⟩⟩, fun q => absurd q (by decide +kernel)⟩, e3⟩
  · cases e
def c_M_mustNumber (F : Nat × Nat) : jc1 := fun args h k => match args with
  | [w0, .int a1, .int a2] => j_rv w0 fun a0 => if j_k h a0 = 17 then (jbV (m_M_mustNumber F a0 a1 a2 h) fun h => k none h) else none
  | _ => none
set_option maxRecDepth 100000 in
theorem e_M_mustNumber (F : Nat × Nat) (o : Nat) (a1 : Int32) (a2 : Int32) (h : jH) : m_M_mustNumber F o a1 a2 h = jrun (j_C [(157, c_M_lies F), (214, c_M_fine F), (219, c_M_faults F)]) 4 cd_M_mustNumber (j_T []) 36 0 [some (.ref o), some (.int a1), some (.int a2)] [] h := rfl
theorem hc_M_mustNumber (F : Nat × Nat) : jCok (2 + 0 * F.2) (j_C [(157, c_M_lies F), (214, c_M_fine F), (219, c_M_faults F)]) := jC_ok (List.forall_mem_cons.mpr ⟨(co_M_lies F).up (by omega), List.forall_mem_cons.mpr ⟨(co_M_fine F).up (by omega), List.forall_mem_cons.mpr ⟨(co_M_faults F).up (by omega), fun _ h => absurd h List.not_mem_nil⟩⟩⟩)
theorem k_M_mustNumber (F : Nat × Nat) (o : Nat) (a1 : Int32) (a2 : Int32) (h : jH) (r : Option Value) (h1 : jH) (e : m_M_mustNumber F o a1 a2 h = some (r, h1)) : jM1 (2 + 0 * F.2) 222 [.ref o, .int a1, .int a2] h r h1 := jM_of (M := M_M_mustNumber) mok_M_mustNumber (by decide +kernel) (by decide +kernel) (Or.inr (Or.inr (Or.inr (Or.inr ⟨rfl, rfl⟩)))) (fun q => nomatch q) (jrun_ok ok_M_mustNumber (hc_M_mustNumber F) (jT_ok (fun _ h => absurd h List.not_mem_nil)) 36 0) (List.all_eq_true.mp rfl) (Nat.le_of_ble_eq_true rfl) (fun E => Nat.le_of_ble_eq_true rfl) ((e_M_mustNumber F o a1 a2 h).symm.trans e)
theorem co_M_mustNumber (F : Nat × Nat) : jc_ok (2 + 0 * F.2 + 1) 222 (c_M_mustNumber F) := by
  intro as h k out e
  unfold c_M_mustNumber at e
  split at e
  · obtain ⟨a0, rfl, e1⟩ := js_rv e
    obtain ⟨hg, e2⟩ := js_if e1
    obtain ⟨h1, hm, e3⟩ := js_jbV e2
    exact ⟨_, _, _, Nat.le_refl _, k_M_mustNumber F _ _ _ _ _ _ hm, ⟨fun _ => ⟨_, _, rfl, Or.inl ⟨7, by decide, hg, by decide +kernel⟩⟩, fun q => absurd q (by decide +kernel)⟩, e3⟩
  · cases e
def r_M_readPart_135 (g : Nat → Int32 → jH → Option jO) : jL → List Value → jH → Option jO := fun L S h => match L, S with
  | [some (.ref v0), _, some (.int v2)], [] => g v0 v2 h
  | _, _ => none
def r_M_readPart_95 (g : Nat → Int32 → jH → Option jO) : jL → List Value → jH → Option jO := fun L S h => match L, S with
  | [some (.ref v0), _, some (.int v2)], [] => g v0 v2 h
  | _, _ => none
def r_M_readTerm_5 (g : Nat → Int32 → jH → Option jO) : jL → List Value → jH → Option jO := fun L S h => match L, S with
  | [some (.ref v0), some (.int v1)], [] => g v0 v1 h
  | _, _ => none
def r_M_readSum_5 (g : Nat → Int32 → jH → Option jO) : jL → List Value → jH → Option jO := fun L S h => match L, S with
  | [some (.ref v0), some (.int v1)], [] => g v0 v1 h
  | _, _ => none
def c_M_readPart_rc (rc : Nat → List Value → jH → Option jO) : jc1 := fun args h k => match args with
  | [w0, .int a1] => j_rv w0 fun a0 => if j_k h a0 = 17 then (jbV (rc 218 [.ref a0, .int a1] h) fun h => k none h) else none
  | _ => none
def c_M_readTerm_rc (rc : Nat → List Value → jH → Option jO) : jc1 := fun args h k => match args with
  | [w0, .int a1] => j_rv w0 fun a0 => if j_k h a0 = 17 then (jbV (rc 217 [.ref a0, .int a1] h) fun h => k none h) else none
  | _ => none
def c_M_readSum_rc (rc : Nat → List Value → jH → Option jO) : jc1 := fun args h k => match args with
  | [w0, .int a1] => j_rv w0 fun a0 => if j_k h a0 = 17 then (jbV (rc 216 [.ref a0, .int a1] h) fun h => k none h) else none
  | _ => none
def c_M_readPart (F : Nat × Nat) : jc1 := fun args h k => match args with
  | [w0, .int a1] => j_rv w0 fun a0 => if j_k h a0 = 17 then (jbV (m_M_readPart F a0 a1 h) fun h => k none h) else none
  | _ => none
def c_M_readTerm (F : Nat × Nat) : jc1 := fun args h k => match args with
  | [w0, .int a1] => j_rv w0 fun a0 => if j_k h a0 = 17 then (jbV (m_M_readTerm F a0 a1 h) fun h => k none h) else none
  | _ => none
def c_M_readSum (F : Nat × Nat) : jc1 := fun args h k => match args with
  | [w0, .int a1] => j_rv w0 fun a0 => if j_k h a0 = 17 then (jbV (m_M_readSum F a0 a1 h) fun h => k none h) else none
  | _ => none
set_option maxRecDepth 100000 in
theorem e_M_readPart_135 (F : Nat × Nat) (rc : Nat → List Value → jH → Option jO) (v0 : Nat) (v2 : Int32) (u1 : Option Value) (h : jH) : m_M_readPart_135 F rc v0 v2 h = jst (j_C [(182, c_M_sign F), (214, c_M_fine F), (216, c_M_readSum_rc rc), (219, c_M_faults F), (220, c_M_must F), (221, c_M_leaf F), (222, c_M_mustNumber F)]) 4 (cd_M_readPart 135) [some (.ref v0), u1, some (.int v2)] [] h (jrun (j_C [(182, c_M_sign F), (214, c_M_fine F), (216, c_M_readSum_rc rc), (219, c_M_faults F), (220, c_M_must F), (221, c_M_leaf F), (222, c_M_mustNumber F)]) 4 cd_M_readPart (j_T []) 91) := rfl
set_option maxRecDepth 100000 in
theorem e_M_readPart_95 (F : Nat × Nat) (rc : Nat → List Value → jH → Option jO) (v0 : Nat) (v2 : Int32) (u1 : Option Value) (h : jH) : m_M_readPart_95 F rc v0 v2 h = jst (j_C [(182, c_M_sign F), (214, c_M_fine F), (216, c_M_readSum_rc rc), (219, c_M_faults F), (220, c_M_must F), (221, c_M_leaf F), (222, c_M_mustNumber F)]) 4 (cd_M_readPart 95) [some (.ref v0), u1, some (.int v2)] [] h (jrun (j_C [(182, c_M_sign F), (214, c_M_fine F), (216, c_M_readSum_rc rc), (219, c_M_faults F), (220, c_M_must F), (221, c_M_leaf F), (222, c_M_mustNumber F)]) 4 cd_M_readPart (j_T [(135, r_M_readPart_135 (m_M_readPart_135 F rc))]) 91) := rfl
set_option maxRecDepth 100000 in
theorem e_M_readPart (F : Nat × Nat) (rc : Nat → List Value → jH → Option jO) (o : Nat) (a1 : Int32) (h : jH) : m_M_readPart_r F rc o a1 h = jrun (j_C [(182, c_M_sign F), (214, c_M_fine F), (216, c_M_readSum_rc rc), (219, c_M_faults F), (220, c_M_must F), (221, c_M_leaf F), (222, c_M_mustNumber F)]) 4 cd_M_readPart (j_T [(95, r_M_readPart_95 (m_M_readPart_95 F rc)), (135, r_M_readPart_135 (m_M_readPart_135 F rc))]) 91 0 [some (.ref o), some (.int a1), none] [] h := rfl
set_option maxRecDepth 100000 in
theorem e_M_readTerm_5 (F : Nat × Nat) (rc : Nat → List Value → jH → Option jO) (f : Nat) (v0 : Nat) (v1 : Int32) (h : jH) : m_M_readTerm_5 F rc (f + 1) v0 v1 h = jst (j_C [(182, c_M_sign F), (213, c_M_takes0 F), (218, c_M_readPart_rc rc)]) 4 (cd_M_readTerm 5) [some (.ref v0), some (.int v1)] [] h (jrun (j_C [(182, c_M_sign F), (213, c_M_takes0 F), (218, c_M_readPart_rc rc)]) 4 cd_M_readTerm (j_T [(5, r_M_readTerm_5 (m_M_readTerm_5 F rc f))]) 28) := rfl
set_option maxRecDepth 100000 in
theorem e_M_readTerm (F : Nat × Nat) (rc : Nat → List Value → jH → Option jO) (o : Nat) (a1 : Int32) (h : jH) : m_M_readTerm_r F rc o a1 h = jrun (j_C [(182, c_M_sign F), (213, c_M_takes0 F), (218, c_M_readPart_rc rc)]) 4 cd_M_readTerm (j_T [(5, r_M_readTerm_5 (m_M_readTerm_5 F rc F.1))]) 28 0 [some (.ref o), some (.int a1)] [] h := rfl
set_option maxRecDepth 100000 in
theorem e_M_readSum_5 (F : Nat × Nat) (rc : Nat → List Value → jH → Option jO) (f : Nat) (v0 : Nat) (v1 : Int32) (h : jH) : m_M_readSum_5 F rc (f + 1) v0 v1 h = jst (j_C [(182, c_M_sign F), (213, c_M_takes0 F), (217, c_M_readTerm_rc rc)]) 4 (cd_M_readSum 5) [some (.ref v0), some (.int v1)] [] h (jrun (j_C [(182, c_M_sign F), (213, c_M_takes0 F), (217, c_M_readTerm_rc rc)]) 4 cd_M_readSum (j_T [(5, r_M_readSum_5 (m_M_readSum_5 F rc f))]) 23) := rfl
set_option maxRecDepth 100000 in
theorem e_M_readSum (F : Nat × Nat) (rc : Nat → List Value → jH → Option jO) (o : Nat) (a1 : Int32) (h : jH) : m_M_readSum_r F rc o a1 h = jrun (j_C [(182, c_M_sign F), (213, c_M_takes0 F), (217, c_M_readTerm_rc rc)]) 4 cd_M_readSum (j_T [(5, r_M_readSum_5 (m_M_readSum_5 F rc F.1))]) 23 0 [some (.ref o), some (.int a1)] [] h := rfl
theorem hc_M_readPart (F : Nat × Nat) (rc : Nat → List Value → jH → Option jO) {D : Nat} (hD : 3 + 0 * F.2 ≤ D) (q_M_readPart : jc_ok D 218 (c_M_readPart_rc rc)) (q_M_readTerm : jc_ok D 217 (c_M_readTerm_rc rc)) (q_M_readSum : jc_ok D 216 (c_M_readSum_rc rc)) : jCok D (j_C [(182, c_M_sign F), (214, c_M_fine F), (216, c_M_readSum_rc rc), (219, c_M_faults F), (220, c_M_must F), (221, c_M_leaf F), (222, c_M_mustNumber F)]) := jC_ok (List.forall_mem_cons.mpr ⟨(co_M_sign F).up (by omega), List.forall_mem_cons.mpr ⟨(co_M_fine F).up (by omega), List.forall_mem_cons.mpr ⟨q_M_readSum, List.forall_mem_cons.mpr ⟨(co_M_faults F).up (by omega), List.forall_mem_cons.mpr ⟨(co_M_must F).up (by omega), List.forall_mem_cons.mpr ⟨(co_M_leaf F).up (by omega), List.forall_mem_cons.mpr ⟨(co_M_mustNumber F).up (by omega), fun _ h => absurd h List.not_mem_nil⟩⟩⟩⟩⟩⟩⟩)
theorem g_M_readPart_135 (F : Nat × Nat) (rc : Nat → List Value → jH → Option jO) {D : Nat} (hD : 3 + 0 * F.2 ≤ D) (q_M_readPart : jc_ok D 218 (c_M_readPart_rc rc)) (q_M_readTerm : jc_ok D 217 (c_M_readTerm_rc rc)) (q_M_readSum : jc_ok D 216 (c_M_readSum_rc rc)) : jG M_M_readPart D 135 (r_M_readPart_135 (m_M_readPart_135 F rc)) := (jst_ok ok_M_readPart (hc_M_readPart F rc hD q_M_readPart q_M_readTerm q_M_readSum) (jrun_ok ok_M_readPart (hc_M_readPart F rc hD q_M_readPart q_M_readTerm q_M_readSum) (jT_ok (fun _ h => absurd h List.not_mem_nil)) 91) 135).of (fun L S h out e => by unfold r_M_readPart_135 at e; split at e; exact (e_M_readPart_135 F rc _ _ _ _).symm.trans e; cases e)
theorem g_M_readPart_95 (F : Nat × Nat) (rc : Nat → List Value → jH → Option jO) {D : Nat} (hD : 3 + 0 * F.2 ≤ D) (q_M_readPart : jc_ok D 218 (c_M_readPart_rc rc)) (q_M_readTerm : jc_ok D 217 (c_M_readTerm_rc rc)) (q_M_readSum : jc_ok D 216 (c_M_readSum_rc rc)) : jG M_M_readPart D 95 (r_M_readPart_95 (m_M_readPart_95 F rc)) := (jst_ok ok_M_readPart (hc_M_readPart F rc hD q_M_readPart q_M_readTerm q_M_readSum) (jrun_ok ok_M_readPart (hc_M_readPart F rc hD q_M_readPart q_M_readTerm q_M_readSum) (jT_ok (List.forall_mem_cons.mpr ⟨g_M_readPart_135 F rc hD q_M_readPart q_M_readTerm q_M_readSum, fun _ h => absurd h List.not_mem_nil⟩)) 91) 95).of (fun L S h out e => by unfold r_M_readPart_95 at e; split at e; exact (e_M_readPart_95 F rc _ _ _ _).symm.trans e; cases e)
theorem kr_M_readPart (F : Nat × Nat) (rc : Nat → List Value → jH → Option jO) {D : Nat} (hD : 3 + 0 * F.2 ≤ D) (q_M_readPart : jc_ok D 218 (c_M_readPart_rc rc)) (q_M_readTerm : jc_ok D 217 (c_M_readTerm_rc rc)) (q_M_readSum : jc_ok D 216 (c_M_readSum_rc rc)) (o : Nat) (a1 : Int32) (h : jH) (r : Option Value) (h1 : jH) (e : m_M_readPart_r F rc o a1 h = some (r, h1)) : jM1 D 218 [.ref o, .int a1] h r h1 := jM_of (M := M_M_readPart) mok_M_readPart (by decide +kernel) (by decide +kernel) (Or.inr (Or.inr (Or.inr (Or.inr ⟨rfl, rfl⟩)))) (fun q => nomatch q) (jrun_ok ok_M_readPart (hc_M_readPart F rc hD q_M_readPart q_M_readTerm q_M_readSum) (jT_ok (List.forall_mem_cons.mpr ⟨g_M_readPart_95 F rc hD q_M_readPart q_M_readTerm q_M_readSum, List.forall_mem_cons.mpr ⟨g_M_readPart_135 F rc hD q_M_readPart q_M_readTerm q_M_readSum, fun _ h => absurd h List.not_mem_nil⟩⟩)) 91 0) (List.all_eq_true.mp rfl) (Nat.le_of_ble_eq_true rfl) (fun E => Nat.le_of_ble_eq_true rfl) ((e_M_readPart F rc o a1 h).symm.trans e)
theorem hc_M_readTerm (F : Nat × Nat) (rc : Nat → List Value → jH → Option jO) {D : Nat} (hD : 3 + 0 * F.2 ≤ D) (q_M_readPart : jc_ok D 218 (c_M_readPart_rc rc)) (q_M_readTerm : jc_ok D 217 (c_M_readTerm_rc rc)) (q_M_readSum : jc_ok D 216 (c_M_readSum_rc rc)) : jCok D (j_C [(182, c_M_sign F), (213, c_M_takes0 F), (218, c_M_readPart_rc rc)]) := jC_ok (List.forall_mem_cons.mpr ⟨(co_M_sign F).up (by omega), List.forall_mem_cons.mpr ⟨(co_M_takes0 F).up (by omega), List.forall_mem_cons.mpr ⟨q_M_readPart, fun _ h => absurd h List.not_mem_nil⟩⟩⟩)
theorem g_M_readTerm_5 (F : Nat × Nat) (rc : Nat → List Value → jH → Option jO) {D : Nat} (hD : 3 + 0 * F.2 ≤ D) (q_M_readPart : jc_ok D 218 (c_M_readPart_rc rc)) (q_M_readTerm : jc_ok D 217 (c_M_readTerm_rc rc)) (q_M_readSum : jc_ok D 216 (c_M_readSum_rc rc)) : ∀ f, jG M_M_readTerm D 5 (r_M_readTerm_5 (m_M_readTerm_5 F rc f))
  | 0 => jG.no (fun L S h => by unfold r_M_readTerm_5; split <;> rfl)
  | f + 1 => (jst_ok ok_M_readTerm (hc_M_readTerm F rc hD q_M_readPart q_M_readTerm q_M_readSum) (jrun_ok ok_M_readTerm (hc_M_readTerm F rc hD q_M_readPart q_M_readTerm q_M_readSum) (jT_ok (List.forall_mem_cons.mpr ⟨g_M_readTerm_5 F rc hD q_M_readPart q_M_readTerm q_M_readSum f, fun _ h => absurd h List.not_mem_nil⟩)) 28) 5).of (fun L S h out e => by unfold r_M_readTerm_5 at e; split at e; exact (e_M_readTerm_5 F rc f _ _ _).symm.trans e; cases e)
theorem kr_M_readTerm (F : Nat × Nat) (rc : Nat → List Value → jH → Option jO) {D : Nat} (hD : 3 + 0 * F.2 ≤ D) (q_M_readPart : jc_ok D 218 (c_M_readPart_rc rc)) (q_M_readTerm : jc_ok D 217 (c_M_readTerm_rc rc)) (q_M_readSum : jc_ok D 216 (c_M_readSum_rc rc)) (o : Nat) (a1 : Int32) (h : jH) (r : Option Value) (h1 : jH) (e : m_M_readTerm_r F rc o a1 h = some (r, h1)) : jM1 D 217 [.ref o, .int a1] h r h1 := jM_of (M := M_M_readTerm) mok_M_readTerm (by decide +kernel) (by decide +kernel) (Or.inr (Or.inr (Or.inr (Or.inr ⟨rfl, rfl⟩)))) (fun q => nomatch q) (jrun_ok ok_M_readTerm (hc_M_readTerm F rc hD q_M_readPart q_M_readTerm q_M_readSum) (jT_ok (List.forall_mem_cons.mpr ⟨g_M_readTerm_5 F rc hD q_M_readPart q_M_readTerm q_M_readSum F.1, fun _ h => absurd h List.not_mem_nil⟩)) 28 0) (List.all_eq_true.mp rfl) (Nat.le_of_ble_eq_true rfl) (fun E => Nat.le_of_ble_eq_true rfl) ((e_M_readTerm F rc o a1 h).symm.trans e)
theorem hc_M_readSum (F : Nat × Nat) (rc : Nat → List Value → jH → Option jO) {D : Nat} (hD : 3 + 0 * F.2 ≤ D) (q_M_readPart : jc_ok D 218 (c_M_readPart_rc rc)) (q_M_readTerm : jc_ok D 217 (c_M_readTerm_rc rc)) (q_M_readSum : jc_ok D 216 (c_M_readSum_rc rc)) : jCok D (j_C [(182, c_M_sign F), (213, c_M_takes0 F), (217, c_M_readTerm_rc rc)]) := jC_ok (List.forall_mem_cons.mpr ⟨(co_M_sign F).up (by omega), List.forall_mem_cons.mpr ⟨(co_M_takes0 F).up (by omega), List.forall_mem_cons.mpr ⟨q_M_readTerm, fun _ h => absurd h List.not_mem_nil⟩⟩⟩)
theorem g_M_readSum_5 (F : Nat × Nat) (rc : Nat → List Value → jH → Option jO) {D : Nat} (hD : 3 + 0 * F.2 ≤ D) (q_M_readPart : jc_ok D 218 (c_M_readPart_rc rc)) (q_M_readTerm : jc_ok D 217 (c_M_readTerm_rc rc)) (q_M_readSum : jc_ok D 216 (c_M_readSum_rc rc)) : ∀ f, jG M_M_readSum D 5 (r_M_readSum_5 (m_M_readSum_5 F rc f))
  | 0 => jG.no (fun L S h => by unfold r_M_readSum_5; split <;> rfl)
  | f + 1 => (jst_ok ok_M_readSum (hc_M_readSum F rc hD q_M_readPart q_M_readTerm q_M_readSum) (jrun_ok ok_M_readSum (hc_M_readSum F rc hD q_M_readPart q_M_readTerm q_M_readSum) (jT_ok (List.forall_mem_cons.mpr ⟨g_M_readSum_5 F rc hD q_M_readPart q_M_readTerm q_M_readSum f, fun _ h => absurd h List.not_mem_nil⟩)) 23) 5).of (fun L S h out e => by unfold r_M_readSum_5 at e; split at e; exact (e_M_readSum_5 F rc f _ _ _).symm.trans e; cases e)
theorem kr_M_readSum (F : Nat × Nat) (rc : Nat → List Value → jH → Option jO) {D : Nat} (hD : 3 + 0 * F.2 ≤ D) (q_M_readPart : jc_ok D 218 (c_M_readPart_rc rc)) (q_M_readTerm : jc_ok D 217 (c_M_readTerm_rc rc)) (q_M_readSum : jc_ok D 216 (c_M_readSum_rc rc)) (o : Nat) (a1 : Int32) (h : jH) (r : Option Value) (h1 : jH) (e : m_M_readSum_r F rc o a1 h = some (r, h1)) : jM1 D 216 [.ref o, .int a1] h r h1 := jM_of (M := M_M_readSum) mok_M_readSum (by decide +kernel) (by decide +kernel) (Or.inr (Or.inr (Or.inr (Or.inr ⟨rfl, rfl⟩)))) (fun q => nomatch q) (jrun_ok ok_M_readSum (hc_M_readSum F rc hD q_M_readPart q_M_readTerm q_M_readSum) (jT_ok (List.forall_mem_cons.mpr ⟨g_M_readSum_5 F rc hD q_M_readPart q_M_readTerm q_M_readSum F.1, fun _ h => absurd h List.not_mem_nil⟩)) 23 0) (List.all_eq_true.mp rfl) (Nat.le_of_ble_eq_true rfl) (fun E => Nat.le_of_ble_eq_true rfl) ((e_M_readSum F rc o a1 h).symm.trans e)
theorem co_M_readPart_rc {d : Nat} (rc : Nat → List Value → jH → Option jO) (hrc : ∀ c as h r h1, rc c as h = some (r, h1) → jM1 d c as h r h1) : jc_ok (d + 1) 218 (c_M_readPart_rc rc) := by
  intro as h k out e
  unfold c_M_readPart_rc at e
  split at e
  · obtain ⟨a0, rfl, e1⟩ := js_rv e
    obtain ⟨hg, e2⟩ := js_if e1
    obtain ⟨h1, hm, e3⟩ := js_jbV e2
    exact ⟨_, _, _, Nat.le_refl _, hrc _ _ _ _ _ hm, ⟨fun _ => ⟨_, _, rfl, Or.inl ⟨7, by decide, hg, by decide +kernel⟩⟩, fun q => absurd q (by decide +kernel)⟩, e3⟩
  · cases e
theorem co_M_readTerm_rc {d : Nat} (rc : Nat → List Value → jH → Option jO) (hrc : ∀ c as h r h1, rc c as h = some (r, h1) → jM1 d c as h r h1) : jc_ok (d + 1) 217 (c_M_readTerm_rc rc) := by
  intro as h k out e
  unfold c_M_readTerm_rc at e
  split at e
  · obtain ⟨a0, rfl, e1⟩ := js_rv e
    obtain ⟨hg, e2⟩ := js_if e1
    obtain ⟨h1, hm, e3⟩ := js_jbV e2
    exact ⟨_, _, _, Nat.le_refl _, hrc _ _ _ _ _ hm, ⟨fun _ => ⟨_, _, rfl, Or.inl ⟨7, by decide, hg, by decide +kernel⟩⟩, fun q => absurd q (by decide +kernel)⟩, e3⟩
  · cases e
theorem co_M_readSum_rc {d : Nat} (rc : Nat → List Value → jH → Option jO) (hrc : ∀ c as h r h1, rc c as h = some (r, h1) → jM1 d c as h r h1) : jc_ok (d + 1) 216 (c_M_readSum_rc rc) := by
  intro as h k out e
  unfold c_M_readSum_rc at e
  split at e
  · obtain ⟨a0, rfl, e1⟩ := js_rv e
    obtain ⟨hg, e2⟩ := js_if e1
    obtain ⟨h1, hm, e3⟩ := js_jbV e2
    exact ⟨_, _, _, Nat.le_refl _, hrc _ _ _ _ _ hm, ⟨fun _ => ⟨_, _, rfl, Or.inl ⟨7, by decide, hg, by decide +kernel⟩⟩, fun q => absurd q (by decide +kernel)⟩, e3⟩
  · cases e
theorem rcok_rc4 (F : Nat × Nat) : ∀ f c as h r h1, rc4 F f c as h = some (r, h1) → jM1 (3 + 0 * F.2 + f) c as h r h1
  | 0, c, as, h, r, h1, e => nomatch (show (none : Option jO) = some (r, h1) from e)
  | f + 1, c, as, h, r, h1, e => by
    unfold rc4 at e
    split at e
    · exact kr_M_readPart F (rc4 F f) (by omega) (co_M_readPart_rc (rc4 F f) (rcok_rc4 F f)) (co_M_readTerm_rc (rc4 F f) (rcok_rc4 F f)) (co_M_readSum_rc (rc4 F f) (rcok_rc4 F f)) _ _ _ _ _ e
    · exact kr_M_readTerm F (rc4 F f) (by omega) (co_M_readPart_rc (rc4 F f) (rcok_rc4 F f)) (co_M_readTerm_rc (rc4 F f) (rcok_rc4 F f)) (co_M_readSum_rc (rc4 F f) (rcok_rc4 F f)) _ _ _ _ _ e
    · exact kr_M_readSum F (rc4 F f) (by omega) (co_M_readPart_rc (rc4 F f) (rcok_rc4 F f)) (co_M_readTerm_rc (rc4 F f) (rcok_rc4 F f)) (co_M_readSum_rc (rc4 F f) (rcok_rc4 F f)) _ _ _ _ _ e
    · cases e
theorem k_M_readPart (F : Nat × Nat) (a0 : Nat) (a1 : Int32) (h : jH) (r : Option Value) (h1 : jH) (e : m_M_readPart F a0 a1 h = some (r, h1)) : jM1 (3 + 1 * F.2) 218 [.ref a0, .int a1] h r h1 := by
  have q := rcok_rc4 F F.2 _ _ _ _ _ e
  rwa [show 3 + 0 * F.2 + F.2 = 3 + 1 * F.2 by omega] at q
theorem k_M_readTerm (F : Nat × Nat) (a0 : Nat) (a1 : Int32) (h : jH) (r : Option Value) (h1 : jH) (e : m_M_readTerm F a0 a1 h = some (r, h1)) : jM1 (3 + 1 * F.2) 217 [.ref a0, .int a1] h r h1 := by
  have q := rcok_rc4 F F.2 _ _ _ _ _ e
  rwa [show 3 + 0 * F.2 + F.2 = 3 + 1 * F.2 by omega] at q
theorem k_M_readSum (F : Nat × Nat) (a0 : Nat) (a1 : Int32) (h : jH) (r : Option Value) (h1 : jH) (e : m_M_readSum F a0 a1 h = some (r, h1)) : jM1 (3 + 1 * F.2) 216 [.ref a0, .int a1] h r h1 := by
  have q := rcok_rc4 F F.2 _ _ _ _ _ e
  rwa [show 3 + 0 * F.2 + F.2 = 3 + 1 * F.2 by omega] at q
theorem co_M_readPart (F : Nat × Nat) : jc_ok (3 + 1 * F.2 + 1) 218 (c_M_readPart F) := by
  intro as h k out e
  unfold c_M_readPart at e
  split at e
  · obtain ⟨a0, rfl, e1⟩ := js_rv e
    obtain ⟨hg, e2⟩ := js_if e1
    obtain ⟨h1, hm, e3⟩ := js_jbV e2
    exact ⟨_, _, _, Nat.le_refl _, k_M_readPart F _ _ _ _ _ hm, ⟨fun _ => ⟨_, _, rfl, Or.inl ⟨7, by decide, hg, by decide +kernel⟩⟩, fun q => absurd q (by decide +kernel)⟩, e3⟩
  · cases e
theorem co_M_readTerm (F : Nat × Nat) : jc_ok (3 + 1 * F.2 + 1) 217 (c_M_readTerm F) := by
  intro as h k out e
  unfold c_M_readTerm at e
  split at e
  · obtain ⟨a0, rfl, e1⟩ := js_rv e
    obtain ⟨hg, e2⟩ := js_if e1
    obtain ⟨h1, hm, e3⟩ := js_jbV e2
    exact ⟨_, _, _, Nat.le_refl _, k_M_readTerm F _ _ _ _ _ hm, ⟨fun _ => ⟨_, _, rfl, Or.inl ⟨7, by decide, hg, by decide +kernel⟩⟩, fun q => absurd q (by decide +kernel)⟩, e3⟩
  · cases e
theorem co_M_readSum (F : Nat × Nat) : jc_ok (3 + 1 * F.2 + 1) 216 (c_M_readSum F) := by
  intro as h k out e
  unfold c_M_readSum at e
  split at e
  · obtain ⟨a0, rfl, e1⟩ := js_rv e
    obtain ⟨hg, e2⟩ := js_if e1
    obtain ⟨h1, hm, e3⟩ := js_jbV e2
    exact ⟨_, _, _, Nat.le_refl _, k_M_readSum F _ _ _ _ _ hm, ⟨fun _ => ⟨_, _, rfl, Or.inl ⟨7, by decide, hg, by decide +kernel⟩⟩, fun q => absurd q (by decide +kernel)⟩, e3⟩
  · cases e
def c_M_readTwo (F : Nat × Nat) : jc1 := fun args h k => match args with
  | [w0, .int a1] => j_rv w0 fun a0 => if j_k h a0 = 17 then (jbV (m_M_readTwo F a0 a1 h) fun h => k none h) else none
  | _ => none
set_option maxRecDepth 100000 in
theorem e_M_readTwo (F : Nat × Nat) (o : Nat) (a1 : Int32) (h : jH) : m_M_readTwo F o a1 h = jrun (j_C [(216, c_M_readSum F), (220, c_M_must F)]) 4 cd_M_readTwo (j_T []) 15 0 [some (.ref o), some (.int a1)] [] h := rfl
theorem hc_M_readTwo (F : Nat × Nat) : jCok (4 + 1 * F.2) (j_C [(216, c_M_readSum F), (220, c_M_must F)]) := jC_ok (List.forall_mem_cons.mpr ⟨(co_M_readSum F).up (by omega), List.forall_mem_cons.mpr ⟨(co_M_must F).up (by omega), fun _ h => absurd h List.not_mem_nil⟩⟩)
theorem k_M_readTwo (F : Nat × Nat) (o : Nat) (a1 : Int32) (h : jH) (r : Option Value) (h1 : jH) (e : m_M_readTwo F o a1 h = some (r, h1)) : jM1 (4 + 1 * F.2) 215 [.ref o, .int a1] h r h1 := jM_of (M := M_M_readTwo) mok_M_readTwo (by decide +kernel) (by decide +kernel) (Or.inr (Or.inr (Or.inr (Or.inr ⟨rfl, rfl⟩)))) (fun q => nomatch q) (jrun_ok ok_M_readTwo (hc_M_readTwo F) (jT_ok (fun _ h => absurd h List.not_mem_nil)) 15 0) (List.all_eq_true.mp rfl) (Nat.le_of_ble_eq_true rfl) (fun E => Nat.le_of_ble_eq_true rfl) ((e_M_readTwo F o a1 h).symm.trans e)
theorem co_M_readTwo (F : Nat × Nat) : jc_ok (4 + 1 * F.2 + 1) 215 (c_M_readTwo F) := by
  intro as h k out e
  unfold c_M_readTwo at e
  split at e
  · obtain ⟨a0, rfl, e1⟩ := js_rv e
    obtain ⟨hg, e2⟩ := js_if e1
    obtain ⟨h1, hm, e3⟩ := js_jbV e2
    exact ⟨_, _, _, Nat.le_refl _, k_M_readTwo F _ _ _ _ _ hm, ⟨fun _ => ⟨_, _, rfl, Or.inl ⟨7, by decide, hg, by decide +kernel⟩⟩, fun q => absurd q (by decide +kernel)⟩, e3⟩
  · cases e
def r_M_readPlain_2 (g : Nat → Int32 → Int32 → jH → Option jO) : jL → List Value → jH → Option jO := fun L S h => match L, S with
  | [some (.ref v0), some (.int v1), some (.int v2), _], [] => g v0 v1 v2 h
  | _, _ => none
def r_M_readBoth_5 (g : Nat → Int32 → jH → Option jO) : jL → List Value → jH → Option jO := fun L S h => match L, S with
  | [some (.ref v0), some (.int v1)], [] => g v0 v1 h
  | _, _ => none
def r_M_readTest_5 (g : Nat → Int32 → jH → Option jO) : jL → List Value → jH → Option jO := fun L S h => match L, S with
  | [some (.ref v0), some (.int v1)], [] => g v0 v1 h
  | _, _ => none
def c_M_readPlain_rc (rc : Nat → List Value → jH → Option jO) : jc1 := fun args h k => match args with
  | [w0, .int a1] => j_rv w0 fun a0 => if j_k h a0 = 17 then (jbV (rc 225 [.ref a0, .int a1] h) fun h => k none h) else none
  | _ => none
def c_M_readBoth_rc (rc : Nat → List Value → jH → Option jO) : jc1 := fun args h k => match args with
  | [w0, .int a1] => j_rv w0 fun a0 => if j_k h a0 = 17 then (jbV (rc 224 [.ref a0, .int a1] h) fun h => k none h) else none
  | _ => none
def c_M_readTest_rc (rc : Nat → List Value → jH → Option jO) : jc1 := fun args h k => match args with
  | [w0, .int a1] => j_rv w0 fun a0 => if j_k h a0 = 17 then (jbV (rc 223 [.ref a0, .int a1] h) fun h => k none h) else none
  | _ => none
def c_M_readPlain (F : Nat × Nat) : jc1 := fun args h k => match args with
  | [w0, .int a1] => j_rv w0 fun a0 => if j_k h a0 = 17 then (jbV (m_M_readPlain F a0 a1 h) fun h => k none h) else none
  | _ => none
def c_M_readBoth (F : Nat × Nat) : jc1 := fun args h k => match args with
  | [w0, .int a1] => j_rv w0 fun a0 => if j_k h a0 = 17 then (jbV (m_M_readBoth F a0 a1 h) fun h => k none h) else none
  | _ => none
def c_M_readTest (F : Nat × Nat) : jc1 := fun args h k => match args with
  | [w0, .int a1] => j_rv w0 fun a0 => if j_k h a0 = 17 then (jbV (m_M_readTest F a0 a1 h) fun h => k none h) else none
  | _ => none
set_option maxRecDepth 100000 in
theorem e_M_readPlain_2 (F : Nat × Nat) (rc : Nat → List Value → jH → Option jO) (f : Nat) (v0 : Nat) (v1 : Int32) (v2 : Int32) (u1 : Option Value) (h : jH) : m_M_readPlain_2 F rc (f + 1) v0 v1 v2 h = jst (j_C [(182, c_M_sign F), (213, c_M_takes0 F), (214, c_M_fine F), (216, c_M_readSum F), (219, c_M_faults F), (220, c_M_must F), (223, c_M_readTest_rc rc)]) 4 (cd_M_readPlain 2) [some (.ref v0), some (.int v1), some (.int v2), u1] [] h (jrun (j_C [(182, c_M_sign F), (213, c_M_takes0 F), (214, c_M_fine F), (216, c_M_readSum F), (219, c_M_faults F), (220, c_M_must F), (223, c_M_readTest_rc rc)]) 4 cd_M_readPlain (j_T [(2, r_M_readPlain_2 (m_M_readPlain_2 F rc f))]) 74) := rfl
set_option maxRecDepth 100000 in
theorem e_M_readPlain (F : Nat × Nat) (rc : Nat → List Value → jH → Option jO) (o : Nat) (a1 : Int32) (h : jH) : m_M_readPlain_r F rc o a1 h = jrun (j_C [(182, c_M_sign F), (213, c_M_takes0 F), (214, c_M_fine F), (216, c_M_readSum F), (219, c_M_faults F), (220, c_M_must F), (223, c_M_readTest_rc rc)]) 4 cd_M_readPlain (j_T [(2, r_M_readPlain_2 (m_M_readPlain_2 F rc F.1))]) 74 0 [some (.ref o), some (.int a1), none, none] [] h := rfl
set_option maxRecDepth 100000 in
theorem e_M_readBoth_5 (F : Nat × Nat) (rc : Nat → List Value → jH → Option jO) (f : Nat) (v0 : Nat) (v1 : Int32) (h : jH) : m_M_readBoth_5 F rc (f + 1) v0 v1 h = jst (j_C [(213, c_M_takes0 F), (225, c_M_readPlain_rc rc)]) 4 (cd_M_readBoth 5) [some (.ref v0), some (.int v1)] [] h (jrun (j_C [(213, c_M_takes0 F), (225, c_M_readPlain_rc rc)]) 4 cd_M_readBoth (j_T [(5, r_M_readBoth_5 (m_M_readBoth_5 F rc f))]) 17) := rfl
set_option maxRecDepth 100000 in
theorem e_M_readBoth (F : Nat × Nat) (rc : Nat → List Value → jH → Option jO) (o : Nat) (a1 : Int32) (h : jH) : m_M_readBoth_r F rc o a1 h = jrun (j_C [(213, c_M_takes0 F), (225, c_M_readPlain_rc rc)]) 4 cd_M_readBoth (j_T [(5, r_M_readBoth_5 (m_M_readBoth_5 F rc F.1))]) 17 0 [some (.ref o), some (.int a1)] [] h := rfl
set_option maxRecDepth 100000 in
theorem e_M_readTest_5 (F : Nat × Nat) (rc : Nat → List Value → jH → Option jO) (f : Nat) (v0 : Nat) (v1 : Int32) (h : jH) : m_M_readTest_5 F rc (f + 1) v0 v1 h = jst (j_C [(213, c_M_takes0 F), (224, c_M_readBoth_rc rc)]) 4 (cd_M_readTest 5) [some (.ref v0), some (.int v1)] [] h (jrun (j_C [(213, c_M_takes0 F), (224, c_M_readBoth_rc rc)]) 4 cd_M_readTest (j_T [(5, r_M_readTest_5 (m_M_readTest_5 F rc f))]) 17) := rfl
set_option maxRecDepth 100000 in
theorem e_M_readTest (F : Nat × Nat) (rc : Nat → List Value → jH → Option jO) (o : Nat) (a1 : Int32) (h : jH) : m_M_readTest_r F rc o a1 h = jrun (j_C [(213, c_M_takes0 F), (224, c_M_readBoth_rc rc)]) 4 cd_M_readTest (j_T [(5, r_M_readTest_5 (m_M_readTest_5 F rc F.1))]) 17 0 [some (.ref o), some (.int a1)] [] h := rfl
theorem hc_M_readPlain (F : Nat × Nat) (rc : Nat → List Value → jH → Option jO) {D : Nat} (hD : 4 + 1 * F.2 ≤ D) (q_M_readPlain : jc_ok D 225 (c_M_readPlain_rc rc)) (q_M_readBoth : jc_ok D 224 (c_M_readBoth_rc rc)) (q_M_readTest : jc_ok D 223 (c_M_readTest_rc rc)) : jCok D (j_C [(182, c_M_sign F), (213, c_M_takes0 F), (214, c_M_fine F), (216, c_M_readSum F), (219, c_M_faults F), (220, c_M_must F), (223, c_M_readTest_rc rc)]) := jC_ok (List.forall_mem_cons.mpr ⟨(co_M_sign F).up (by omega), List.forall_mem_cons.mpr ⟨(co_M_takes0 F).up (by omega), List.forall_mem_cons.mpr ⟨(co_M_fine F).up (by omega), List.forall_mem_cons.mpr ⟨(co_M_readSum F).up (by omega), List.forall_mem_cons.mpr ⟨(co_M_faults F).up (by omega), List.forall_mem_cons.mpr ⟨(co_M_must F).up (by omega), List.forall_mem_cons.mpr ⟨q_M_readTest, fun _ h => absurd h List.not_mem_nil⟩⟩⟩⟩⟩⟩⟩)
theorem g_M_readPlain_2 (F : Nat × Nat) (rc : Nat → List Value → jH → Option jO) {D : Nat} (hD : 4 + 1 * F.2 ≤ D) (q_M_readPlain : jc_ok D 225 (c_M_readPlain_rc rc)) (q_M_readBoth : jc_ok D 224 (c_M_readBoth_rc rc)) (q_M_readTest : jc_ok D 223 (c_M_readTest_rc rc)) : ∀ f, jG M_M_readPlain D 2 (r_M_readPlain_2 (m_M_readPlain_2 F rc f))
  | 0 => jG.no (fun L S h => by unfold r_M_readPlain_2; split <;> rfl)
  | f + 1 => (jst_ok ok_M_readPlain (hc_M_readPlain F rc hD q_M_readPlain q_M_readBoth q_M_readTest) (jrun_ok ok_M_readPlain (hc_M_readPlain F rc hD q_M_readPlain q_M_readBoth q_M_readTest) (jT_ok (List.forall_mem_cons.mpr ⟨g_M_readPlain_2 F rc hD q_M_readPlain q_M_readBoth q_M_readTest f, fun _ h => absurd h List.not_mem_nil⟩)) 74) 2).of (fun L S h out e => by unfold r_M_readPlain_2 at e; split at e; exact (e_M_readPlain_2 F rc f _ _ _ _ _).symm.trans e; cases e)
theorem kr_M_readPlain (F : Nat × Nat) (rc : Nat → List Value → jH → Option jO) {D : Nat} (hD : 4 + 1 * F.2 ≤ D) (q_M_readPlain : jc_ok D 225 (c_M_readPlain_rc rc)) (q_M_readBoth : jc_ok D 224 (c_M_readBoth_rc rc)) (q_M_readTest : jc_ok D 223 (c_M_readTest_rc rc)) (o : Nat) (a1 : Int32) (h : jH) (r : Option Value) (h1 : jH) (e : m_M_readPlain_r F rc o a1 h = some (r, h1)) : jM1 D 225 [.ref o, .int a1] h r h1 := jM_of (M := M_M_readPlain) mok_M_readPlain (by decide +kernel) (by decide +kernel) (Or.inr (Or.inr (Or.inr (Or.inr ⟨rfl, rfl⟩)))) (fun q => nomatch q) (jrun_ok ok_M_readPlain (hc_M_readPlain F rc hD q_M_readPlain q_M_readBoth q_M_readTest) (jT_ok (List.forall_mem_cons.mpr ⟨g_M_readPlain_2 F rc hD q_M_readPlain q_M_readBoth q_M_readTest F.1, fun _ h => absurd h List.not_mem_nil⟩)) 74 0) (List.all_eq_true.mp rfl) (Nat.le_of_ble_eq_true rfl) (fun E => Nat.le_of_ble_eq_true rfl) ((e_M_readPlain F rc o a1 h).symm.trans e)
theorem hc_M_readBoth (F : Nat × Nat) (rc : Nat → List Value → jH → Option jO) {D : Nat} (hD : 4 + 1 * F.2 ≤ D) (q_M_readPlain : jc_ok D 225 (c_M_readPlain_rc rc)) (q_M_readBoth : jc_ok D 224 (c_M_readBoth_rc rc)) (q_M_readTest : jc_ok D 223 (c_M_readTest_rc rc)) : jCok D (j_C [(213, c_M_takes0 F), (225, c_M_readPlain_rc rc)]) := jC_ok (List.forall_mem_cons.mpr ⟨(co_M_takes0 F).up (by omega), List.forall_mem_cons.mpr ⟨q_M_readPlain, fun _ h => absurd h List.not_mem_nil⟩⟩)
theorem g_M_readBoth_5 (F : Nat × Nat) (rc : Nat → List Value → jH → Option jO) {D : Nat} (hD : 4 + 1 * F.2 ≤ D) (q_M_readPlain : jc_ok D 225 (c_M_readPlain_rc rc)) (q_M_readBoth : jc_ok D 224 (c_M_readBoth_rc rc)) (q_M_readTest : jc_ok D 223 (c_M_readTest_rc rc)) : ∀ f, jG M_M_readBoth D 5 (r_M_readBoth_5 (m_M_readBoth_5 F rc f))
  | 0 => jG.no (fun L S h => by unfold r_M_readBoth_5; split <;> rfl)
  | f + 1 => (jst_ok ok_M_readBoth (hc_M_readBoth F rc hD q_M_readPlain q_M_readBoth q_M_readTest) (jrun_ok ok_M_readBoth (hc_M_readBoth F rc hD q_M_readPlain q_M_readBoth q_M_readTest) (jT_ok (List.forall_mem_cons.mpr ⟨g_M_readBoth_5 F rc hD q_M_readPlain q_M_readBoth q_M_readTest f, fun _ h => absurd h List.not_mem_nil⟩)) 17) 5).of (fun L S h out e => by unfold r_M_readBoth_5 at e; split at e; exact (e_M_readBoth_5 F rc f _ _ _).symm.trans e; cases e)
theorem kr_M_readBoth (F : Nat × Nat) (rc : Nat → List Value → jH → Option jO) {D : Nat} (hD : 4 + 1 * F.2 ≤ D) (q_M_readPlain : jc_ok D 225 (c_M_readPlain_rc rc)) (q_M_readBoth : jc_ok D 224 (c_M_readBoth_rc rc)) (q_M_readTest : jc_ok D 223 (c_M_readTest_rc rc)) (o : Nat) (a1 : Int32) (h : jH) (r : Option Value) (h1 : jH) (e : m_M_readBoth_r F rc o a1 h = some (r, h1)) : jM1 D 224 [.ref o, .int a1] h r h1 := jM_of (M := M_M_readBoth) mok_M_readBoth (by decide +kernel) (by decide +kernel) (Or.inr (Or.inr (Or.inr (Or.inr ⟨rfl, rfl⟩)))) (fun q => nomatch q) (jrun_ok ok_M_readBoth (hc_M_readBoth F rc hD q_M_readPlain q_M_readBoth q_M_readTest) (jT_ok (List.forall_mem_cons.mpr ⟨g_M_readBoth_5 F rc hD q_M_readPlain q_M_readBoth q_M_readTest F.1, fun _ h => absurd h List.not_mem_nil⟩)) 17 0) (List.all_eq_true.mp rfl) (Nat.le_of_ble_eq_true rfl) (fun E => Nat.le_of_ble_eq_true rfl) ((e_M_readBoth F rc o a1 h).symm.trans e)
theorem hc_M_readTest (F : Nat × Nat) (rc : Nat → List Value → jH → Option jO) {D : Nat} (hD : 4 + 1 * F.2 ≤ D) (q_M_readPlain : jc_ok D 225 (c_M_readPlain_rc rc)) (q_M_readBoth : jc_ok D 224 (c_M_readBoth_rc rc)) (q_M_readTest : jc_ok D 223 (c_M_readTest_rc rc)) : jCok D (j_C [(213, c_M_takes0 F), (224, c_M_readBoth_rc rc)]) := jC_ok (List.forall_mem_cons.mpr ⟨(co_M_takes0 F).up (by omega), List.forall_mem_cons.mpr ⟨q_M_readBoth, fun _ h => absurd h List.not_mem_nil⟩⟩)
theorem g_M_readTest_5 (F : Nat × Nat) (rc : Nat → List Value → jH → Option jO) {D : Nat} (hD : 4 + 1 * F.2 ≤ D) (q_M_readPlain : jc_ok D 225 (c_M_readPlain_rc rc)) (q_M_readBoth : jc_ok D 224 (c_M_readBoth_rc rc)) (q_M_readTest : jc_ok D 223 (c_M_readTest_rc rc)) : ∀ f, jG M_M_readTest D 5 (r_M_readTest_5 (m_M_readTest_5 F rc f))
  | 0 => jG.no (fun L S h => by unfold r_M_readTest_5; split <;> rfl)
  | f + 1 => (jst_ok ok_M_readTest (hc_M_readTest F rc hD q_M_readPlain q_M_readBoth q_M_readTest) (jrun_ok ok_M_readTest (hc_M_readTest F rc hD q_M_readPlain q_M_readBoth q_M_readTest) (jT_ok (List.forall_mem_cons.mpr ⟨g_M_readTest_5 F rc hD q_M_readPlain q_M_readBoth q_M_readTest f, fun _ h => absurd h List.not_mem_nil⟩)) 17) 5).of (fun L S h out e => by unfold r_M_readTest_5 at e; split at e; exact (e_M_readTest_5 F rc f _ _ _).symm.trans e; cases e)
theorem kr_M_readTest (F : Nat × Nat) (rc : Nat → List Value → jH → Option jO) {D : Nat} (hD : 4 + 1 * F.2 ≤ D) (q_M_readPlain : jc_ok D 225 (c_M_readPlain_rc rc)) (q_M_readBoth : jc_ok D 224 (c_M_readBoth_rc rc)) (q_M_readTest : jc_ok D 223 (c_M_readTest_rc rc)) (o : Nat) (a1 : Int32) (h : jH) (r : Option Value) (h1 : jH) (e : m_M_readTest_r F rc o a1 h = some (r, h1)) : jM1 D 223 [.ref o, .int a1] h r h1 := jM_of (M := M_M_readTest) mok_M_readTest (by decide +kernel) (by decide +kernel) (Or.inr (Or.inr (Or.inr (Or.inr ⟨rfl, rfl⟩)))) (fun q => nomatch q) (jrun_ok ok_M_readTest (hc_M_readTest F rc hD q_M_readPlain q_M_readBoth q_M_readTest) (jT_ok (List.forall_mem_cons.mpr ⟨g_M_readTest_5 F rc hD q_M_readPlain q_M_readBoth q_M_readTest F.1, fun _ h => absurd h List.not_mem_nil⟩)) 17 0) (List.all_eq_true.mp rfl) (Nat.le_of_ble_eq_true rfl) (fun E => Nat.le_of_ble_eq_true rfl) ((e_M_readTest F rc o a1 h).symm.trans e)
theorem co_M_readPlain_rc {d : Nat} (rc : Nat → List Value → jH → Option jO) (hrc : ∀ c as h r h1, rc c as h = some (r, h1) → jM1 d c as h r h1) : jc_ok (d + 1) 225 (c_M_readPlain_rc rc) := by
  intro as h k out e
  unfold c_M_readPlain_rc at e
  split at e
  · obtain ⟨a0, rfl, e1⟩ := js_rv e
    obtain ⟨hg, e2⟩ := js_if e1
    obtain ⟨h1, hm, e3⟩ := js_jbV e2
    exact ⟨_, _, _, Nat.le_refl _, hrc _ _ _ _ _ hm, ⟨fun _ => ⟨_, _, rfl, Or.inl ⟨7, by decide, hg, by decide +kernel⟩⟩, fun q => absurd q (by decide +kernel)⟩, e3⟩
  · cases e
theorem co_M_readBoth_rc {d : Nat} (rc : Nat → List Value → jH → Option jO) (hrc : ∀ c as h r h1, rc c as h = some (r, h1) → jM1 d c as h r h1) : jc_ok (d + 1) 224 (c_M_readBoth_rc rc) := by
  intro as h k out e
  unfold c_M_readBoth_rc at e
  split at e
  · obtain ⟨a0, rfl, e1⟩ := js_rv e
    obtain ⟨hg, e2⟩ := js_if e1
    obtain ⟨h1, hm, e3⟩ := js_jbV e2
    exact ⟨_, _, _, Nat.le_refl _, hrc _ _ _ _ _ hm, ⟨fun _ => ⟨_, _, rfl, Or.inl ⟨7, by decide, hg, by decide +kernel⟩⟩, fun q => absurd q (by decide +kernel)⟩, e3⟩
  · cases e
theorem co_M_readTest_rc {d : Nat} (rc : Nat → List Value → jH → Option jO) (hrc : ∀ c as h r h1, rc c as h = some (r, h1) → jM1 d c as h r h1) : jc_ok (d + 1) 223 (c_M_readTest_rc rc) := by
  intro as h k out e
  unfold c_M_readTest_rc at e
  split at e
  · obtain ⟨a0, rfl, e1⟩ := js_rv e
    obtain ⟨hg, e2⟩ := js_if e1
    obtain ⟨h1, hm, e3⟩ := js_jbV e2
    exact ⟨_, _, _, Nat.le_refl _, hrc _ _ _ _ _ hm, ⟨fun _ => ⟨_, _, rfl, Or.inl ⟨7, by decide, hg, by decide +kernel⟩⟩, fun q => absurd q (by decide +kernel)⟩, e3⟩
  · cases e
theorem rcok_rc5 (F : Nat × Nat) : ∀ f c as h r h1, rc5 F f c as h = some (r, h1) → jM1 (4 + 1 * F.2 + f) c as h r h1
  | 0, c, as, h, r, h1, e => nomatch (show (none : Option jO) = some (r, h1) from e)
  | f + 1, c, as, h, r, h1, e => by
    unfold rc5 at e
    split at e
    · exact kr_M_readPlain F (rc5 F f) (by omega) (co_M_readPlain_rc (rc5 F f) (rcok_rc5 F f)) (co_M_readBoth_rc (rc5 F f) (rcok_rc5 F f)) (co_M_readTest_rc (rc5 F f) (rcok_rc5 F f)) _ _ _ _ _ e
    · exact kr_M_readBoth F (rc5 F f) (by omega) (co_M_readPlain_rc (rc5 F f) (rcok_rc5 F f)) (co_M_readBoth_rc (rc5 F f) (rcok_rc5 F f)) (co_M_readTest_rc (rc5 F f) (rcok_rc5 F f)) _ _ _ _ _ e
    · exact kr_M_readTest F (rc5 F f) (by omega) (co_M_readPlain_rc (rc5 F f) (rcok_rc5 F f)) (co_M_readBoth_rc (rc5 F f) (rcok_rc5 F f)) (co_M_readTest_rc (rc5 F f) (rcok_rc5 F f)) _ _ _ _ _ e
    · cases e
theorem k_M_readPlain (F : Nat × Nat) (a0 : Nat) (a1 : Int32) (h : jH) (r : Option Value) (h1 : jH) (e : m_M_readPlain F a0 a1 h = some (r, h1)) : jM1 (4 + 2 * F.2) 225 [.ref a0, .int a1] h r h1 := by
  have q := rcok_rc5 F F.2 _ _ _ _ _ e
  rwa [show 4 + 1 * F.2 + F.2 = 4 + 2 * F.2 by omega] at q
theorem k_M_readBoth (F : Nat × Nat) (a0 : Nat) (a1 : Int32) (h : jH) (r : Option Value) (h1 : jH) (e : m_M_readBoth F a0 a1 h = some (r, h1)) : jM1 (4 + 2 * F.2) 224 [.ref a0, .int a1] h r h1 := by
  have q := rcok_rc5 F F.2 _ _ _ _ _ e
  rwa [show 4 + 1 * F.2 + F.2 = 4 + 2 * F.2 by omega] at q
theorem k_M_readTest (F : Nat × Nat) (a0 : Nat) (a1 : Int32) (h : jH) (r : Option Value) (h1 : jH) (e : m_M_readTest F a0 a1 h = some (r, h1)) : jM1 (4 + 2 * F.2) 223 [.ref a0, .int a1] h r h1 := by
  have q := rcok_rc5 F F.2 _ _ _ _ _ e
  rwa [show 4 + 1 * F.2 + F.2 = 4 + 2 * F.2 by omega] at q
theorem co_M_readPlain (F : Nat × Nat) : jc_ok (4 + 2 * F.2 + 1) 225 (c_M_readPlain F) := by
  intro as h k out e
  unfold c_M_readPlain at e
  split at e
  · obtain ⟨a0, rfl, e1⟩ := js_rv e
    obtain ⟨hg, e2⟩ := js_if e1
    obtain ⟨h1, hm, e3⟩ := js_jbV e2
    exact ⟨_, _, _, Nat.le_refl _, k_M_readPlain F _ _ _ _ _ hm, ⟨fun _ => ⟨_, _, rfl, Or.inl ⟨7, by decide, hg, by decide +kernel⟩⟩, fun q => absurd q (by decide +kernel)⟩, e3⟩
  · cases e
theorem co_M_readBoth (F : Nat × Nat) : jc_ok (4 + 2 * F.2 + 1) 224 (c_M_readBoth F) := by
  intro as h k out e
  unfold c_M_readBoth at e
  split at e
  · obtain ⟨a0, rfl, e1⟩ := js_rv e
    obtain ⟨hg, e2⟩ := js_if e1
    obtain ⟨h1, hm, e3⟩ := js_jbV e2
    exact ⟨_, _, _, Nat.le_refl _, k_M_readBoth F _ _ _ _ _ hm, ⟨fun _ => ⟨_, _, rfl, Or.inl ⟨7, by decide, hg, by decide +kernel⟩⟩, fun q => absurd q (by decide +kernel)⟩, e3⟩
  · cases e
theorem co_M_readTest (F : Nat × Nat) : jc_ok (4 + 2 * F.2 + 1) 223 (c_M_readTest F) := by
  intro as h k out e
  unfold c_M_readTest at e
  split at e
  · obtain ⟨a0, rfl, e1⟩ := js_rv e
    obtain ⟨hg, e2⟩ := js_if e1
    obtain ⟨h1, hm, e3⟩ := js_jbV e2
    exact ⟨_, _, _, Nat.le_refl _, k_M_readTest F _ _ _ _ _ hm, ⟨fun _ => ⟨_, _, rfl, Or.inl ⟨7, by decide, hg, by decide +kernel⟩⟩, fun q => absurd q (by decide +kernel)⟩, e3⟩
  · cases e
def r_M_readOrder_60 (g : Nat → jH → Option jO) : jL → List Value → jH → Option jO := fun L S h => match L, S with
  | [some (.ref v0)], [] => g v0 h
  | _, _ => none
def c_M_readOrder (F : Nat × Nat) : jc1 := fun args h k => match args with
  | [w0] => j_rv w0 fun a0 => if j_k h a0 = 17 then (jbV (m_M_readOrder F a0 h) fun h => k none h) else none
  | _ => none
set_option maxRecDepth 100000 in
theorem e_M_readOrder_60 (F : Nat × Nat) (v0 : Nat) (h : jH) : m_M_readOrder_60 F v0 h = jst (j_C [(213, c_M_takes0 F), (215, c_M_readTwo F), (220, c_M_must F), (222, c_M_mustNumber F), (223, c_M_readTest F)]) 4 (cd_M_readOrder 60) [some (.ref v0)] [] h (jrun (j_C [(213, c_M_takes0 F), (215, c_M_readTwo F), (220, c_M_must F), (222, c_M_mustNumber F), (223, c_M_readTest F)]) 4 cd_M_readOrder (j_T []) 48) := rfl
set_option maxRecDepth 100000 in
theorem e_M_readOrder (F : Nat × Nat) (o : Nat) (h : jH) : m_M_readOrder F o h = jrun (j_C [(213, c_M_takes0 F), (215, c_M_readTwo F), (220, c_M_must F), (222, c_M_mustNumber F), (223, c_M_readTest F)]) 4 cd_M_readOrder (j_T [(60, r_M_readOrder_60 (m_M_readOrder_60 F))]) 48 0 [some (.ref o)] [] h := rfl
theorem hc_M_readOrder (F : Nat × Nat) : jCok (5 + 2 * F.2) (j_C [(213, c_M_takes0 F), (215, c_M_readTwo F), (220, c_M_must F), (222, c_M_mustNumber F), (223, c_M_readTest F)]) := jC_ok (List.forall_mem_cons.mpr ⟨(co_M_takes0 F).up (by omega), List.forall_mem_cons.mpr ⟨(co_M_readTwo F).up (by omega), List.forall_mem_cons.mpr ⟨(co_M_must F).up (by omega), List.forall_mem_cons.mpr ⟨(co_M_mustNumber F).up (by omega), List.forall_mem_cons.mpr ⟨(co_M_readTest F).up (by omega), fun _ h => absurd h List.not_mem_nil⟩⟩⟩⟩⟩)
theorem g_M_readOrder_60 (F : Nat × Nat) : jG M_M_readOrder (5 + 2 * F.2) 60 (r_M_readOrder_60 (m_M_readOrder_60 F)) := (jst_ok ok_M_readOrder (hc_M_readOrder F) (jrun_ok ok_M_readOrder (hc_M_readOrder F) (jT_ok (fun _ h => absurd h List.not_mem_nil)) 48) 60).of (fun L S h out e => by unfold r_M_readOrder_60 at e; split at e; exact (e_M_readOrder_60 F _ _).symm.trans e; cases e)
theorem k_M_readOrder (F : Nat × Nat) (o : Nat) (h : jH) (r : Option Value) (h1 : jH) (e : m_M_readOrder F o h = some (r, h1)) : jM1 (5 + 2 * F.2) 212 [.ref o] h r h1 := jM_of (M := M_M_readOrder) mok_M_readOrder (by decide +kernel) (by decide +kernel) (Or.inr (Or.inr (Or.inr (Or.inr ⟨rfl, rfl⟩)))) (fun q => nomatch q) (jrun_ok ok_M_readOrder (hc_M_readOrder F) (jT_ok (List.forall_mem_cons.mpr ⟨g_M_readOrder_60 F, fun _ h => absurd h List.not_mem_nil⟩)) 48 0) (List.all_eq_true.mp rfl) (Nat.le_of_ble_eq_true rfl) (fun E => Nat.le_of_ble_eq_true rfl) ((e_M_readOrder F o h).symm.trans e)
theorem co_M_readOrder (F : Nat × Nat) : jc_ok (5 + 2 * F.2 + 1) 212 (c_M_readOrder F) := by
  intro as h k out e
  unfold c_M_readOrder at e
  split at e
  · obtain ⟨a0, rfl, e1⟩ := js_rv e
    obtain ⟨hg, e2⟩ := js_if e1
    obtain ⟨h1, hm, e3⟩ := js_jbV e2
    exact ⟨_, _, _, Nat.le_refl _, k_M_readOrder F _ _ _ _ hm, ⟨fun _ => ⟨_, _, rfl, Or.inl ⟨7, by decide, hg, by decide +kernel⟩⟩, fun q => absurd q (by decide +kernel)⟩, e3⟩
  · cases e
def c_M_readClause (F : Nat × Nat) : jc1 := fun args h k => match args with
  | [w0] => j_rv w0 fun a0 => if j_k h a0 = 17 then (jbV (m_M_readClause F a0 h) fun h => k none h) else none
  | _ => none
set_option maxRecDepth 100000 in
theorem e_M_readClause (F : Nat × Nat) (o : Nat) (h : jH) : m_M_readClause F o h = jrun (j_C [(213, c_M_takes0 F), (216, c_M_readSum F), (220, c_M_must F), (223, c_M_readTest F)]) 4 cd_M_readClause (j_T []) 28 0 [some (.ref o)] [] h := rfl
theorem hc_M_readClause (F : Nat × Nat) : jCok (5 + 2 * F.2) (j_C [(213, c_M_takes0 F), (216, c_M_readSum F), (220, c_M_must F), (223, c_M_readTest F)]) := jC_ok (List.forall_mem_cons.mpr ⟨(co_M_takes0 F).up (by omega), List.forall_mem_cons.mpr ⟨(co_M_readSum F).up (by omega), List.forall_mem_cons.mpr ⟨(co_M_must F).up (by omega), List.forall_mem_cons.mpr ⟨(co_M_readTest F).up (by omega), fun _ h => absurd h List.not_mem_nil⟩⟩⟩⟩)
theorem k_M_readClause (F : Nat × Nat) (o : Nat) (h : jH) (r : Option Value) (h1 : jH) (e : m_M_readClause F o h = some (r, h1)) : jM1 (5 + 2 * F.2) 226 [.ref o] h r h1 := jM_of (M := M_M_readClause) mok_M_readClause (by decide +kernel) (by decide +kernel) (Or.inr (Or.inr (Or.inr (Or.inr ⟨rfl, rfl⟩)))) (fun q => nomatch q) (jrun_ok ok_M_readClause (hc_M_readClause F) (jT_ok (fun _ h => absurd h List.not_mem_nil)) 28 0) (List.all_eq_true.mp rfl) (Nat.le_of_ble_eq_true rfl) (fun E => Nat.le_of_ble_eq_true rfl) ((e_M_readClause F o h).symm.trans e)
theorem co_M_readClause (F : Nat × Nat) : jc_ok (5 + 2 * F.2 + 1) 226 (c_M_readClause F) := by
  intro as h k out e
  unfold c_M_readClause at e
  split at e
  · obtain ⟨a0, rfl, e1⟩ := js_rv e
    obtain ⟨hg, e2⟩ := js_if e1
    obtain ⟨h1, hm, e3⟩ := js_jbV e2
    exact ⟨_, _, _, Nat.le_refl _, k_M_readClause F _ _ _ _ hm, ⟨fun _ => ⟨_, _, rfl, Or.inl ⟨7, by decide, hg, by decide +kernel⟩⟩, fun q => absurd q (by decide +kernel)⟩, e3⟩
  · cases e
def c_M_readOne (F : Nat × Nat) : jc1 := fun args h k => match args with
  | [w0] => j_rv w0 fun a0 => if j_k h a0 = 17 then (jbV (m_M_readOne F a0 h) fun h => k none h) else none
  | _ => none
set_option maxRecDepth 100000 in
theorem e_M_readOne (F : Nat × Nat) (o : Nat) (h : jH) : m_M_readOne F o h = jrun (j_C [(212, c_M_readOrder F), (226, c_M_readClause F)]) 4 cd_M_readOne (j_T []) 14 0 [some (.ref o)] [] h := rfl
theorem hc_M_readOne (F : Nat × Nat) : jCok (6 + 2 * F.2) (j_C [(212, c_M_readOrder F), (226, c_M_readClause F)]) := jC_ok (List.forall_mem_cons.mpr ⟨(co_M_readOrder F).up (by omega), List.forall_mem_cons.mpr ⟨(co_M_readClause F).up (by omega), fun _ h => absurd h List.not_mem_nil⟩⟩)
theorem k_M_readOne (F : Nat × Nat) (o : Nat) (h : jH) (r : Option Value) (h1 : jH) (e : m_M_readOne F o h = some (r, h1)) : jM1 (6 + 2 * F.2) 211 [.ref o] h r h1 := jM_of (M := M_M_readOne) mok_M_readOne (by decide +kernel) (by decide +kernel) (Or.inr (Or.inr (Or.inr (Or.inr ⟨rfl, rfl⟩)))) (fun q => nomatch q) (jrun_ok ok_M_readOne (hc_M_readOne F) (jT_ok (fun _ h => absurd h List.not_mem_nil)) 14 0) (List.all_eq_true.mp rfl) (Nat.le_of_ble_eq_true rfl) (fun E => Nat.le_of_ble_eq_true rfl) ((e_M_readOne F o h).symm.trans e)
theorem co_M_readOne (F : Nat × Nat) : jc_ok (6 + 2 * F.2 + 1) 211 (c_M_readOne F) := by
  intro as h k out e
  unfold c_M_readOne at e
  split at e
  · obtain ⟨a0, rfl, e1⟩ := js_rv e
    obtain ⟨hg, e2⟩ := js_if e1
    obtain ⟨h1, hm, e3⟩ := js_jbV e2
    exact ⟨_, _, _, Nat.le_refl _, k_M_readOne F _ _ _ _ hm, ⟨fun _ => ⟨_, _, rfl, Or.inl ⟨7, by decide, hg, by decide +kernel⟩⟩, fun q => absurd q (by decide +kernel)⟩, e3⟩
  · cases e
def r_M_reads_34 (g : Nat → Int32 → jH → Option jO) : jL → List Value → jH → Option jO := fun L S h => match L, S with
  | [some (.ref v0), some (.int v1)], [] => g v0 v1 h
  | _, _ => none
def c_M_reads (F : Nat × Nat) : jc1 := fun args h k => match args with
  | [w0] => j_rv w0 fun a0 => if j_k h a0 = 17 then (jbI (m_M_reads F a0 h) fun r h => k (some (.int r)) h) else none
  | _ => none
set_option maxRecDepth 100000 in
theorem e_M_reads_34 (F : Nat × Nat) (f : Nat) (v0 : Nat) (v1 : Int32) (h : jH) : m_M_reads_34 F (f + 1) v0 v1 h = jst (j_C [(182, c_M_sign F), (207, c_M_splits F), (211, c_M_readOne F), (213, c_M_takes0 F), (214, c_M_fine F), (219, c_M_faults F)]) 1 (cd_M_reads 34) [some (.ref v0), some (.int v1)] [] h (jrun (j_C [(182, c_M_sign F), (207, c_M_splits F), (211, c_M_readOne F), (213, c_M_takes0 F), (214, c_M_fine F), (219, c_M_faults F)]) 1 cd_M_reads (j_T [(34, r_M_reads_34 (m_M_reads_34 F f))]) 59) := rfl
set_option maxRecDepth 100000 in
theorem e_M_reads (F : Nat × Nat) (o : Nat) (h : jH) : m_M_reads F o h = jrun (j_C [(182, c_M_sign F), (207, c_M_splits F), (211, c_M_readOne F), (213, c_M_takes0 F), (214, c_M_fine F), (219, c_M_faults F)]) 1 cd_M_reads (j_T [(34, r_M_reads_34 (m_M_reads_34 F F.1))]) 59 0 [some (.ref o), none] [] h := rfl
theorem hc_M_reads (F : Nat × Nat) : jCok (7 + 2 * F.2) (j_C [(182, c_M_sign F), (207, c_M_splits F), (211, c_M_readOne F), (213, c_M_takes0 F), (214, c_M_fine F), (219, c_M_faults F)]) := jC_ok (List.forall_mem_cons.mpr ⟨(co_M_sign F).up (by omega), List.forall_mem_cons.mpr ⟨(co_M_splits F).up (by omega), List.forall_mem_cons.mpr ⟨(co_M_readOne F).up (by omega), List.forall_mem_cons.mpr ⟨(co_M_takes0 F).up (by omega), List.forall_mem_cons.mpr ⟨(co_M_fine F).up (by omega), List.forall_mem_cons.mpr ⟨(co_M_faults F).up (by omega), fun _ h => absurd h List.not_mem_nil⟩⟩⟩⟩⟩⟩)
theorem g_M_reads_34 (F : Nat × Nat) : ∀ f, jG M_M_reads (7 + 2 * F.2) 34 (r_M_reads_34 (m_M_reads_34 F f))
  | 0 => jG.no (fun L S h => by unfold r_M_reads_34; split <;> rfl)
  | f + 1 => (jst_ok ok_M_reads (hc_M_reads F) (jrun_ok ok_M_reads (hc_M_reads F) (jT_ok (List.forall_mem_cons.mpr ⟨g_M_reads_34 F f, fun _ h => absurd h List.not_mem_nil⟩)) 59) 34).of (fun L S h out e => by unfold r_M_reads_34 at e; split at e; exact (e_M_reads_34 F f _ _ _).symm.trans e; cases e)
theorem k_M_reads (F : Nat × Nat) (o : Nat) (h : jH) (r : Option Value) (h1 : jH) (e : m_M_reads F o h = some (r, h1)) : jM1 (7 + 2 * F.2) 206 [.ref o] h r h1 := jM_of (M := M_M_reads) mok_M_reads (by decide +kernel) (by decide +kernel) (Or.inr (Or.inl ⟨rfl, rfl⟩)) (fun q => nomatch q) (jrun_ok ok_M_reads (hc_M_reads F) (jT_ok (List.forall_mem_cons.mpr ⟨g_M_reads_34 F F.1, fun _ h => absurd h List.not_mem_nil⟩)) 59 0) (List.all_eq_true.mp rfl) (Nat.le_of_ble_eq_true rfl) (fun E => Nat.le_of_ble_eq_true rfl) ((e_M_reads F o h).symm.trans e)
theorem co_M_reads (F : Nat × Nat) : jc_ok (7 + 2 * F.2 + 1) 206 (c_M_reads F) := by
  intro as h k out e
  unfold c_M_reads at e
  split at e
  · obtain ⟨a0, rfl, e1⟩ := js_rv e
    obtain ⟨hg, e2⟩ := js_if e1
    obtain ⟨r, h1, hm, e3⟩ := js_jbI e2
    exact ⟨_, _, _, Nat.le_refl _, k_M_reads F _ _ _ _ hm, ⟨fun _ => ⟨_, _, rfl, Or.inl ⟨7, by decide, hg, by decide +kernel⟩⟩, fun q => absurd q (by decide +kernel)⟩, e3⟩
  · cases e
def c_M_readsAs (F : Nat × Nat) : jc1 := fun args h k => match args with
  | [w0, .int a1] => j_rv w0 fun a0 => if j_k h a0 = 17 then (jbI (m_M_readsAs F a0 a1 h) fun r h => k (some (.int r)) h) else none
  | _ => none
set_option maxRecDepth 100000 in
theorem e_M_readsAs (F : Nat × Nat) (o : Nat) (a1 : Int32) (h : jH) : m_M_readsAs F o a1 h = jrun (j_C [(206, c_M_reads F)]) 1 cd_M_readsAs (j_T []) 25 0 [some (.ref o), some (.int a1)] [] h := rfl
theorem hc_M_readsAs (F : Nat × Nat) : jCok (8 + 2 * F.2) (j_C [(206, c_M_reads F)]) := jC_ok (List.forall_mem_cons.mpr ⟨(co_M_reads F).up (by omega), fun _ h => absurd h List.not_mem_nil⟩)
theorem k_M_readsAs (F : Nat × Nat) (o : Nat) (a1 : Int32) (h : jH) (r : Option Value) (h1 : jH) (e : m_M_readsAs F o a1 h = some (r, h1)) : jM1 (8 + 2 * F.2) 205 [.ref o, .int a1] h r h1 := jM_of (M := M_M_readsAs) mok_M_readsAs (by decide +kernel) (by decide +kernel) (Or.inr (Or.inl ⟨rfl, rfl⟩)) (fun q => nomatch q) (jrun_ok ok_M_readsAs (hc_M_readsAs F) (jT_ok (fun _ h => absurd h List.not_mem_nil)) 25 0) (List.all_eq_true.mp rfl) (Nat.le_of_ble_eq_true rfl) (fun E => Nat.le_of_ble_eq_true rfl) ((e_M_readsAs F o a1 h).symm.trans e)
theorem co_M_readsAs (F : Nat × Nat) : jc_ok (8 + 2 * F.2 + 1) 205 (c_M_readsAs F) := by
  intro as h k out e
  unfold c_M_readsAs at e
  split at e
  · obtain ⟨a0, rfl, e1⟩ := js_rv e
    obtain ⟨hg, e2⟩ := js_if e1
    obtain ⟨r, h1, hm, e3⟩ := js_jbI e2
    exact ⟨_, _, _, Nat.le_refl _, k_M_readsAs F _ _ _ _ _ hm, ⟨fun _ => ⟨_, _, rfl, Or.inl ⟨7, by decide, hg, by decide +kernel⟩⟩, fun q => absurd q (by decide +kernel)⟩, e3⟩
  · cases e
def r_M_lays_16 (g : Nat → Int32 → Int32 → jH → Option jO) : jL → List Value → jH → Option jO := fun L S h => match L, S with
  | [some (.ref v0), some (.int v1), some (.int v2)], [] => g v0 v1 v2 h
  | _, _ => none
def c_M_lays (F : Nat × Nat) : jc1 := fun args h k => match args with
  | [w0, .int a1] => j_rv w0 fun a0 => if j_k h a0 = 17 then (jbV (m_M_lays F a0 a1 h) fun h => k none h) else none
  | _ => none
set_option maxRecDepth 100000 in
theorem e_M_lays_16 (F : Nat × Nat) (f : Nat) (v0 : Nat) (v1 : Int32) (v2 : Int32) (h : jH) : m_M_lays_16 F (f + 1) v0 v1 v2 h = jst (j_C []) 4 (cd_M_lays 16) [some (.ref v0), some (.int v1), some (.int v2)] [] h (jrun (j_C []) 4 cd_M_lays (j_T [(16, r_M_lays_16 (m_M_lays_16 F f))]) 50) := rfl
set_option maxRecDepth 100000 in
theorem e_M_lays (F : Nat × Nat) (o : Nat) (a1 : Int32) (h : jH) : m_M_lays F o a1 h = jrun (j_C []) 4 cd_M_lays (j_T [(16, r_M_lays_16 (m_M_lays_16 F F.1))]) 50 0 [some (.ref o), some (.int a1), none] [] h := rfl
theorem hc_M_lays (F : Nat × Nat) : jCok (0 + 0 * F.2) (j_C []) := jC_ok (fun _ h => absurd h List.not_mem_nil)
theorem g_M_lays_16 (F : Nat × Nat) : ∀ f, jG M_M_lays (0 + 0 * F.2) 16 (r_M_lays_16 (m_M_lays_16 F f))
  | 0 => jG.no (fun L S h => by unfold r_M_lays_16; split <;> rfl)
  | f + 1 => (jst_ok ok_M_lays (hc_M_lays F) (jrun_ok ok_M_lays (hc_M_lays F) (jT_ok (List.forall_mem_cons.mpr ⟨g_M_lays_16 F f, fun _ h => absurd h List.not_mem_nil⟩)) 50) 16).of (fun L S h out e => by unfold r_M_lays_16 at e; split at e; exact (e_M_lays_16 F f _ _ _ _).symm.trans e; cases e)
theorem k_M_lays (F : Nat × Nat) (o : Nat) (a1 : Int32) (h : jH) (r : Option Value) (h1 : jH) (e : m_M_lays F o a1 h = some (r, h1)) : jM1 (0 + 0 * F.2) 227 [.ref o, .int a1] h r h1 := jM_of (M := M_M_lays) mok_M_lays (by decide +kernel) (by decide +kernel) (Or.inr (Or.inr (Or.inr (Or.inr ⟨rfl, rfl⟩)))) (fun q => nomatch q) (jrun_ok ok_M_lays (hc_M_lays F) (jT_ok (List.forall_mem_cons.mpr ⟨g_M_lays_16 F F.1, fun _ h => absurd h List.not_mem_nil⟩)) 50 0) (List.all_eq_true.mp rfl) (Nat.le_of_ble_eq_true rfl) (fun E => Nat.le_of_ble_eq_true rfl) ((e_M_lays F o a1 h).symm.trans e)
theorem co_M_lays (F : Nat × Nat) : jc_ok (0 + 0 * F.2 + 1) 227 (c_M_lays F) := by
  intro as h k out e
  unfold c_M_lays at e
  split at e
  · obtain ⟨a0, rfl, e1⟩ := js_rv e
    obtain ⟨hg, e2⟩ := js_if e1
    obtain ⟨h1, hm, e3⟩ := js_jbV e2
    exact ⟨_, _, _, Nat.le_refl _, k_M_lays F _ _ _ _ _ hm, ⟨fun _ => ⟨_, _, rfl, Or.inl ⟨7, by decide, hg, by decide +kernel⟩⟩, fun q => absurd q (by decide +kernel)⟩, e3⟩
  · cases e
def c_M_law (F : Nat × Nat) : jc1 := fun args h k => match args with
  | [w0] => j_rv w0 fun a0 => if j_k h a0 = 17 then (jbI (m_M_law F a0 h) fun r h => k (some (.int r)) h) else none
  | _ => none
set_option maxRecDepth 100000 in
theorem e_M_law (F : Nat × Nat) (o : Nat) (h : jH) : m_M_law F o h = jrun (j_C [(158, c_M_refuses F), (159, c_M_good F), (205, c_M_readsAs F), (227, c_M_lays F)]) 0 cd_M_law (j_T []) 49 0 [some (.ref o)] [] h := rfl
theorem hc_M_law (F : Nat × Nat) : jCok (9 + 2 * F.2) (j_C [(158, c_M_refuses F), (159, c_M_good F), (205, c_M_readsAs F), (227, c_M_lays F)]) := jC_ok (List.forall_mem_cons.mpr ⟨(co_M_refuses F).up (by omega), List.forall_mem_cons.mpr ⟨(co_M_good F).up (by omega), List.forall_mem_cons.mpr ⟨(co_M_readsAs F).up (by omega), List.forall_mem_cons.mpr ⟨(co_M_lays F).up (by omega), fun _ h => absurd h List.not_mem_nil⟩⟩⟩⟩)
theorem k_M_law (F : Nat × Nat) (o : Nat) (h : jH) (r : Option Value) (h1 : jH) (e : m_M_law F o h = some (r, h1)) : jM1 (9 + 2 * F.2) 204 [.ref o] h r h1 := jM_of (M := M_M_law) mok_M_law (by decide +kernel) (by decide +kernel) (Or.inl ⟨rfl, rfl⟩) (fun q => nomatch q) (jrun_ok ok_M_law (hc_M_law F) (jT_ok (fun _ h => absurd h List.not_mem_nil)) 49 0) (List.all_eq_true.mp rfl) (Nat.le_of_ble_eq_true rfl) (fun E => Nat.le_of_ble_eq_true rfl) ((e_M_law F o h).symm.trans e)
theorem co_M_law (F : Nat × Nat) : jc_ok (9 + 2 * F.2 + 1) 204 (c_M_law F) := by
  intro as h k out e
  unfold c_M_law at e
  split at e
  · obtain ⟨a0, rfl, e1⟩ := js_rv e
    obtain ⟨hg, e2⟩ := js_if e1
    obtain ⟨r, h1, hm, e3⟩ := js_jbI e2
    exact ⟨_, _, _, Nat.le_refl _, k_M_law F _ _ _ _ hm, ⟨fun _ => ⟨_, _, rfl, Or.inl ⟨7, by decide, hg, by decide +kernel⟩⟩, fun q => absurd q (by decide +kernel)⟩, e3⟩
  · cases e
def c_M_fault (F : Nat × Nat) : jc1 := fun args h k => match args with
  | [w0] => j_rv w0 fun a0 => if j_k h a0 = 17 then (jbI (m_M_fault F a0 h) fun r h => k (some (.int r)) h) else none
  | _ => none
set_option maxRecDepth 100000 in
theorem e_M_fault (F : Nat × Nat) (o : Nat) (h : jH) : m_M_fault F o h = jrun (j_C []) 0 cd_M_fault (j_T []) 8 0 [some (.ref o)] [] h := rfl
theorem hc_M_fault (F : Nat × Nat) : jCok (0 + 0 * F.2) (j_C []) := jC_ok (fun _ h => absurd h List.not_mem_nil)
theorem k_M_fault (F : Nat × Nat) (o : Nat) (h : jH) (r : Option Value) (h1 : jH) (e : m_M_fault F o h = some (r, h1)) : jM1 (0 + 0 * F.2) 228 [.ref o] h r h1 := jM_of (M := M_M_fault) mok_M_fault (by decide +kernel) (by decide +kernel) (Or.inl ⟨rfl, rfl⟩) (fun q => nomatch q) (jrun_ok ok_M_fault (hc_M_fault F) (jT_ok (fun _ h => absurd h List.not_mem_nil)) 8 0) (List.all_eq_true.mp rfl) (Nat.le_of_ble_eq_true rfl) (fun E => Nat.le_of_ble_eq_true rfl) ((e_M_fault F o h).symm.trans e)
theorem co_M_fault (F : Nat × Nat) : jc_ok (0 + 0 * F.2 + 1) 228 (c_M_fault F) := by
  intro as h k out e
  unfold c_M_fault at e
  split at e
  · obtain ⟨a0, rfl, e1⟩ := js_rv e
    obtain ⟨hg, e2⟩ := js_if e1
    obtain ⟨r, h1, hm, e3⟩ := js_jbI e2
    exact ⟨_, _, _, Nat.le_refl _, k_M_fault F _ _ _ _ hm, ⟨fun _ => ⟨_, _, rfl, Or.inl ⟨7, by decide, hg, by decide +kernel⟩⟩, fun q => absurd q (by decide +kernel)⟩, e3⟩
  · cases e
def c_M_isLaw (F : Nat × Nat) : jc1 := fun args h k => match args with
  | [w0, .int a1] => j_rv w0 fun a0 => if j_k h a0 = 17 then (jbI (m_M_isLaw F a0 a1 h) fun r h => k (some (.int r)) h) else none
  | _ => none
set_option maxRecDepth 100000 in
theorem e_M_isLaw (F : Nat × Nat) (o : Nat) (a1 : Int32) (h : jH) : m_M_isLaw F o a1 h = jrun (j_C [(157, c_M_lies F)]) 1 cd_M_isLaw (j_T []) 15 0 [some (.ref o), some (.int a1)] [] h := rfl
theorem hc_M_isLaw (F : Nat × Nat) : jCok (1 + 0 * F.2) (j_C [(157, c_M_lies F)]) := jC_ok (List.forall_mem_cons.mpr ⟨(co_M_lies F).up (by omega), fun _ h => absurd h List.not_mem_nil⟩)
theorem k_M_isLaw (F : Nat × Nat) (o : Nat) (a1 : Int32) (h : jH) (r : Option Value) (h1 : jH) (e : m_M_isLaw F o a1 h = some (r, h1)) : jM1 (1 + 0 * F.2) 230 [.ref o, .int a1] h r h1 := jM_of (M := M_M_isLaw) mok_M_isLaw (by decide +kernel) (by decide +kernel) (Or.inr (Or.inl ⟨rfl, rfl⟩)) (fun q => nomatch q) (jrun_ok ok_M_isLaw (hc_M_isLaw F) (jT_ok (fun _ h => absurd h List.not_mem_nil)) 15 0) (List.all_eq_true.mp rfl) (Nat.le_of_ble_eq_true rfl) (fun E => Nat.le_of_ble_eq_true rfl) ((e_M_isLaw F o a1 h).symm.trans e)
theorem co_M_isLaw (F : Nat × Nat) : jc_ok (1 + 0 * F.2 + 1) 230 (c_M_isLaw F) := by
  intro as h k out e
  unfold c_M_isLaw at e
  split at e
  · obtain ⟨a0, rfl, e1⟩ := js_rv e
    obtain ⟨hg, e2⟩ := js_if e1
    obtain ⟨r, h1, hm, e3⟩ := js_jbI e2
    exact ⟨_, _, _, Nat.le_refl _, k_M_isLaw F _ _ _ _ _ hm, ⟨fun _ => ⟨_, _, rfl, Or.inl ⟨7, by decide, hg, by decide +kernel⟩⟩, fun q => absurd q (by decide +kernel)⟩, e3⟩
  · cases e
def c_M_force (F : Nat × Nat) : jc1 := fun args h k => match args with
  | [w0, .int a1] => j_rv w0 fun a0 => if j_k h a0 = 17 then (jbI (m_M_force F a0 a1 h) fun r h => k (some (.int r)) h) else none
  | _ => none
set_option maxRecDepth 100000 in
theorem e_M_force (F : Nat × Nat) (o : Nat) (a1 : Int32) (h : jH) : m_M_force F o a1 h = jrun (j_C [(158, c_M_refuses F), (159, c_M_good F), (230, c_M_isLaw F)]) 0 cd_M_force (j_T []) 27 0 [some (.ref o), some (.int a1), none] [] h := rfl
theorem hc_M_force (F : Nat × Nat) : jCok (2 + 0 * F.2) (j_C [(158, c_M_refuses F), (159, c_M_good F), (230, c_M_isLaw F)]) := jC_ok (List.forall_mem_cons.mpr ⟨(co_M_refuses F).up (by omega), List.forall_mem_cons.mpr ⟨(co_M_good F).up (by omega), List.forall_mem_cons.mpr ⟨(co_M_isLaw F).up (by omega), fun _ h => absurd h List.not_mem_nil⟩⟩⟩)
theorem k_M_force (F : Nat × Nat) (o : Nat) (a1 : Int32) (h : jH) (r : Option Value) (h1 : jH) (e : m_M_force F o a1 h = some (r, h1)) : jM1 (2 + 0 * F.2) 229 [.ref o, .int a1] h r h1 := jM_of (M := M_M_force) mok_M_force (by decide +kernel) (by decide +kernel) (Or.inl ⟨rfl, rfl⟩) (fun q => nomatch q) (jrun_ok ok_M_force (hc_M_force F) (jT_ok (fun _ h => absurd h List.not_mem_nil)) 27 0) (List.all_eq_true.mp rfl) (Nat.le_of_ble_eq_true rfl) (fun E => Nat.le_of_ble_eq_true rfl) ((e_M_force F o a1 h).symm.trans e)
theorem co_M_force (F : Nat × Nat) : jc_ok (2 + 0 * F.2 + 1) 229 (c_M_force F) := by
  intro as h k out e
  unfold c_M_force at e
  split at e
  · obtain ⟨a0, rfl, e1⟩ := js_rv e
    obtain ⟨hg, e2⟩ := js_if e1
    obtain ⟨r, h1, hm, e3⟩ := js_jbI e2
    exact ⟨_, _, _, Nat.le_refl _, k_M_force F _ _ _ _ _ hm, ⟨fun _ => ⟨_, _, rfl, Or.inl ⟨7, by decide, hg, by decide +kernel⟩⟩, fun q => absurd q (by decide +kernel)⟩, e3⟩
  · cases e
def r_M_undo_34 (g : Nat → Int32 → Int32 → jH → Option jO) : jL → List Value → jH → Option jO := fun L S h => match L, S with
  | [some (.ref v0), some (.int v1), some (.int v2)], [] => g v0 v1 v2 h
  | _, _ => none
def c_M_undo (F : Nat × Nat) : jc1 := fun args h k => match args with
  | [w0] => j_rv w0 fun a0 => if j_k h a0 = 17 then (jbI (m_M_undo F a0 h) fun r h => k (some (.int r)) h) else none
  | _ => none
set_option maxRecDepth 100000 in
theorem e_M_undo_34 (F : Nat × Nat) (f : Nat) (v0 : Nat) (v1 : Int32) (v2 : Int32) (h : jH) : m_M_undo_34 F (f + 1) v0 v1 v2 h = jst (j_C [(158, c_M_refuses F), (159, c_M_good F)]) 0 (cd_M_undo 34) [some (.ref v0), some (.int v1), some (.int v2)] [] h (jrun (j_C [(158, c_M_refuses F), (159, c_M_good F)]) 0 cd_M_undo (j_T [(34, r_M_undo_34 (m_M_undo_34 F f))]) 49) := rfl
set_option maxRecDepth 100000 in
theorem e_M_undo (F : Nat × Nat) (o : Nat) (h : jH) : m_M_undo F o h = jrun (j_C [(158, c_M_refuses F), (159, c_M_good F)]) 0 cd_M_undo (j_T [(34, r_M_undo_34 (m_M_undo_34 F F.1))]) 49 0 [some (.ref o), none, none] [] h := rfl
theorem hc_M_undo (F : Nat × Nat) : jCok (1 + 0 * F.2) (j_C [(158, c_M_refuses F), (159, c_M_good F)]) := jC_ok (List.forall_mem_cons.mpr ⟨(co_M_refuses F).up (by omega), List.forall_mem_cons.mpr ⟨(co_M_good F).up (by omega), fun _ h => absurd h List.not_mem_nil⟩⟩)
theorem g_M_undo_34 (F : Nat × Nat) : ∀ f, jG M_M_undo (1 + 0 * F.2) 34 (r_M_undo_34 (m_M_undo_34 F f))
  | 0 => jG.no (fun L S h => by unfold r_M_undo_34; split <;> rfl)
  | f + 1 => (jst_ok ok_M_undo (hc_M_undo F) (jrun_ok ok_M_undo (hc_M_undo F) (jT_ok (List.forall_mem_cons.mpr ⟨g_M_undo_34 F f, fun _ h => absurd h List.not_mem_nil⟩)) 49) 34).of (fun L S h out e => by unfold r_M_undo_34 at e; split at e; exact (e_M_undo_34 F f _ _ _ _).symm.trans e; cases e)
theorem k_M_undo (F : Nat × Nat) (o : Nat) (h : jH) (r : Option Value) (h1 : jH) (e : m_M_undo F o h = some (r, h1)) : jM1 (1 + 0 * F.2) 231 [.ref o] h r h1 := jM_of (M := M_M_undo) mok_M_undo (by decide +kernel) (by decide +kernel) (Or.inl ⟨rfl, rfl⟩) (fun q => nomatch q) (jrun_ok ok_M_undo (hc_M_undo F) (jT_ok (List.forall_mem_cons.mpr ⟨g_M_undo_34 F F.1, fun _ h => absurd h List.not_mem_nil⟩)) 49 0) (List.all_eq_true.mp rfl) (Nat.le_of_ble_eq_true rfl) (fun E => Nat.le_of_ble_eq_true rfl) ((e_M_undo F o h).symm.trans e)
theorem co_M_undo (F : Nat × Nat) : jc_ok (1 + 0 * F.2 + 1) 231 (c_M_undo F) := by
  intro as h k out e
  unfold c_M_undo at e
  split at e
  · obtain ⟨a0, rfl, e1⟩ := js_rv e
    obtain ⟨hg, e2⟩ := js_if e1
    obtain ⟨r, h1, hm, e3⟩ := js_jbI e2
    exact ⟨_, _, _, Nat.le_refl _, k_M_undo F _ _ _ _ hm, ⟨fun _ => ⟨_, _, rfl, Or.inl ⟨7, by decide, hg, by decide +kernel⟩⟩, fun q => absurd q (by decide +kernel)⟩, e3⟩
  · cases e
def c_M_canStep (F : Nat × Nat) : jc1 := fun args h k => match args with
  | [w0, .int a1, .int a2] => j_rv w0 fun a0 => if j_k h a0 = 17 then (jbI (m_M_canStep F a0 a1 a2 h) fun r h => k (some (.int r)) h) else none
  | _ => none
set_option maxRecDepth 100000 in
theorem e_M_canStep (F : Nat × Nat) (o : Nat) (a1 : Int32) (a2 : Int32) (h : jH) : m_M_canStep F o a1 a2 h = jrun (j_C [(169, c_M_spotOf F), (193, c_M_cellAt F), (195, c_M_isBarred F)]) 1 cd_M_canStep (j_T []) 26 0 [some (.ref o), some (.int a1), some (.int a2), none] [] h := rfl
theorem hc_M_canStep (F : Nat × Nat) : jCok (7 + 2 * F.2) (j_C [(169, c_M_spotOf F), (193, c_M_cellAt F), (195, c_M_isBarred F)]) := jC_ok (List.forall_mem_cons.mpr ⟨(co_M_spotOf F).up (by omega), List.forall_mem_cons.mpr ⟨(co_M_cellAt F).up (by omega), List.forall_mem_cons.mpr ⟨(co_M_isBarred F).up (by omega), fun _ h => absurd h List.not_mem_nil⟩⟩⟩)
theorem k_M_canStep (F : Nat × Nat) (o : Nat) (a1 : Int32) (a2 : Int32) (h : jH) (r : Option Value) (h1 : jH) (e : m_M_canStep F o a1 a2 h = some (r, h1)) : jM1 (7 + 2 * F.2) 234 [.ref o, .int a1, .int a2] h r h1 := jM_of (M := M_M_canStep) mok_M_canStep (by decide +kernel) (by decide +kernel) (Or.inr (Or.inl ⟨rfl, rfl⟩)) (fun q => nomatch q) (jrun_ok ok_M_canStep (hc_M_canStep F) (jT_ok (fun _ h => absurd h List.not_mem_nil)) 26 0) (List.all_eq_true.mp rfl) (Nat.le_of_ble_eq_true rfl) (fun E => Nat.le_of_ble_eq_true rfl) ((e_M_canStep F o a1 a2 h).symm.trans e)
theorem co_M_canStep (F : Nat × Nat) : jc_ok (7 + 2 * F.2 + 1) 234 (c_M_canStep F) := by
  intro as h k out e
  unfold c_M_canStep at e
  split at e
  · obtain ⟨a0, rfl, e1⟩ := js_rv e
    obtain ⟨hg, e2⟩ := js_if e1
    obtain ⟨r, h1, hm, e3⟩ := js_jbI e2
    exact ⟨_, _, _, Nat.le_refl _, k_M_canStep F _ _ _ _ _ _ hm, ⟨fun _ => ⟨_, _, rfl, Or.inl ⟨7, by decide, hg, by decide +kernel⟩⟩, fun q => absurd q (by decide +kernel)⟩, e3⟩
  · cases e
def r_M_keeps_54 (g : Nat → Int32 → Int32 → Int32 → jH → Option jO) : jL → List Value → jH → Option jO := fun L S h => match L, S with
  | [some (.ref v0), some (.int v1), some (.int v2), some (.int v3)], [] => g v0 v1 v2 v3 h
  | _, _ => none
def r_M_keeps_14 (g : Nat → Int32 → Int32 → Int32 → jH → Option jO) : jL → List Value → jH → Option jO := fun L S h => match L, S with
  | [some (.ref v0), some (.int v1), some (.int v2), some (.int v3)], [] => g v0 v1 v2 v3 h
  | _, _ => none
def c_M_keeps (F : Nat × Nat) : jc1 := fun args h k => match args with
  | [w0, .int a1] => j_rv w0 fun a0 => if j_k h a0 = 17 then (jbV (m_M_keeps F a0 a1 h) fun h => k none h) else none
  | _ => none
set_option maxRecDepth 100000 in
theorem e_M_keeps_54 (F : Nat × Nat) (f : Nat) (v0 : Nat) (v1 : Int32) (v2 : Int32) (v3 : Int32) (h : jH) : m_M_keeps_54 F (f + 1) v0 v1 v2 v3 h = jst (j_C []) 4 (cd_M_keeps 54) [some (.ref v0), some (.int v1), some (.int v2), some (.int v3)] [] h (jrun (j_C []) 4 cd_M_keeps (j_T [(54, r_M_keeps_54 (m_M_keeps_54 F f))]) 73) := rfl
set_option maxRecDepth 100000 in
theorem e_M_keeps_14 (F : Nat × Nat) (f : Nat) (v0 : Nat) (v1 : Int32) (v2 : Int32) (v3 : Int32) (h : jH) : m_M_keeps_14 F (f + 1) v0 v1 v2 v3 h = jst (j_C []) 4 (cd_M_keeps 14) [some (.ref v0), some (.int v1), some (.int v2), some (.int v3)] [] h (jrun (j_C []) 4 cd_M_keeps (j_T [(14, r_M_keeps_14 (m_M_keeps_14 F f)), (54, r_M_keeps_54 (m_M_keeps_54 F F.1))]) 73) := rfl
set_option maxRecDepth 100000 in
theorem e_M_keeps (F : Nat × Nat) (o : Nat) (a1 : Int32) (h : jH) : m_M_keeps F o a1 h = jrun (j_C []) 4 cd_M_keeps (j_T [(14, r_M_keeps_14 (m_M_keeps_14 F F.1)), (54, r_M_keeps_54 (m_M_keeps_54 F F.1))]) 73 0 [some (.ref o), some (.int a1), none, none] [] h := rfl
theorem hc_M_keeps (F : Nat × Nat) : jCok (0 + 0 * F.2) (j_C []) := jC_ok (fun _ h => absurd h List.not_mem_nil)
theorem g_M_keeps_54 (F : Nat × Nat) : ∀ f, jG M_M_keeps (0 + 0 * F.2) 54 (r_M_keeps_54 (m_M_keeps_54 F f))
  | 0 => jG.no (fun L S h => by unfold r_M_keeps_54; split <;> rfl)
  | f + 1 => (jst_ok ok_M_keeps (hc_M_keeps F) (jrun_ok ok_M_keeps (hc_M_keeps F) (jT_ok (List.forall_mem_cons.mpr ⟨g_M_keeps_54 F f, fun _ h => absurd h List.not_mem_nil⟩)) 73) 54).of (fun L S h out e => by unfold r_M_keeps_54 at e; split at e; exact (e_M_keeps_54 F f _ _ _ _ _).symm.trans e; cases e)
theorem g_M_keeps_14 (F : Nat × Nat) : ∀ f, jG M_M_keeps (0 + 0 * F.2) 14 (r_M_keeps_14 (m_M_keeps_14 F f))
  | 0 => jG.no (fun L S h => by unfold r_M_keeps_14; split <;> rfl)
  | f + 1 => (jst_ok ok_M_keeps (hc_M_keeps F) (jrun_ok ok_M_keeps (hc_M_keeps F) (jT_ok (List.forall_mem_cons.mpr ⟨g_M_keeps_14 F f, List.forall_mem_cons.mpr ⟨g_M_keeps_54 F F.1, fun _ h => absurd h List.not_mem_nil⟩⟩)) 73) 14).of (fun L S h out e => by unfold r_M_keeps_14 at e; split at e; exact (e_M_keeps_14 F f _ _ _ _ _).symm.trans e; cases e)
theorem k_M_keeps (F : Nat × Nat) (o : Nat) (a1 : Int32) (h : jH) (r : Option Value) (h1 : jH) (e : m_M_keeps F o a1 h = some (r, h1)) : jM1 (0 + 0 * F.2) 235 [.ref o, .int a1] h r h1 := jM_of (M := M_M_keeps) mok_M_keeps (by decide +kernel) (by decide +kernel) (Or.inr (Or.inr (Or.inr (Or.inr ⟨rfl, rfl⟩)))) (fun q => nomatch q) (jrun_ok ok_M_keeps (hc_M_keeps F) (jT_ok (List.forall_mem_cons.mpr ⟨g_M_keeps_14 F F.1, List.forall_mem_cons.mpr ⟨g_M_keeps_54 F F.1, fun _ h => absurd h List.not_mem_nil⟩⟩)) 73 0) (List.all_eq_true.mp rfl) (Nat.le_of_ble_eq_true rfl) (fun E => Nat.le_of_ble_eq_true rfl) ((e_M_keeps F o a1 h).symm.trans e)
theorem co_M_keeps (F : Nat × Nat) : jc_ok (0 + 0 * F.2 + 1) 235 (c_M_keeps F) := by
  intro as h k out e
  unfold c_M_keeps at e
  split at e
  · obtain ⟨a0, rfl, e1⟩ := js_rv e
    obtain ⟨hg, e2⟩ := js_if e1
    obtain ⟨h1, hm, e3⟩ := js_jbV e2
    exact ⟨_, _, _, Nat.le_refl _, k_M_keeps F _ _ _ _ _ hm, ⟨fun _ => ⟨_, _, rfl, Or.inl ⟨7, by decide, hg, by decide +kernel⟩⟩, fun q => absurd q (by decide +kernel)⟩, e3⟩
  · cases e
