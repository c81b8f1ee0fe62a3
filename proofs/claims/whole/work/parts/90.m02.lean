def r_P_findTokens_85 (g : Nat → Int32 → Int32 → Int32 → jH → Option jO) : jL → List Value → jH → Option jO := fun L S h => match L, S with
  | [some (.ref v0), some (.int v1), some (.int v2), some (.int v3), _], [] => g v0 v1 v2 v3 h
  | _, _ => none
def r_P_findTokens_32 (g : Nat → Int32 → Int32 → Int32 → jH → Option jO) : jL → List Value → jH → Option jO := fun L S h => match L, S with
  | [some (.ref v0), some (.int v1), some (.int v2), some (.int v3), _], [] => g v0 v1 v2 v3 h
  | _, _ => none
def r_P_findTokens_4 (g : Nat → Int32 → Int32 → jH → Option jO) : jL → List Value → jH → Option jO := fun L S h => match L, S with
  | [some (.ref v0), some (.int v1), some (.int v2), _, _], [] => g v0 v1 v2 h
  | _, _ => none
def c_P_findTokens (F : Nat × Nat) : jc1 := fun args h k => match args with
  | [w0] => j_rv w0 fun a0 => if j_k h a0 = 13 then (jbV (m_P_findTokens F a0 h) fun h => k none h) else none
  | _ => none
set_option maxRecDepth 100000 in
theorem e_P_findTokens_85 (F : Nat × Nat) (k4 : Nat → Int32 → Int32 → jH → Option jO) (f : Nat) (v0 : Nat) (v1 : Int32) (v2 : Int32) (v3 : Int32) (u1 : Option Value) (h : jH) : m_P_findTokens_85 F k4 (f + 1) v0 v1 v2 v3 h = jst (j_C [(50, c_P_isLetter F), (51, c_P_wordCode F), (55, c_P_putToken F), (56, c_P_isDigit F), (57, c_P_numberValue F)]) 4 (cd_P_findTokens 85) [some (.ref v0), some (.int v1), some (.int v2), some (.int v3), u1] [] h (jrun (j_C [(50, c_P_isLetter F), (51, c_P_wordCode F), (55, c_P_putToken F), (56, c_P_isDigit F), (57, c_P_numberValue F)]) 4 cd_P_findTokens (j_T [(4, r_P_findTokens_4 k4), (85, r_P_findTokens_85 (m_P_findTokens_85 F k4 f))]) 95) := rfl
set_option maxRecDepth 100000 in
theorem e_P_findTokens_32 (F : Nat × Nat) (k4 : Nat → Int32 → Int32 → jH → Option jO) (f : Nat) (v0 : Nat) (v1 : Int32) (v2 : Int32) (v3 : Int32) (u1 : Option Value) (h : jH) : m_P_findTokens_32 F k4 (f + 1) v0 v1 v2 v3 h = jst (j_C [(50, c_P_isLetter F), (51, c_P_wordCode F), (55, c_P_putToken F), (56, c_P_isDigit F), (57, c_P_numberValue F)]) 4 (cd_P_findTokens 32) [some (.ref v0), some (.int v1), some (.int v2), some (.int v3), u1] [] h (jrun (j_C [(50, c_P_isLetter F), (51, c_P_wordCode F), (55, c_P_putToken F), (56, c_P_isDigit F), (57, c_P_numberValue F)]) 4 cd_P_findTokens (j_T [(4, r_P_findTokens_4 k4), (32, r_P_findTokens_32 (m_P_findTokens_32 F k4 f))]) 95) := rfl
set_option maxRecDepth 100000 in
theorem e_P_findTokens_4 (F : Nat × Nat) (f : Nat) (v0 : Nat) (v1 : Int32) (v2 : Int32) (u1 : Option Value) (u2 : Option Value) (h : jH) : m_P_findTokens_4 F (f + 1) v0 v1 v2 h = jst (j_C [(50, c_P_isLetter F), (51, c_P_wordCode F), (55, c_P_putToken F), (56, c_P_isDigit F), (57, c_P_numberValue F)]) 4 (cd_P_findTokens 4) [some (.ref v0), some (.int v1), some (.int v2), u1, u2] [] h (jrun (j_C [(50, c_P_isLetter F), (51, c_P_wordCode F), (55, c_P_putToken F), (56, c_P_isDigit F), (57, c_P_numberValue F)]) 4 cd_P_findTokens (j_T [(4, r_P_findTokens_4 (m_P_findTokens_4 F f)), (32, r_P_findTokens_32 (m_P_findTokens_32 F (m_P_findTokens_4 F f) F.1)), (85, r_P_findTokens_85 (m_P_findTokens_85 F (m_P_findTokens_4 F f) F.1))]) 95) := rfl
set_option maxRecDepth 100000 in
theorem e_P_findTokens (F : Nat × Nat) (o : Nat) (h : jH) : m_P_findTokens F o h = jrun (j_C [(50, c_P_isLetter F), (51, c_P_wordCode F), (55, c_P_putToken F), (56, c_P_isDigit F), (57, c_P_numberValue F)]) 4 cd_P_findTokens (j_T [(4, r_P_findTokens_4 (m_P_findTokens_4 F F.1))]) 95 0 [some (.ref o), none, none, none, none] [] h := rfl
theorem hc_P_findTokens (F : Nat × Nat) : jCok (9 + 0 * F.2) (j_C [(50, c_P_isLetter F), (51, c_P_wordCode F), (55, c_P_putToken F), (56, c_P_isDigit F), (57, c_P_numberValue F)]) := jC_ok (List.forall_mem_cons.mpr ⟨(co_P_isLetter F).up (by omega), List.forall_mem_cons.mpr ⟨(co_P_wordCode F).up (by omega), List.forall_mem_cons.mpr ⟨(co_P_putToken F).up (by omega), List.forall_mem_cons.mpr ⟨(co_P_isDigit F).up (by omega), List.forall_mem_cons.mpr ⟨(co_P_numberValue F).up (by omega), fun _ h => absurd h List.not_mem_nil⟩⟩⟩⟩⟩)
theorem g_P_findTokens_85 (F : Nat × Nat) (k4 : Nat → Int32 → Int32 → jH → Option jO) (hk4 : jG M_P_findTokens (9 + 0 * F.2) 4 (r_P_findTokens_4 k4)) : ∀ f, jG M_P_findTokens (9 + 0 * F.2) 85 (r_P_findTokens_85 (m_P_findTokens_85 F k4 f))
  | 0 => jG.no (fun L S h => by unfold r_P_findTokens_85; split <;> rfl)
  | f + 1 => (jst_ok ok_P_findTokens (hc_P_findTokens F) (jrun_ok ok_P_findTokens (hc_P_findTokens F) (jT_ok (List.forall_mem_cons.mpr ⟨hk4, List.forall_mem_cons.mpr ⟨g_P_findTokens_85 F k4 hk4 f, fun _ h => absurd h List.not_mem_nil⟩⟩)) 95) 85).of (fun L S h out e => by unfold r_P_findTokens_85 at e; split at e; exact (e_P_findTokens_85 F k4 f _ _ _ _ _ _).symm.trans e; cases e)
theorem g_P_findTokens_32 (F : Nat × Nat) (k4 : Nat → Int32 → Int32 → jH → Option jO) (hk4 : jG M_P_findTokens (9 + 0 * F.2) 4 (r_P_findTokens_4 k4)) : ∀ f, jG M_P_findTokens (9 + 0 * F.2) 32 (r_P_findTokens_32 (m_P_findTokens_32 F k4 f))
  | 0 => jG.no (fun L S h => by unfold r_P_findTokens_32; split <;> rfl)
  | f + 1 => (jst_ok ok_P_findTokens (hc_P_findTokens F) (jrun_ok ok_P_findTokens (hc_P_findTokens F) (jT_ok (List.forall_mem_cons.mpr ⟨hk4, List.forall_mem_cons.mpr ⟨g_P_findTokens_32 F k4 hk4 f, fun _ h => absurd h List.not_mem_nil⟩⟩)) 95) 32).of (fun L S h out e => by unfold r_P_findTokens_32 at e; split at e; exact (e_P_findTokens_32 F k4 f _ _ _ _ _ _).symm.trans e; cases e)
theorem g_P_findTokens_4 (F : Nat × Nat) : ∀ f, jG M_P_findTokens (9 + 0 * F.2) 4 (r_P_findTokens_4 (m_P_findTokens_4 F f))
  | 0 => jG.no (fun L S h => by unfold r_P_findTokens_4; split <;> rfl)
  | f + 1 => (jst_ok ok_P_findTokens (hc_P_findTokens F) (jrun_ok ok_P_findTokens (hc_P_findTokens F) (jT_ok (List.forall_mem_cons.mpr ⟨g_P_findTokens_4 F f, List.forall_mem_cons.mpr ⟨g_P_findTokens_32 F _ (g_P_findTokens_4 F f) F.1, List.forall_mem_cons.mpr ⟨g_P_findTokens_85 F _ (g_P_findTokens_4 F f) F.1, fun _ h => absurd h List.not_mem_nil⟩⟩⟩)) 95) 4).of (fun L S h out e => by unfold r_P_findTokens_4 at e; split at e; exact (e_P_findTokens_4 F f _ _ _ _ _ _).symm.trans e; cases e)
theorem k_P_findTokens (F : Nat × Nat) (o : Nat) (h : jH) (r : Option Value) (h1 : jH) (e : m_P_findTokens F o h = some (r, h1)) : jM1 (9 + 0 * F.2) 49 [.ref o] h r h1 := jM_of (M := M_P_findTokens) mok_P_findTokens (by decide +kernel) (by decide +kernel) (Or.inr (Or.inr (Or.inr (Or.inr ⟨rfl, rfl⟩)))) (fun q => nomatch q) (jrun_ok ok_P_findTokens (hc_P_findTokens F) (jT_ok (List.forall_mem_cons.mpr ⟨g_P_findTokens_4 F F.1, fun _ h => absurd h List.not_mem_nil⟩)) 95 0) (List.all_eq_true.mp rfl) (Nat.le_of_ble_eq_true rfl) (fun E => Nat.le_of_ble_eq_true rfl) ((e_P_findTokens F o h).symm.trans e)
theorem co_P_findTokens (F : Nat × Nat) : jc_ok (9 + 0 * F.2 + 1) 49 (c_P_findTokens F) := by
  intro as h k out e
  unfold c_P_findTokens at e
  split at e
  · obtain ⟨a0, rfl, e1⟩ := js_rv e
    obtain ⟨hg, e2⟩ := js_if e1
    obtain ⟨h1, hm, e3⟩ := js_jbV e2
    exact ⟨_, _, _, Nat.le_refl _, k_P_findTokens F _ _ _ _ hm, ⟨fun _ => ⟨_, _, rfl, Or.inl ⟨3, by decide, hg, by decide +kernel⟩⟩, fun q => absurd q (by decide +kernel)⟩, e3⟩
  · cases e
def c_P_goTo (F : Nat × Nat) : jc1 := fun args h k => match args with
  | [w0, .int a1] => j_rv w0 fun a0 => if j_k h a0 = 13 then (jbV (m_P_goTo F a0 a1 h) fun h => k none h) else none
  | _ => none
set_option maxRecDepth 100000 in
theorem e_P_goTo (F : Nat × Nat) (o : Nat) (a1 : Int32) (h : jH) : m_P_goTo F o a1 h = jrun (j_C []) 4 cd_P_goTo (j_T []) 26 0 [some (.ref o), some (.int a1)] [] h := rfl
theorem hc_P_goTo (F : Nat × Nat) : jCok (0 + 0 * F.2) (j_C []) := jC_ok (fun _ h => absurd h List.not_mem_nil)
theorem k_P_goTo (F : Nat × Nat) (o : Nat) (a1 : Int32) (h : jH) (r : Option Value) (h1 : jH) (e : m_P_goTo F o a1 h = some (r, h1)) : jM1 (0 + 0 * F.2) 58 [.ref o, .int a1] h r h1 := jM_of (M := M_P_goTo) mok_P_goTo (by decide +kernel) (by decide +kernel) (Or.inr (Or.inr (Or.inr (Or.inr ⟨rfl, rfl⟩)))) (fun q => nomatch q) (jrun_ok ok_P_goTo (hc_P_goTo F) (jT_ok (fun _ h => absurd h List.not_mem_nil)) 26 0) (List.all_eq_true.mp rfl) (Nat.le_of_ble_eq_true rfl) (fun E => Nat.le_of_ble_eq_true rfl) ((e_P_goTo F o a1 h).symm.trans e)
theorem co_P_goTo (F : Nat × Nat) : jc_ok (0 + 0 * F.2 + 1) 58 (c_P_goTo F) := by
  intro as h k out e
  unfold c_P_goTo at e
  split at e
  · obtain ⟨a0, rfl, e1⟩ := js_rv e
    obtain ⟨hg, e2⟩ := js_if e1
    obtain ⟨h1, hm, e3⟩ := js_jbV e2
    exact ⟨_, _, _, Nat.le_refl _, k_P_goTo F _ _ _ _ _ hm, ⟨fun _ => ⟨_, _, rfl, Or.inl ⟨3, by decide, hg, by decide +kernel⟩⟩, fun q => absurd q (by decide +kernel)⟩, e3⟩
  · cases e
def c_P_fails (F : Nat × Nat) : jc1 := fun args h k => match args with
  | [w0] => j_rv w0 fun a0 => if j_k h a0 = 13 then (jbI (m_P_fails F a0 h) fun r h => k (some (.int r)) h) else none
  | _ => none
set_option maxRecDepth 100000 in
theorem e_P_fails (F : Nat × Nat) (o : Nat) (h : jH) : m_P_fails F o h = jrun (j_C []) 1 cd_P_fails (j_T []) 14 0 [some (.ref o)] [] h := rfl
theorem hc_P_fails (F : Nat × Nat) : jCok (0 + 0 * F.2) (j_C []) := jC_ok (fun _ h => absurd h List.not_mem_nil)
theorem k_P_fails (F : Nat × Nat) (o : Nat) (h : jH) (r : Option Value) (h1 : jH) (e : m_P_fails F o h = some (r, h1)) : jM1 (0 + 0 * F.2) 60 [.ref o] h r h1 := jM_of (M := M_P_fails) mok_P_fails (by decide +kernel) (by decide +kernel) (Or.inr (Or.inl ⟨rfl, rfl⟩)) (fun q => nomatch q) (jrun_ok ok_P_fails (hc_P_fails F) (jT_ok (fun _ h => absurd h List.not_mem_nil)) 14 0) (List.all_eq_true.mp rfl) (Nat.le_of_ble_eq_true rfl) (fun E => Nat.le_of_ble_eq_true rfl) ((e_P_fails F o h).symm.trans e)
theorem co_P_fails (F : Nat × Nat) : jc_ok (0 + 0 * F.2 + 1) 60 (c_P_fails F) := by
  intro as h k out e
  unfold c_P_fails at e
  split at e
  · obtain ⟨a0, rfl, e1⟩ := js_rv e
    obtain ⟨hg, e2⟩ := js_if e1
    obtain ⟨r, h1, hm, e3⟩ := js_jbI e2
    exact ⟨_, _, _, Nat.le_refl _, k_P_fails F _ _ _ _ hm, ⟨fun _ => ⟨_, _, rfl, Or.inl ⟨3, by decide, hg, by decide +kernel⟩⟩, fun q => absurd q (by decide +kernel)⟩, e3⟩
  · cases e
def c_P_startClause (F : Nat × Nat) : jc1 := fun args h k => match args with
  | [w0, .int a1] => j_rv w0 fun a0 => if j_k h a0 = 13 then (jbV (m_P_startClause F a0 a1 h) fun h => k none h) else none
  | _ => none
set_option maxRecDepth 100000 in
theorem e_P_startClause (F : Nat × Nat) (o : Nat) (a1 : Int32) (h : jH) : m_P_startClause F o a1 h = jrun (j_C [(58, c_P_goTo F)]) 4 cd_P_startClause (j_T []) 43 0 [some (.ref o), some (.int a1)] [] h := rfl
theorem hc_P_startClause (F : Nat × Nat) : jCok (1 + 0 * F.2) (j_C [(58, c_P_goTo F)]) := jC_ok (List.forall_mem_cons.mpr ⟨(co_P_goTo F).up (by omega), fun _ h => absurd h List.not_mem_nil⟩)
theorem k_P_startClause (F : Nat × Nat) (o : Nat) (a1 : Int32) (h : jH) (r : Option Value) (h1 : jH) (e : m_P_startClause F o a1 h = some (r, h1)) : jM1 (1 + 0 * F.2) 61 [.ref o, .int a1] h r h1 := jM_of (M := M_P_startClause) mok_P_startClause (by decide +kernel) (by decide +kernel) (Or.inr (Or.inr (Or.inr (Or.inr ⟨rfl, rfl⟩)))) (fun q => nomatch q) (jrun_ok ok_P_startClause (hc_P_startClause F) (jT_ok (fun _ h => absurd h List.not_mem_nil)) 43 0) (List.all_eq_true.mp rfl) (Nat.le_of_ble_eq_true rfl) (fun E => Nat.le_of_ble_eq_true rfl) ((e_P_startClause F o a1 h).symm.trans e)
theorem co_P_startClause (F : Nat × Nat) : jc_ok (1 + 0 * F.2 + 1) 61 (c_P_startClause F) := by
  intro as h k out e
  unfold c_P_startClause at e
  split at e
  · obtain ⟨a0, rfl, e1⟩ := js_rv e
    obtain ⟨hg, e2⟩ := js_if e1
    obtain ⟨h1, hm, e3⟩ := js_jbV e2
    exact ⟨_, _, _, Nat.le_refl _, k_P_startClause F _ _ _ _ _ hm, ⟨fun _ => ⟨_, _, rfl, Or.inl ⟨3, by decide, hg, by decide +kernel⟩⟩, fun q => absurd q (by decide +kernel)⟩, e3⟩
  · cases e
def c_P_wordBetween (F : Nat × Nat) : jc1 := fun args h k => match args with
  | [.int a0] => jbI (m_P_wordBetween F a0 h) fun r h => k (some (.int r)) h
  | _ => none
set_option maxRecDepth 100000 in
theorem e_P_wordBetween (F : Nat × Nat) (a0 : Int32) (h : jH) : m_P_wordBetween F a0 h = jrun (j_C []) 0 cd_P_wordBetween (j_T []) 15 0 [some (.int a0)] [] h := rfl
theorem hc_P_wordBetween (F : Nat × Nat) : jCok (0 + 0 * F.2) (j_C []) := jC_ok (fun _ h => absurd h List.not_mem_nil)
theorem k_P_wordBetween (F : Nat × Nat) (a0 : Int32) (h : jH) (r : Option Value) (h1 : jH) (e : m_P_wordBetween F a0 h = some (r, h1)) : jM1 (0 + 0 * F.2) 62 [.int a0] h r h1 := jM_of (M := M_P_wordBetween) mok_P_wordBetween (by decide +kernel) (by decide +kernel) (Or.inl ⟨rfl, rfl⟩) (fun q => nomatch q) (jrun_ok ok_P_wordBetween (hc_P_wordBetween F) (jT_ok (fun _ h => absurd h List.not_mem_nil)) 15 0) (List.all_eq_true.mp rfl) (Nat.le_of_ble_eq_true rfl) (fun E => Nat.le_of_ble_eq_true rfl) ((e_P_wordBetween F a0 h).symm.trans e)
theorem co_P_wordBetween (F : Nat × Nat) : jc_ok (0 + 0 * F.2 + 1) 62 (c_P_wordBetween F) := by
  intro as h k out e
  unfold c_P_wordBetween at e
  split at e
  · obtain ⟨r, h1, hm, e1⟩ := js_jbI e
    exact ⟨_, _, _, Nat.le_refl _, k_P_wordBetween F _ _ _ _ hm, ⟨fun q => absurd q (by decide +kernel), fun q => absurd q (by decide +kernel)⟩, e1⟩
  · cases e
def c_P_emit (F : Nat × Nat) : jc1 := fun args h k => match args with
  | [w0, .int a1, .int a2] => j_rv w0 fun a0 => if j_k h a0 = 13 then (jbI (m_P_emit F a0 a1 a2 h) fun r h => k (some (.int r)) h) else none
  | _ => none
set_option maxRecDepth 100000 in
theorem e_P_emit (F : Nat × Nat) (o : Nat) (a1 : Int32) (a2 : Int32) (h : jH) : m_P_emit F o a1 a2 h = jrun (j_C []) 0 cd_P_emit (j_T []) 37 0 [some (.ref o), some (.int a1), some (.int a2)] [] h := rfl
theorem hc_P_emit (F : Nat × Nat) : jCok (0 + 0 * F.2) (j_C []) := jC_ok (fun _ h => absurd h List.not_mem_nil)
theorem k_P_emit (F : Nat × Nat) (o : Nat) (a1 : Int32) (a2 : Int32) (h : jH) (r : Option Value) (h1 : jH) (e : m_P_emit F o a1 a2 h = some (r, h1)) : jM1 (0 + 0 * F.2) 65 [.ref o, .int a1, .int a2] h r h1 := jM_of (M := M_P_emit) mok_P_emit (by decide +kernel) (by decide +kernel) (Or.inl ⟨rfl, rfl⟩) (fun q => nomatch q) (jrun_ok ok_P_emit (hc_P_emit F) (jT_ok (fun _ h => absurd h List.not_mem_nil)) 37 0) (List.all_eq_true.mp rfl) (Nat.le_of_ble_eq_true rfl) (fun E => Nat.le_of_ble_eq_true rfl) ((e_P_emit F o a1 a2 h).symm.trans e)
theorem co_P_emit (F : Nat × Nat) : jc_ok (0 + 0 * F.2 + 1) 65 (c_P_emit F) := by
  intro as h k out e
  unfold c_P_emit at e
  split at e
  · obtain ⟨a0, rfl, e1⟩ := js_rv e
    obtain ⟨hg, e2⟩ := js_if e1
    obtain ⟨r, h1, hm, e3⟩ := js_jbI e2
    exact ⟨_, _, _, Nat.le_refl _, k_P_emit F _ _ _ _ _ _ hm, ⟨fun _ => ⟨_, _, rfl, Or.inl ⟨3, by decide, hg, by decide +kernel⟩⟩, fun q => absurd q (by decide +kernel)⟩, e3⟩
  · cases e
def c_P_orderSlot (F : Nat × Nat) : jc1 := fun args h k => match args with
  | [.int a0] => jbI (m_P_orderSlot F a0 h) fun r h => k (some (.int r)) h
  | _ => none
set_option maxRecDepth 100000 in
theorem e_P_orderSlot (F : Nat × Nat) (a0 : Int32) (h : jH) : m_P_orderSlot F a0 h = jrun (j_C []) 0 cd_P_orderSlot (j_T []) 21 0 [some (.int a0)] [] h := rfl
theorem hc_P_orderSlot (F : Nat × Nat) : jCok (0 + 0 * F.2) (j_C []) := jC_ok (fun _ h => absurd h List.not_mem_nil)
theorem k_P_orderSlot (F : Nat × Nat) (a0 : Int32) (h : jH) (r : Option Value) (h1 : jH) (e : m_P_orderSlot F a0 h = some (r, h1)) : jM1 (0 + 0 * F.2) 66 [.int a0] h r h1 := jM_of (M := M_P_orderSlot) mok_P_orderSlot (by decide +kernel) (by decide +kernel) (Or.inl ⟨rfl, rfl⟩) (fun q => nomatch q) (jrun_ok ok_P_orderSlot (hc_P_orderSlot F) (jT_ok (fun _ h => absurd h List.not_mem_nil)) 21 0) (List.all_eq_true.mp rfl) (Nat.le_of_ble_eq_true rfl) (fun E => Nat.le_of_ble_eq_true rfl) ((e_P_orderSlot F a0 h).symm.trans e)
theorem co_P_orderSlot (F : Nat × Nat) : jc_ok (0 + 0 * F.2 + 1) 66 (c_P_orderSlot F) := by
  intro as h k out e
  unfold c_P_orderSlot at e
  split at e
  · obtain ⟨r, h1, hm, e1⟩ := js_jbI e
    exact ⟨_, _, _, Nat.le_refl _, k_P_orderSlot F _ _ _ _ hm, ⟨fun q => absurd q (by decide +kernel), fun q => absurd q (by decide +kernel)⟩, e1⟩
  · cases e
def c_P_lawSlot (F : Nat × Nat) : jc1 := fun args h k => match args with
  | [.int a0] => jbI (m_P_lawSlot F a0 h) fun r h => k (some (.int r)) h
  | _ => none
set_option maxRecDepth 100000 in
theorem e_P_lawSlot (F : Nat × Nat) (a0 : Int32) (h : jH) : m_P_lawSlot F a0 h = jrun (j_C []) 0 cd_P_lawSlot (j_T []) 17 0 [some (.int a0)] [] h := rfl
theorem hc_P_lawSlot (F : Nat × Nat) : jCok (0 + 0 * F.2) (j_C []) := jC_ok (fun _ h => absurd h List.not_mem_nil)
theorem k_P_lawSlot (F : Nat × Nat) (a0 : Int32) (h : jH) (r : Option Value) (h1 : jH) (e : m_P_lawSlot F a0 h = some (r, h1)) : jM1 (0 + 0 * F.2) 67 [.int a0] h r h1 := jM_of (M := M_P_lawSlot) mok_P_lawSlot (by decide +kernel) (by decide +kernel) (Or.inl ⟨rfl, rfl⟩) (fun q => nomatch q) (jrun_ok ok_P_lawSlot (hc_P_lawSlot F) (jT_ok (fun _ h => absurd h List.not_mem_nil)) 17 0) (List.all_eq_true.mp rfl) (Nat.le_of_ble_eq_true rfl) (fun E => Nat.le_of_ble_eq_true rfl) ((e_P_lawSlot F a0 h).symm.trans e)
theorem co_P_lawSlot (F : Nat × Nat) : jc_ok (0 + 0 * F.2 + 1) 67 (c_P_lawSlot F) := by
  intro as h k out e
  unfold c_P_lawSlot at e
  split at e
  · obtain ⟨r, h1, hm, e1⟩ := js_jbI e
    exact ⟨_, _, _, Nat.le_refl _, k_P_lawSlot F _ _ _ _ hm, ⟨fun q => absurd q (by decide +kernel), fun q => absurd q (by decide +kernel)⟩, e1⟩
  · cases e
def c_P_mostBehind (F : Nat × Nat) : jc1 := fun args h k => match args with
  | [.int a0] => jbI (m_P_mostBehind F a0 h) fun r h => k (some (.int r)) h
  | _ => none
set_option maxRecDepth 100000 in
theorem e_P_mostBehind (F : Nat × Nat) (a0 : Int32) (h : jH) : m_P_mostBehind F a0 h = jrun (j_C []) 0 cd_P_mostBehind (j_T []) 13 0 [some (.int a0)] [] h := rfl
theorem hc_P_mostBehind (F : Nat × Nat) : jCok (0 + 0 * F.2) (j_C []) := jC_ok (fun _ h => absurd h List.not_mem_nil)
theorem k_P_mostBehind (F : Nat × Nat) (a0 : Int32) (h : jH) (r : Option Value) (h1 : jH) (e : m_P_mostBehind F a0 h = some (r, h1)) : jM1 (0 + 0 * F.2) 68 [.int a0] h r h1 := jM_of (M := M_P_mostBehind) mok_P_mostBehind (by decide +kernel) (by decide +kernel) (Or.inl ⟨rfl, rfl⟩) (fun q => nomatch q) (jrun_ok ok_P_mostBehind (hc_P_mostBehind F) (jT_ok (fun _ h => absurd h List.not_mem_nil)) 13 0) (List.all_eq_true.mp rfl) (Nat.le_of_ble_eq_true rfl) (fun E => Nat.le_of_ble_eq_true rfl) ((e_P_mostBehind F a0 h).symm.trans e)
theorem co_P_mostBehind (F : Nat × Nat) : jc_ok (0 + 0 * F.2 + 1) 68 (c_P_mostBehind F) := by
  intro as h k out e
  unfold c_P_mostBehind at e
  split at e
  · obtain ⟨r, h1, hm, e1⟩ := js_jbI e
    exact ⟨_, _, _, Nat.le_refl _, k_P_mostBehind F _ _ _ _ hm, ⟨fun q => absurd q (by decide +kernel), fun q => absurd q (by decide +kernel)⟩, e1⟩
  · cases e
def c_P_emitIfAny (F : Nat × Nat) : jc1 := fun args h k => match args with
  | [w0, .int a1] => j_rv w0 fun a0 => if j_k h a0 = 13 then (jbV (m_P_emitIfAny F a0 a1 h) fun h => k none h) else none
  | _ => none
set_option maxRecDepth 100000 in
theorem e_P_emitIfAny (F : Nat × Nat) (o : Nat) (a1 : Int32) (h : jH) : m_P_emitIfAny F o a1 h = jrun (j_C [(65, c_P_emit F)]) 4 cd_P_emitIfAny (j_T []) 14 0 [some (.ref o), some (.int a1)] [] h := rfl
theorem hc_P_emitIfAny (F : Nat × Nat) : jCok (1 + 0 * F.2) (j_C [(65, c_P_emit F)]) := jC_ok (List.forall_mem_cons.mpr ⟨(co_P_emit F).up (by omega), fun _ h => absurd h List.not_mem_nil⟩)
theorem k_P_emitIfAny (F : Nat × Nat) (o : Nat) (a1 : Int32) (h : jH) (r : Option Value) (h1 : jH) (e : m_P_emitIfAny F o a1 h = some (r, h1)) : jM1 (1 + 0 * F.2) 69 [.ref o, .int a1] h r h1 := jM_of (M := M_P_emitIfAny) mok_P_emitIfAny (by decide +kernel) (by decide +kernel) (Or.inr (Or.inr (Or.inr (Or.inr ⟨rfl, rfl⟩)))) (fun q => nomatch q) (jrun_ok ok_P_emitIfAny (hc_P_emitIfAny F) (jT_ok (fun _ h => absurd h List.not_mem_nil)) 14 0) (List.all_eq_true.mp rfl) (Nat.le_of_ble_eq_true rfl) (fun E => Nat.le_of_ble_eq_true rfl) ((e_P_emitIfAny F o a1 h).symm.trans e)
theorem co_P_emitIfAny (F : Nat × Nat) : jc_ok (1 + 0 * F.2 + 1) 69 (c_P_emitIfAny F) := by
  intro as h k out e
  unfold c_P_emitIfAny at e
  split at e
  · obtain ⟨a0, rfl, e1⟩ := js_rv e
    obtain ⟨hg, e2⟩ := js_if e1
    obtain ⟨h1, hm, e3⟩ := js_jbV e2
    exact ⟨_, _, _, Nat.le_refl _, k_P_emitIfAny F _ _ _ _ _ hm, ⟨fun _ => ⟨_, _, rfl, Or.inl ⟨3, by decide, hg, by decide +kernel⟩⟩, fun q => absurd q (by decide +kernel)⟩, e3⟩
  · cases e
def c_P_timingOp (F : Nat × Nat) : jc1 := fun args h k => match args with
  | [.int a0] => jbI (m_P_timingOp F a0 h) fun r h => k (some (.int r)) h
  | _ => none
set_option maxRecDepth 100000 in
theorem e_P_timingOp (F : Nat × Nat) (a0 : Int32) (h : jH) : m_P_timingOp F a0 h = jrun (j_C []) 0 cd_P_timingOp (j_T []) 15 0 [some (.int a0)] [] h := rfl
theorem hc_P_timingOp (F : Nat × Nat) : jCok (0 + 0 * F.2) (j_C []) := jC_ok (fun _ h => absurd h List.not_mem_nil)
theorem k_P_timingOp (F : Nat × Nat) (a0 : Int32) (h : jH) (r : Option Value) (h1 : jH) (e : m_P_timingOp F a0 h = some (r, h1)) : jM1 (0 + 0 * F.2) 70 [.int a0] h r h1 := jM_of (M := M_P_timingOp) mok_P_timingOp (by decide +kernel) (by decide +kernel) (Or.inl ⟨rfl, rfl⟩) (fun q => nomatch q) (jrun_ok ok_P_timingOp (hc_P_timingOp F) (jT_ok (fun _ h => absurd h List.not_mem_nil)) 15 0) (List.all_eq_true.mp rfl) (Nat.le_of_ble_eq_true rfl) (fun E => Nat.le_of_ble_eq_true rfl) ((e_P_timingOp F a0 h).symm.trans e)
theorem co_P_timingOp (F : Nat × Nat) : jc_ok (0 + 0 * F.2 + 1) 70 (c_P_timingOp F) := by
  intro as h k out e
  unfold c_P_timingOp at e
  split at e
  · obtain ⟨r, h1, hm, e1⟩ := js_jbI e
    exact ⟨_, _, _, Nat.le_refl _, k_P_timingOp F _ _ _ _ hm, ⟨fun q => absurd q (by decide +kernel), fun q => absurd q (by decide +kernel)⟩, e1⟩
  · cases e
def c_P_addingOp (F : Nat × Nat) : jc1 := fun args h k => match args with
  | [.int a0] => jbI (m_P_addingOp F a0 h) fun r h => k (some (.int r)) h
  | _ => none
set_option maxRecDepth 100000 in
theorem e_P_addingOp (F : Nat × Nat) (a0 : Int32) (h : jH) : m_P_addingOp F a0 h = jrun (j_C []) 0 cd_P_addingOp (j_T []) 13 0 [some (.int a0)] [] h := rfl
theorem hc_P_addingOp (F : Nat × Nat) : jCok (0 + 0 * F.2) (j_C []) := jC_ok (fun _ h => absurd h List.not_mem_nil)
theorem k_P_addingOp (F : Nat × Nat) (a0 : Int32) (h : jH) (r : Option Value) (h1 : jH) (e : m_P_addingOp F a0 h = some (r, h1)) : jM1 (0 + 0 * F.2) 71 [.int a0] h r h1 := jM_of (M := M_P_addingOp) mok_P_addingOp (by decide +kernel) (by decide +kernel) (Or.inl ⟨rfl, rfl⟩) (fun q => nomatch q) (jrun_ok ok_P_addingOp (hc_P_addingOp F) (jT_ok (fun _ h => absurd h List.not_mem_nil)) 13 0) (List.all_eq_true.mp rfl) (Nat.le_of_ble_eq_true rfl) (fun E => Nat.le_of_ble_eq_true rfl) ((e_P_addingOp F a0 h).symm.trans e)
theorem co_P_addingOp (F : Nat × Nat) : jc_ok (0 + 0 * F.2 + 1) 71 (c_P_addingOp F) := by
  intro as h k out e
  unfold c_P_addingOp at e
  split at e
  · obtain ⟨r, h1, hm, e1⟩ := js_jbI e
    exact ⟨_, _, _, Nat.le_refl _, k_P_addingOp F _ _ _ _ hm, ⟨fun q => absurd q (by decide +kernel), fun q => absurd q (by decide +kernel)⟩, e1⟩
  · cases e
def r_P_readsPart_192 (g : Nat → Int32 → Int32 → jH → Option jO) : jL → List Value → jH → Option jO := fun L S h => match L, S with
  | [some (.ref v0), _, some (.int v2), _], [.int s0] => g v0 v2 s0 h
  | _, _ => none
def r_P_readsSum_7 (g : Nat → Int32 → Int32 → Int32 → Int32 → jH → Option jO) : jL → List Value → jH → Option jO := fun L S h => match L, S with
  | [some (.ref v0), some (.int v1), some (.int v2), some (.int v3), some (.int v4)], [] => g v0 v1 v2 v3 v4 h
  | _, _ => none
def c_P_readsPart_rc (rc : Nat → List Value → jH → Option jO) : jc1 := fun args h k => match args with
  | [w0, .int a1] => j_rv w0 fun a0 => if j_k h a0 = 13 then (jbI (rc 64 [.ref a0, .int a1] h) fun r h => k (some (.int r)) h) else none
  | _ => none
def c_P_readsSum_rc (rc : Nat → List Value → jH → Option jO) : jc1 := fun args h k => match args with
  | [w0, .int a1] => j_rv w0 fun a0 => if j_k h a0 = 13 then (jbI (rc 63 [.ref a0, .int a1] h) fun r h => k (some (.int r)) h) else none
  | _ => none
def c_P_readsPart (F : Nat × Nat) : jc1 := fun args h k => match args with
  | [w0, .int a1] => j_rv w0 fun a0 => if j_k h a0 = 13 then (jbI (m_P_readsPart F a0 a1 h) fun r h => k (some (.int r)) h) else none
  | _ => none
def c_P_readsSum (F : Nat × Nat) : jc1 := fun args h k => match args with
  | [w0, .int a1] => j_rv w0 fun a0 => if j_k h a0 = 13 then (jbI (m_P_readsSum F a0 a1 h) fun r h => k (some (.int r)) h) else none
  | _ => none
set_option maxRecDepth 100000 in
theorem e_P_readsPart_192 (F : Nat × Nat) (rc : Nat → List Value → jH → Option jO) (v0 : Nat) (v2 : Int32) (s0 : Int32) (u1 : Option Value) (u2 : Option Value) (h : jH) : m_P_readsPart_192 F rc v0 v2 s0 h = jst (j_C [(58, c_P_goTo F), (60, c_P_fails F), (63, c_P_readsSum_rc rc), (65, c_P_emit F), (66, c_P_orderSlot F), (67, c_P_lawSlot F), (68, c_P_mostBehind F)]) 1 (cd_P_readsPart 192) [some (.ref v0), u1, some (.int v2), u2] [.int s0] h (jrun (j_C [(58, c_P_goTo F), (60, c_P_fails F), (63, c_P_readsSum_rc rc), (65, c_P_emit F), (66, c_P_orderSlot F), (67, c_P_lawSlot F), (68, c_P_mostBehind F)]) 1 cd_P_readsPart (j_T []) 146) := rfl
set_option maxRecDepth 100000 in
theorem e_P_readsPart (F : Nat × Nat) (rc : Nat → List Value → jH → Option jO) (o : Nat) (a1 : Int32) (h : jH) : m_P_readsPart_r F rc o a1 h = jrun (j_C [(58, c_P_goTo F), (60, c_P_fails F), (63, c_P_readsSum_rc rc), (65, c_P_emit F), (66, c_P_orderSlot F), (67, c_P_lawSlot F), (68, c_P_mostBehind F)]) 1 cd_P_readsPart (j_T [(192, r_P_readsPart_192 (m_P_readsPart_192 F rc))]) 146 0 [some (.ref o), some (.int a1), none, none] [] h := rfl
set_option maxRecDepth 100000 in
theorem e_P_readsSum_7 (F : Nat × Nat) (rc : Nat → List Value → jH → Option jO) (f : Nat) (v0 : Nat) (v1 : Int32) (v2 : Int32) (v3 : Int32) (v4 : Int32) (h : jH) : m_P_readsSum_7 F rc (f + 1) v0 v1 v2 v3 v4 h = jst (j_C [(58, c_P_goTo F), (60, c_P_fails F), (64, c_P_readsPart_rc rc), (69, c_P_emitIfAny F), (70, c_P_timingOp F), (71, c_P_addingOp F)]) 1 (cd_P_readsSum 7) [some (.ref v0), some (.int v1), some (.int v2), some (.int v3), some (.int v4)] [] h (jrun (j_C [(58, c_P_goTo F), (60, c_P_fails F), (64, c_P_readsPart_rc rc), (69, c_P_emitIfAny F), (70, c_P_timingOp F), (71, c_P_addingOp F)]) 1 cd_P_readsSum (j_T [(7, r_P_readsSum_7 (m_P_readsSum_7 F rc f))]) 53) := rfl
set_option maxRecDepth 100000 in
theorem e_P_readsSum (F : Nat × Nat) (rc : Nat → List Value → jH → Option jO) (o : Nat) (a1 : Int32) (h : jH) : m_P_readsSum_r F rc o a1 h = jrun (j_C [(58, c_P_goTo F), (60, c_P_fails F), (64, c_P_readsPart_rc rc), (69, c_P_emitIfAny F), (70, c_P_timingOp F), (71, c_P_addingOp F)]) 1 cd_P_readsSum (j_T [(7, r_P_readsSum_7 (m_P_readsSum_7 F rc F.1))]) 53 0 [some (.ref o), some (.int a1), none, none, none] [] h := rfl
theorem hc_P_readsPart (F : Nat × Nat) (rc : Nat → List Value → jH → Option jO) {D : Nat} (hD : 2 + 0 * F.2 ≤ D) (q_P_readsPart : jc_ok D 64 (c_P_readsPart_rc rc)) (q_P_readsSum : jc_ok D 63 (c_P_readsSum_rc rc)) : jCok D (j_C [(58, c_P_goTo F), (60, c_P_fails F), (63, c_P_readsSum_rc rc), (65, c_P_emit F), (66, c_P_orderSlot F), (67, c_P_lawSlot F), (68, c_P_mostBehind F)]) := jC_ok (List.forall_mem_cons.mpr ⟨(co_P_goTo F).up (by omega), List.forall_mem_cons.mpr ⟨(co_P_fails F).up (by omega), List.forall_mem_cons.mpr ⟨q_P_readsSum, List.forall_mem_cons.mpr ⟨(co_P_emit F).up (by omega), List.forall_mem_cons.mpr ⟨(co_P_orderSlot F).up (by omega), List.forall_mem_cons.mpr ⟨(co_P_lawSlot F).up (by omega), List.forall_mem_cons.mpr ⟨(co_P_mostBehind F).up (by omega), fun _ h => absurd h List.not_mem_nil⟩⟩⟩⟩⟩⟩⟩)
theorem g_P_readsPart_192 (F : Nat × Nat) (rc : Nat → List Value → jH → Option jO) {D : Nat} (hD : 2 + 0 * F.2 ≤ D) (q_P_readsPart : jc_ok D 64 (c_P_readsPart_rc rc)) (q_P_readsSum : jc_ok D 63 (c_P_readsSum_rc rc)) : jG M_P_readsPart D 192 (r_P_readsPart_192 (m_P_readsPart_192 F rc)) := (jst_ok ok_P_readsPart (hc_P_readsPart F rc hD q_P_readsPart q_P_readsSum) (jrun_ok ok_P_readsPart (hc_P_readsPart F rc hD q_P_readsPart q_P_readsSum) (jT_ok (fun _ h => absurd h List.not_mem_nil)) 146) 192).of (fun L S h out e => by unfold r_P_readsPart_192 at e; split at e; exact (e_P_readsPart_192 F rc _ _ _ _ _ _).symm.trans e; cases e)
theorem kr_P_readsPart (F : Nat × Nat) (rc : Nat → List Value → jH → Option jO) {D : Nat} (hD : 2 + 0 * F.2 ≤ D) (q_P_readsPart : jc_ok D 64 (c_P_readsPart_rc rc)) (q_P_readsSum : jc_ok D 63 (c_P_readsSum_rc rc)) (o : Nat) (a1 : Int32) (h : jH) (r : Option Value) (h1 : jH) (e : m_P_readsPart_r F rc o a1 h = some (r, h1)) : jM1 D 64 [.ref o, .int a1] h r h1 := jM_of (M := M_P_readsPart) mok_P_readsPart (by decide +kernel) (by decide +kernel) (Or.inr (Or.inl ⟨rfl, rfl⟩)) (fun q => nomatch q) (jrun_ok ok_P_readsPart (hc_P_readsPart F rc hD q_P_readsPart q_P_readsSum) (jT_ok (List.forall_mem_cons.mpr ⟨g_P_readsPart_192 F rc hD q_P_readsPart q_P_readsSum, fun _ h => absurd h List.not_mem_nil⟩)) 146 0) (List.all_eq_true.mp rfl) (Nat.le_of_ble_eq_true rfl) (fun E => Nat.le_of_ble_eq_true rfl) ((e_P_readsPart F rc o a1 h).symm.trans e)
theorem hc_P_readsSum (F : Nat × Nat) (rc : Nat → List Value → jH → Option jO) {D : Nat} (hD : 2 + 0 * F.2 ≤ D) (q_P_readsPart : jc_ok D 64 (c_P_readsPart_rc rc)) (q_P_readsSum : jc_ok D 63 (c_P_readsSum_rc rc)) : jCok D (j_C [(58, c_P_goTo F), (60, c_P_fails F), (64, c_P_readsPart_rc rc), (69, c_P_emitIfAny F), (70, c_P_timingOp F), (71, c_P_addingOp F)]) := jC_ok (List.forall_mem_cons.mpr ⟨(co_P_goTo F).up (by omega), List.forall_mem_cons.mpr ⟨(co_P_fails F).up (by omega), List.forall_mem_cons.mpr ⟨q_P_readsPart, List.forall_mem_cons.mpr ⟨(co_P_emitIfAny F).up (by omega), List.forall_mem_cons.mpr ⟨(co_P_timingOp F).up (by omega), List.forall_mem_cons.mpr ⟨(co_P_addingOp F).up (by omega), fun _ h => absurd h List.not_mem_nil⟩⟩⟩⟩⟩⟩)
theorem g_P_readsSum_7 (F : Nat × Nat) (rc : Nat → List Value → jH → Option jO) {D : Nat} (hD : 2 + 0 * F.2 ≤ D) (q_P_readsPart : jc_ok D 64 (c_P_readsPart_rc rc)) (q_P_readsSum : jc_ok D 63 (c_P_readsSum_rc rc)) : ∀ f, jG M_P_readsSum D 7 (r_P_readsSum_7 (m_P_readsSum_7 F rc f))
  | 0 => jG.no (fun L S h => by unfold r_P_readsSum_7; split <;> rfl)
  | f + 1 => (jst_ok ok_P_readsSum (hc_P_readsSum F rc hD q_P_readsPart q_P_readsSum) (jrun_ok ok_P_readsSum (hc_P_readsSum F rc hD q_P_readsPart q_P_readsSum) (jT_ok (List.forall_mem_cons.mpr ⟨g_P_readsSum_7 F rc hD q_P_readsPart q_P_readsSum f, fun _ h => absurd h List.not_mem_nil⟩)) 53) 7).of (fun L S h out e => by unfold r_P_readsSum_7 at e; split at e; exact (e_P_readsSum_7 F rc f _ _ _ _ _ _).symm.trans e; cases e)
theorem kr_P_readsSum (F : Nat × Nat) (rc : Nat → List Value → jH → Option jO) {D : Nat} (hD : 2 + 0 * F.2 ≤ D) (q_P_readsPart : jc_ok D 64 (c_P_readsPart_rc rc)) (q_P_readsSum : jc_ok D 63 (c_P_readsSum_rc rc)) (o : Nat) (a1 : Int32) (h : jH) (r : Option Value) (h1 : jH) (e : m_P_readsSum_r F rc o a1 h = some (r, h1)) : jM1 D 63 [.ref o, .int a1] h r h1 := jM_of (M := M_P_readsSum) mok_P_readsSum (by decide +kernel) (by decide +kernel) (Or.inr (Or.inl ⟨rfl, rfl⟩)) (fun q => nomatch q) (jrun_ok ok_P_readsSum (hc_P_readsSum F rc hD q_P_readsPart q_P_readsSum) (jT_ok (List.forall_mem_cons.mpr ⟨g_P_readsSum_7 F rc hD q_P_readsPart q_P_readsSum F.1, fun _ h => absurd h List.not_mem_nil⟩)) 53 0) (List.all_eq_true.mp rfl) (Nat.le_of_ble_eq_true rfl) (fun E => Nat.le_of_ble_eq_true rfl) ((e_P_readsSum F rc o a1 h).symm.trans e)
theorem co_P_readsPart_rc {d : Nat} (rc : Nat → List Value → jH → Option jO) (hrc : ∀ c as h r h1, rc c as h = some (r, h1) → jM1 d c as h r h1) : jc_ok (d + 1) 64 (c_P_readsPart_rc rc) := by
  intro as h k out e
  unfold c_P_readsPart_rc at e
  split at e
  · obtain ⟨a0, rfl, e1⟩ := js_rv e
    obtain ⟨hg, e2⟩ := js_if e1
    obtain ⟨r, h1, hm, e3⟩ := js_jbI e2
    exact ⟨_, _, _, Nat.le_refl _, hrc _ _ _ _ _ hm, ⟨fun _ => ⟨_, _, rfl, Or.inl ⟨3, by decide, hg, by decide +kernel⟩⟩, fun q => absurd q (by decide +kernel)⟩, e3⟩
  · cases e
theorem co_P_readsSum_rc {d : Nat} (rc : Nat → List Value → jH → Option jO) (hrc : ∀ c as h r h1, rc c as h = some (r, h1) → jM1 d c as h r h1) : jc_ok (d + 1) 63 (c_P_readsSum_rc rc) := by
  intro as h k out e
  unfold c_P_readsSum_rc at e
  split at e
  · obtain ⟨a0, rfl, e1⟩ := js_rv e
    obtain ⟨hg, e2⟩ := js_if e1
    obtain ⟨r, h1, hm, e3⟩ := js_jbI e2
    exact ⟨_, _, _, Nat.le_refl _, hrc _ _ _ _ _ hm, ⟨fun _ => ⟨_, _, rfl, Or.inl ⟨3, by decide, hg, by decide +kernel⟩⟩, fun q => absurd q (by decide +kernel)⟩, e3⟩
  · cases e
theorem rcok_rc0 (F : Nat × Nat) : ∀ f c as h r h1, rc0 F f c as h = some (r, h1) → jM1 (2 + 0 * F.2 + f) c as h r h1
  | 0, c, as, h, r, h1, e => nomatch (show (none : Option jO) = some (r, h1) from e)
  | f + 1, c, as, h, r, h1, e => by
    unfold rc0 at e
    split at e
    · exact kr_P_readsPart F (rc0 F f) (by omega) (co_P_readsPart_rc (rc0 F f) (rcok_rc0 F f)) (co_P_readsSum_rc (rc0 F f) (rcok_rc0 F f)) _ _ _ _ _ e
    · exact kr_P_readsSum F (rc0 F f) (by omega) (co_P_readsPart_rc (rc0 F f) (rcok_rc0 F f)) (co_P_readsSum_rc (rc0 F f) (rcok_rc0 F f)) _ _ _ _ _ e
    · cases e
theorem k_P_readsPart (F : Nat × Nat) (a0 : Nat) (a1 : Int32) (h : jH) (r : Option Value) (h1 : jH) (e : m_P_readsPart F a0 a1 h = some (r, h1)) : jM1 (2 + 1 * F.2) 64 [.ref a0, .int a1] h r h1 := by
  have q := rcok_rc0 F F.2 _ _ _ _ _ e
  rwa [show 2 + 0 * F.2 + F.2 = 2 + 1 * F.2 by omega] at q
theorem k_P_readsSum (F : Nat × Nat) (a0 : Nat) (a1 : Int32) (h : jH) (r : Option Value) (h1 : jH) (e : m_P_readsSum F a0 a1 h = some (r, h1)) : jM1 (2 + 1 * F.2) 63 [.ref a0, .int a1] h r h1 := by
  have q := rcok_rc0 F F.2 _ _ _ _ _ e
  rwa [show 2 + 0 * F.2 + F.2 = 2 + 1 * F.2 by omega] at q
theorem co_P_readsPart (F : Nat × Nat) : jc_ok (2 + 1 * F.2 + 1) 64 (c_P_readsPart F) := by
  intro as h k out e
  unfold c_P_readsPart at e
  split at e
  · obtain ⟨a0, rfl, e1⟩ := js_rv e
    obtain ⟨hg, e2⟩ := js_if e1
    obtain ⟨r, h1, hm, e3⟩ := js_jbI e2
    exact ⟨_, _, _, Nat.le_refl _, k_P_readsPart F _ _ _ _ _ hm, ⟨fun _ => ⟨_, _, rfl, Or.inl ⟨3, by decide, hg, by decide +kernel⟩⟩, fun q => absurd q (by decide +kernel)⟩, e3⟩
  · cases e
theorem co_P_readsSum (F : Nat × Nat) : jc_ok (2 + 1 * F.2 + 1) 63 (c_P_readsSum F) := by
  intro as h k out e
  unfold c_P_readsSum at e
  split at e
  · obtain ⟨a0, rfl, e1⟩ := js_rv e
    obtain ⟨hg, e2⟩ := js_if e1
    obtain ⟨r, h1, hm, e3⟩ := js_jbI e2
    exact ⟨_, _, _, Nat.le_refl _, k_P_readsSum F _ _ _ _ _ hm, ⟨fun _ => ⟨_, _, rfl, Or.inl ⟨3, by decide, hg, by decide +kernel⟩⟩, fun q => absurd q (by decide +kernel)⟩, e3⟩
  · cases e
def c_P_comparingOp (F : Nat × Nat) : jc1 := fun args h k => match args with
  | [.int a0] => jbI (m_P_comparingOp F a0 h) fun r h => k (some (.int r)) h
  | _ => none
set_option maxRecDepth 100000 in
theorem e_P_comparingOp (F : Nat × Nat) (a0 : Int32) (h : jH) : m_P_comparingOp F a0 h = jrun (j_C []) 0 cd_P_comparingOp (j_T []) 15 0 [some (.int a0)] [] h := rfl
theorem hc_P_comparingOp (F : Nat × Nat) : jCok (0 + 0 * F.2) (j_C []) := jC_ok (fun _ h => absurd h List.not_mem_nil)
theorem k_P_comparingOp (F : Nat × Nat) (a0 : Int32) (h : jH) (r : Option Value) (h1 : jH) (e : m_P_comparingOp F a0 h = some (r, h1)) : jM1 (0 + 0 * F.2) 74 [.int a0] h r h1 := jM_of (M := M_P_comparingOp) mok_P_comparingOp (by decide +kernel) (by decide +kernel) (Or.inl ⟨rfl, rfl⟩) (fun q => nomatch q) (jrun_ok ok_P_comparingOp (hc_P_comparingOp F) (jT_ok (fun _ h => absurd h List.not_mem_nil)) 15 0) (List.all_eq_true.mp rfl) (Nat.le_of_ble_eq_true rfl) (fun E => Nat.le_of_ble_eq_true rfl) ((e_P_comparingOp F a0 h).symm.trans e)
theorem co_P_comparingOp (F : Nat × Nat) : jc_ok (0 + 0 * F.2 + 1) 74 (c_P_comparingOp F) := by
  intro as h k out e
  unfold c_P_comparingOp at e
  split at e
  · obtain ⟨r, h1, hm, e1⟩ := js_jbI e
    exact ⟨_, _, _, Nat.le_refl _, k_P_comparingOp F _ _ _ _ hm, ⟨fun q => absurd q (by decide +kernel), fun q => absurd q (by decide +kernel)⟩, e1⟩
  · cases e
def c_P_skipToHere (F : Nat × Nat) : jc1 := fun args h k => match args with
  | [w0, .int a1] => j_rv w0 fun a0 => if j_k h a0 = 13 then (jbV (m_P_skipToHere F a0 a1 h) fun h => k none h) else none
  | _ => none
set_option maxRecDepth 100000 in
theorem e_P_skipToHere (F : Nat × Nat) (o : Nat) (a1 : Int32) (h : jH) : m_P_skipToHere F o a1 h = jrun (j_C []) 4 cd_P_skipToHere (j_T []) 29 0 [some (.ref o), some (.int a1)] [] h := rfl
theorem hc_P_skipToHere (F : Nat × Nat) : jCok (0 + 0 * F.2) (j_C []) := jC_ok (fun _ h => absurd h List.not_mem_nil)
theorem k_P_skipToHere (F : Nat × Nat) (o : Nat) (a1 : Int32) (h : jH) (r : Option Value) (h1 : jH) (e : m_P_skipToHere F o a1 h = some (r, h1)) : jM1 (0 + 0 * F.2) 75 [.ref o, .int a1] h r h1 := jM_of (M := M_P_skipToHere) mok_P_skipToHere (by decide +kernel) (by decide +kernel) (Or.inr (Or.inr (Or.inr (Or.inr ⟨rfl, rfl⟩)))) (fun q => nomatch q) (jrun_ok ok_P_skipToHere (hc_P_skipToHere F) (jT_ok (fun _ h => absurd h List.not_mem_nil)) 29 0) (List.all_eq_true.mp rfl) (Nat.le_of_ble_eq_true rfl) (fun E => Nat.le_of_ble_eq_true rfl) ((e_P_skipToHere F o a1 h).symm.trans e)
theorem co_P_skipToHere (F : Nat × Nat) : jc_ok (0 + 0 * F.2 + 1) 75 (c_P_skipToHere F) := by
  intro as h k out e
  unfold c_P_skipToHere at e
  split at e
  · obtain ⟨a0, rfl, e1⟩ := js_rv e
    obtain ⟨hg, e2⟩ := js_if e1
    obtain ⟨h1, hm, e3⟩ := js_jbV e2
    exact ⟨_, _, _, Nat.le_refl _, k_P_skipToHere F _ _ _ _ _ hm, ⟨fun _ => ⟨_, _, rfl, Or.inl ⟨3, by decide, hg, by decide +kernel⟩⟩, fun q => absurd q (by decide +kernel)⟩, e3⟩
  · cases e
def r_P_readsPlain_51 (g : Nat → Int32 → Int32 → Int32 → jH → Option jO) : jL → List Value → jH → Option jO := fun L S h => match L, S with
  | [some (.ref v0), some (.int v1), some (.int v2), some (.int v3), _], [] => g v0 v1 v2 v3 h
  | _, _ => none
def r_P_readsPlain_7 (g : Nat → Int32 → Int32 → Int32 → Int32 → jH → Option jO) : jL → List Value → jH → Option jO := fun L S h => match L, S with
  | [some (.ref v0), some (.int v1), some (.int v2), some (.int v3), some (.int v4)], [] => g v0 v1 v2 v3 v4 h
  | _, _ => none
def r_P_readsTest_7 (g : Nat → Int32 → Int32 → Int32 → Int32 → jH → Option jO) : jL → List Value → jH → Option jO := fun L S h => match L, S with
  | [some (.ref v0), some (.int v1), some (.int v2), some (.int v3), some (.int v4)], [] => g v0 v1 v2 v3 v4 h
  | _, _ => none
def c_P_readsPlain_rc (rc : Nat → List Value → jH → Option jO) : jc1 := fun args h k => match args with
  | [w0, .int a1] => j_rv w0 fun a0 => if j_k h a0 = 13 then (jbI (rc 73 [.ref a0, .int a1] h) fun r h => k (some (.int r)) h) else none
  | _ => none
def c_P_readsTest_rc (rc : Nat → List Value → jH → Option jO) : jc1 := fun args h k => match args with
  | [w0, .int a1] => j_rv w0 fun a0 => if j_k h a0 = 13 then (jbI (rc 72 [.ref a0, .int a1] h) fun r h => k (some (.int r)) h) else none
  | _ => none
def c_P_readsPlain (F : Nat × Nat) : jc1 := fun args h k => match args with
  | [w0, .int a1] => j_rv w0 fun a0 => if j_k h a0 = 13 then (jbI (m_P_readsPlain F a0 a1 h) fun r h => k (some (.int r)) h) else none
  | _ => none
def c_P_readsTest (F : Nat × Nat) : jc1 := fun args h k => match args with
  | [w0, .int a1] => j_rv w0 fun a0 => if j_k h a0 = 13 then (jbI (m_P_readsTest F a0 a1 h) fun r h => k (some (.int r)) h) else none
  | _ => none
set_option maxRecDepth 100000 in
theorem e_P_readsPlain_51 (F : Nat × Nat) (rc : Nat → List Value → jH → Option jO) (v0 : Nat) (v1 : Int32) (v2 : Int32) (v3 : Int32) (u1 : Option Value) (h : jH) : m_P_readsPlain_51 F rc v0 v1 v2 v3 h = jst (j_C [(58, c_P_goTo F), (60, c_P_fails F), (63, c_P_readsSum F), (69, c_P_emitIfAny F), (72, c_P_readsTest_rc rc), (74, c_P_comparingOp F)]) 1 (cd_P_readsPlain 51) [some (.ref v0), some (.int v1), some (.int v2), some (.int v3), u1] [] h (jrun (j_C [(58, c_P_goTo F), (60, c_P_fails F), (63, c_P_readsSum F), (69, c_P_emitIfAny F), (72, c_P_readsTest_rc rc), (74, c_P_comparingOp F)]) 1 cd_P_readsPlain (j_T []) 110) := rfl
set_option maxRecDepth 100000 in
theorem e_P_readsPlain_7 (F : Nat × Nat) (rc : Nat → List Value → jH → Option jO) (f : Nat) (v0 : Nat) (v1 : Int32) (v2 : Int32) (v3 : Int32) (v4 : Int32) (h : jH) : m_P_readsPlain_7 F rc (f + 1) v0 v1 v2 v3 v4 h = jst (j_C [(58, c_P_goTo F), (60, c_P_fails F), (63, c_P_readsSum F), (69, c_P_emitIfAny F), (72, c_P_readsTest_rc rc), (74, c_P_comparingOp F)]) 1 (cd_P_readsPlain 7) [some (.ref v0), some (.int v1), some (.int v2), some (.int v3), some (.int v4)] [] h (jrun (j_C [(58, c_P_goTo F), (60, c_P_fails F), (63, c_P_readsSum F), (69, c_P_emitIfAny F), (72, c_P_readsTest_rc rc), (74, c_P_comparingOp F)]) 1 cd_P_readsPlain (j_T [(7, r_P_readsPlain_7 (m_P_readsPlain_7 F rc f)), (51, r_P_readsPlain_51 (m_P_readsPlain_51 F rc))]) 110) := rfl
set_option maxRecDepth 100000 in
theorem e_P_readsPlain (F : Nat × Nat) (rc : Nat → List Value → jH → Option jO) (o : Nat) (a1 : Int32) (h : jH) : m_P_readsPlain_r F rc o a1 h = jrun (j_C [(58, c_P_goTo F), (60, c_P_fails F), (63, c_P_readsSum F), (69, c_P_emitIfAny F), (72, c_P_readsTest_rc rc), (74, c_P_comparingOp F)]) 1 cd_P_readsPlain (j_T [(7, r_P_readsPlain_7 (m_P_readsPlain_7 F rc F.1))]) 110 0 [some (.ref o), some (.int a1), none, none, none] [] h := rfl
set_option maxRecDepth 100000 in
theorem e_P_readsTest_7 (F : Nat × Nat) (rc : Nat → List Value → jH → Option jO) (f : Nat) (v0 : Nat) (v1 : Int32) (v2 : Int32) (v3 : Int32) (v4 : Int32) (h : jH) : m_P_readsTest_7 F rc (f + 1) v0 v1 v2 v3 v4 h = jst (j_C [(58, c_P_goTo F), (60, c_P_fails F), (65, c_P_emit F), (73, c_P_readsPlain_rc rc), (75, c_P_skipToHere F)]) 1 (cd_P_readsTest 7) [some (.ref v0), some (.int v1), some (.int v2), some (.int v3), some (.int v4)] [] h (jrun (j_C [(58, c_P_goTo F), (60, c_P_fails F), (65, c_P_emit F), (73, c_P_readsPlain_rc rc), (75, c_P_skipToHere F)]) 1 cd_P_readsTest (j_T [(7, r_P_readsTest_7 (m_P_readsTest_7 F rc f))]) 60) := rfl
set_option maxRecDepth 100000 in
theorem e_P_readsTest (F : Nat × Nat) (rc : Nat → List Value → jH → Option jO) (o : Nat) (a1 : Int32) (h : jH) : m_P_readsTest_r F rc o a1 h = jrun (j_C [(58, c_P_goTo F), (60, c_P_fails F), (65, c_P_emit F), (73, c_P_readsPlain_rc rc), (75, c_P_skipToHere F)]) 1 cd_P_readsTest (j_T [(7, r_P_readsTest_7 (m_P_readsTest_7 F rc F.1))]) 60 0 [some (.ref o), some (.int a1), none, none, none] [] h := rfl
theorem hc_P_readsPlain (F : Nat × Nat) (rc : Nat → List Value → jH → Option jO) {D : Nat} (hD : 3 + 1 * F.2 ≤ D) (q_P_readsPlain : jc_ok D 73 (c_P_readsPlain_rc rc)) (q_P_readsTest : jc_ok D 72 (c_P_readsTest_rc rc)) : jCok D (j_C [(58, c_P_goTo F), (60, c_P_fails F), (63, c_P_readsSum F), (69, c_P_emitIfAny F), (72, c_P_readsTest_rc rc), (74, c_P_comparingOp F)]) := jC_ok (List.forall_mem_cons.mpr ⟨(co_P_goTo F).up (by omega), List.forall_mem_cons.mpr ⟨(co_P_fails F).up (by omega), List.forall_mem_cons.mpr ⟨(co_P_readsSum F).up (by omega), List.forall_mem_cons.mpr ⟨(co_P_emitIfAny F).up (by omega), List.forall_mem_cons.mpr ⟨q_P_readsTest, List.forall_mem_cons.mpr ⟨(co_P_comparingOp F).up (by omega), fun _ h => absurd h List.not_mem_nil⟩⟩⟩⟩⟩⟩)
theorem g_P_readsPlain_51 (F : Nat × Nat) (rc : Nat → List Value → jH → Option jO) {D : Nat} (hD : 3 + 1 * F.2 ≤ D) (q_P_readsPlain : jc_ok D 73 (c_P_readsPlain_rc rc)) (q_P_readsTest : jc_ok D 72 (c_P_readsTest_rc rc)) : jG M_P_readsPlain D 51 (r_P_readsPlain_51 (m_P_readsPlain_51 F rc)) := (jst_ok ok_P_readsPlain (hc_P_readsPlain F rc hD q_P_readsPlain q_P_readsTest) (jrun_ok ok_P_readsPlain (hc_P_readsPlain F rc hD q_P_readsPlain q_P_readsTest) (jT_ok (fun _ h => absurd h List.not_mem_nil)) 110) 51).of (fun L S h out e => by unfold r_P_readsPlain_51 at e; split at e; exact (e_P_readsPlain_51 F rc _ _ _ _ _ _).symm.trans e; cases e)
theorem g_P_readsPlain_7 (F : Nat × Nat) (rc : Nat → List Value → jH → Option jO) {D : Nat} (hD : 3 + 1 * F.2 ≤ D) (q_P_readsPlain : jc_ok D 73 (c_P_readsPlain_rc rc)) (q_P_readsTest : jc_ok D 72 (c_P_readsTest_rc rc)) : ∀ f, jG M_P_readsPlain D 7 (r_P_readsPlain_7 (m_P_readsPlain_7 F rc f))
  | 0 => jG.no (fun L S h => by unfold r_P_readsPlain_7; split <;> rfl)
  | f + 1 => (jst_ok ok_P_readsPlain (hc_P_readsPlain F rc hD q_P_readsPlain q_P_readsTest) (jrun_ok ok_P_readsPlain (hc_P_readsPlain F rc hD q_P_readsPlain q_P_readsTest) (jT_ok (List.forall_mem_cons.mpr ⟨g_P_readsPlain_7 F rc hD q_P_readsPlain q_P_readsTest f, List.forall_mem_cons.mpr ⟨g_P_readsPlain_51 F rc hD q_P_readsPlain q_P_readsTest, fun _ h => absurd h List.not_mem_nil⟩⟩)) 110) 7).of (fun L S h out e => by unfold r_P_readsPlain_7 at e; split at e; exact (e_P_readsPlain_7 F rc f _ _ _ _ _ _).symm.trans e; cases e)
theorem kr_P_readsPlain (F : Nat × Nat) (rc : Nat → List Value → jH → Option jO) {D : Nat} (hD : 3 + 1 * F.2 ≤ D) (q_P_readsPlain : jc_ok D 73 (c_P_readsPlain_rc rc)) (q_P_readsTest : jc_ok D 72 (c_P_readsTest_rc rc)) (o : Nat) (a1 : Int32) (h : jH) (r : Option Value) (h1 : jH) (e : m_P_readsPlain_r F rc o a1 h = some (r, h1)) : jM1 D 73 [.ref o, .int a1] h r h1 := jM_of (M := M_P_readsPlain) mok_P_readsPlain (by decide +kernel) (by decide +kernel) (Or.inr (Or.inl ⟨rfl, rfl⟩)) (fun q => nomatch q) (jrun_ok ok_P_readsPlain (hc_P_readsPlain F rc hD q_P_readsPlain q_P_readsTest) (jT_ok (List.forall_mem_cons.mpr ⟨g_P_readsPlain_7 F rc hD q_P_readsPlain q_P_readsTest F.1, fun _ h => absurd h List.not_mem_nil⟩)) 110 0) (List.all_eq_true.mp rfl) (Nat.le_of_ble_eq_true rfl) (fun E => Nat.le_of_ble_eq_true rfl) ((e_P_readsPlain F rc o a1 h).symm.trans e)
theorem hc_P_readsTest (F : Nat × Nat) (rc : Nat → List Value → jH → Option jO) {D : Nat} (hD : 3 + 1 * F.2 ≤ D) (q_P_readsPlain : jc_ok D 73 (c_P_readsPlain_rc rc)) (q_P_readsTest : jc_ok D 72 (c_P_readsTest_rc rc)) : jCok D (j_C [(58, c_P_goTo F), (60, c_P_fails F), (65, c_P_emit F), (73, c_P_readsPlain_rc rc), (75, c_P_skipToHere F)]) := jC_ok (List.forall_mem_cons.mpr ⟨(co_P_goTo F).up (by omega), List.forall_mem_cons.mpr ⟨(co_P_fails F).up (by omega), List.forall_mem_cons.mpr ⟨(co_P_emit F).up (by omega), List.forall_mem_cons.mpr ⟨q_P_readsPlain, List.forall_mem_cons.mpr ⟨(co_P_skipToHere F).up (by omega), fun _ h => absurd h List.not_mem_nil⟩⟩⟩⟩⟩)
theorem g_P_readsTest_7 (F : Nat × Nat) (rc : Nat → List Value → jH → Option jO) {D : Nat} (hD : 3 + 1 * F.2 ≤ D) (q_P_readsPlain : jc_ok D 73 (c_P_readsPlain_rc rc)) (q_P_readsTest : jc_ok D 72 (c_P_readsTest_rc rc)) : ∀ f, jG M_P_readsTest D 7 (r_P_readsTest_7 (m_P_readsTest_7 F rc f))
  | 0 => jG.no (fun L S h => by unfold r_P_readsTest_7; split <;> rfl)
  | f + 1 => (jst_ok ok_P_readsTest (hc_P_readsTest F rc hD q_P_readsPlain q_P_readsTest) (jrun_ok ok_P_readsTest (hc_P_readsTest F rc hD q_P_readsPlain q_P_readsTest) (jT_ok (List.forall_mem_cons.mpr ⟨g_P_readsTest_7 F rc hD q_P_readsPlain q_P_readsTest f, fun _ h => absurd h List.not_mem_nil⟩)) 60) 7).of (fun L S h out e => by unfold r_P_readsTest_7 at e; split at e; exact (e_P_readsTest_7 F rc f _ _ _ _ _ _).symm.trans e; cases e)
theorem kr_P_readsTest (F : Nat × Nat) (rc : Nat → List Value → jH → Option jO) {D : Nat} (hD : 3 + 1 * F.2 ≤ D) (q_P_readsPlain : jc_ok D 73 (c_P_readsPlain_rc rc)) (q_P_readsTest : jc_ok D 72 (c_P_readsTest_rc rc)) (o : Nat) (a1 : Int32) (h : jH) (r : Option Value) (h1 : jH) (e : m_P_readsTest_r F rc o a1 h = some (r, h1)) : jM1 D 72 [.ref o, .int a1] h r h1 := jM_of (M := M_P_readsTest) mok_P_readsTest (by decide +kernel) (by decide +kernel) (Or.inr (Or.inl ⟨rfl, rfl⟩)) (fun q => nomatch q) (jrun_ok ok_P_readsTest (hc_P_readsTest F rc hD q_P_readsPlain q_P_readsTest) (jT_ok (List.forall_mem_cons.mpr ⟨g_P_readsTest_7 F rc hD q_P_readsPlain q_P_readsTest F.1, fun _ h => absurd h List.not_mem_nil⟩)) 60 0) (List.all_eq_true.mp rfl) (Nat.le_of_ble_eq_true rfl) (fun E => Nat.le_of_ble_eq_true rfl) ((e_P_readsTest F rc o a1 h).symm.trans e)
theorem co_P_readsPlain_rc {d : Nat} (rc : Nat → List Value → jH → Option jO) (hrc : ∀ c as h r h1, rc c as h = some (r, h1) → jM1 d c as h r h1) : jc_ok (d + 1) 73 (c_P_readsPlain_rc rc) := by
  intro as h k out e
  unfold c_P_readsPlain_rc at e
  split at e
  · obtain ⟨a0, rfl, e1⟩ := js_rv e
    obtain ⟨hg, e2⟩ := js_if e1
    obtain ⟨r, h1, hm, e3⟩ := js_jbI e2
    exact ⟨_, _, _, Nat.le_refl _, hrc _ _ _ _ _ hm, ⟨fun _ => ⟨_, _, rfl, Or.inl ⟨3, by decide, hg, by decide +kernel⟩⟩, fun q => absurd q (by decide +kernel)⟩, e3⟩
  · cases e
theorem co_P_readsTest_rc {d : Nat} (rc : Nat → List Value → jH → Option jO) (hrc : ∀ c as h r h1, rc c as h = some (r, h1) → jM1 d c as h r h1) : jc_ok (d + 1) 72 (c_P_readsTest_rc rc) := by
  intro as h k out e
  unfold c_P_readsTest_rc at e
  split at e
  · obtain ⟨a0, rfl, e1⟩ := js_rv e
    obtain ⟨hg, e2⟩ := js_if e1
    obtain ⟨r, h1, hm, e3⟩ := js_jbI e2
    exact ⟨_, _, _, Nat.le_refl _, hrc _ _ _ _ _ hm, ⟨fun _ => ⟨_, _, rfl, Or.inl ⟨3, by decide, hg, by decide +kernel⟩⟩, fun q => absurd q (by decide +kernel)⟩, e3⟩
  · cases e
theorem rcok_rc1 (F : Nat × Nat) : ∀ f c as h r h1, rc1 F f c as h = some (r, h1) → jM1 (3 + 1 * F.2 + f) c as h r h1
  | 0, c, as, h, r, h1, e => nomatch (show (none : Option jO) = some (r, h1) from e)
  | f + 1, c, as, h, r, h1, e => by
    unfold rc1 at e
    split at e
    · exact kr_P_readsPlain F (rc1 F f) (by omega) (co_P_readsPlain_rc (rc1 F f) (rcok_rc1 F f)) (co_P_readsTest_rc (rc1 F f) (rcok_rc1 F f)) _ _ _ _ _ e
    · exact kr_P_readsTest F (rc1 F f) (by omega) (co_P_readsPlain_rc (rc1 F f) (rcok_rc1 F f)) (co_P_readsTest_rc (rc1 F f) (rcok_rc1 F f)) _ _ _ _ _ e
    · cases e
theorem k_P_readsPlain (F : Nat × Nat) (a0 : Nat) (a1 : Int32) (h : jH) (r : Option Value) (h1 : jH) (e : m_P_readsPlain F a0 a1 h = some (r, h1)) : jM1 (3 + 2 * F.2) 73 [.ref a0, .int a1] h r h1 := by
  have q := rcok_rc1 F F.2 _ _ _ _ _ e
  rwa [show 3 + 1 * F.2 + F.2 = 3 + 2 * F.2 by omega] at q
theorem k_P_readsTest (F : Nat × Nat) (a0 : Nat) (a1 : Int32) (h : jH) (r : Option Value) (h1 : jH) (e : m_P_readsTest F a0 a1 h = some (r, h1)) : jM1 (3 + 2 * F.2) 72 [.ref a0, .int a1] h r h1 := by
  have q := rcok_rc1 F F.2 _ _ _ _ _ e
  rwa [show 3 + 1 * F.2 + F.2 = 3 + 2 * F.2 by omega] at q
theorem co_P_readsPlain (F : Nat × Nat) : jc_ok (3 + 2 * F.2 + 1) 73 (c_P_readsPlain F) := by
  intro as h k out e
  unfold c_P_readsPlain at e
  split at e
  · obtain ⟨a0, rfl, e1⟩ := js_rv e
    obtain ⟨hg, e2⟩ := js_if e1
    obtain ⟨r, h1, hm, e3⟩ := js_jbI e2
    exact ⟨_, _, _, Nat.le_refl _, k_P_readsPlain F _ _ _ _ _ hm, ⟨fun _ => ⟨_, _, rfl, Or.inl ⟨3, by decide, hg, by decide +kernel⟩⟩, fun q => absurd q (by decide +kernel)⟩, e3⟩
  · cases e
theorem co_P_readsTest (F : Nat × Nat) : jc_ok (3 + 2 * F.2 + 1) 72 (c_P_readsTest F) := by
  intro as h k out e
  unfold c_P_readsTest at e
  split at e
  · obtain ⟨a0, rfl, e1⟩ := js_rv e
    obtain ⟨hg, e2⟩ := js_if e1
    obtain ⟨r, h1, hm, e3⟩ := js_jbI e2
    exact ⟨_, _, _, Nat.le_refl _, k_P_readsTest F _ _ _ _ _ hm, ⟨fun _ => ⟨_, _, rfl, Or.inl ⟨3, by decide, hg, by decide +kernel⟩⟩, fun q => absurd q (by decide +kernel)⟩, e3⟩
  · cases e
def r_P_readsOrder_232 (g : Nat → Int32 → jH → Option jO) : jL → List Value → jH → Option jO := fun L S h => match L, S with
  | [some (.ref v0), some (.int v1), _], [] => g v0 v1 h
  | _, _ => none
def r_P_readsOrder_157 (g : Nat → Int32 → jH → Option jO) : jL → List Value → jH → Option jO := fun L S h => match L, S with
  | [some (.ref v0), some (.int v1), _], [] => g v0 v1 h
  | _, _ => none
def r_P_readsOrder_45 (g : Nat → Int32 → jH → Option jO) : jL → List Value → jH → Option jO := fun L S h => match L, S with
  | [some (.ref v0), some (.int v1), _], [] => g v0 v1 h
  | _, _ => none
def c_P_readsOrder (F : Nat × Nat) : jc1 := fun args h k => match args with
  | [w0, .int a1] => j_rv w0 fun a0 => if j_k h a0 = 13 then (jbI (m_P_readsOrder F a0 a1 h) fun r h => k (some (.int r)) h) else none
  | _ => none
set_option maxRecDepth 100000 in
theorem e_P_readsOrder_232 (F : Nat × Nat) (v0 : Nat) (v1 : Int32) (u1 : Option Value) (h : jH) : m_P_readsOrder_232 F v0 v1 h = jst (j_C [(58, c_P_goTo F), (60, c_P_fails F), (61, c_P_startClause F), (62, c_P_wordBetween F), (63, c_P_readsSum F), (65, c_P_emit F), (72, c_P_readsTest F)]) 1 (cd_P_readsOrder 232) [some (.ref v0), some (.int v1), u1] [] h (jrun (j_C [(58, c_P_goTo F), (60, c_P_fails F), (61, c_P_startClause F), (62, c_P_wordBetween F), (63, c_P_readsSum F), (65, c_P_emit F), (72, c_P_readsTest F)]) 1 cd_P_readsOrder (j_T []) 159) := rfl
set_option maxRecDepth 100000 in
theorem e_P_readsOrder_157 (F : Nat × Nat) (v0 : Nat) (v1 : Int32) (u1 : Option Value) (h : jH) : m_P_readsOrder_157 F v0 v1 h = jst (j_C [(58, c_P_goTo F), (60, c_P_fails F), (61, c_P_startClause F), (62, c_P_wordBetween F), (63, c_P_readsSum F), (65, c_P_emit F), (72, c_P_readsTest F)]) 1 (cd_P_readsOrder 157) [some (.ref v0), some (.int v1), u1] [] h (jrun (j_C [(58, c_P_goTo F), (60, c_P_fails F), (61, c_P_startClause F), (62, c_P_wordBetween F), (63, c_P_readsSum F), (65, c_P_emit F), (72, c_P_readsTest F)]) 1 cd_P_readsOrder (j_T [(232, r_P_readsOrder_232 (m_P_readsOrder_232 F))]) 159) := rfl
set_option maxRecDepth 100000 in
theorem e_P_readsOrder_45 (F : Nat × Nat) (v0 : Nat) (v1 : Int32) (u1 : Option Value) (h : jH) : m_P_readsOrder_45 F v0 v1 h = jst (j_C [(58, c_P_goTo F), (60, c_P_fails F), (61, c_P_startClause F), (62, c_P_wordBetween F), (63, c_P_readsSum F), (65, c_P_emit F), (72, c_P_readsTest F)]) 1 (cd_P_readsOrder 45) [some (.ref v0), some (.int v1), u1] [] h (jrun (j_C [(58, c_P_goTo F), (60, c_P_fails F), (61, c_P_startClause F), (62, c_P_wordBetween F), (63, c_P_readsSum F), (65, c_P_emit F), (72, c_P_readsTest F)]) 1 cd_P_readsOrder (j_T [(157, r_P_readsOrder_157 (m_P_readsOrder_157 F))]) 159) := rfl
set_option maxRecDepth 100000 in
theorem e_P_readsOrder (F : Nat × Nat) (o : Nat) (a1 : Int32) (h : jH) : m_P_readsOrder F o a1 h = jrun (j_C [(58, c_P_goTo F), (60, c_P_fails F), (61, c_P_startClause F), (62, c_P_wordBetween F), (63, c_P_readsSum F), (65, c_P_emit F), (72, c_P_readsTest F)]) 1 cd_P_readsOrder (j_T [(45, r_P_readsOrder_45 (m_P_readsOrder_45 F))]) 159 0 [some (.ref o), some (.int a1), none] [] h := rfl
theorem hc_P_readsOrder (F : Nat × Nat) : jCok (4 + 2 * F.2) (j_C [(58, c_P_goTo F), (60, c_P_fails F), (61, c_P_startClause F), (62, c_P_wordBetween F), (63, c_P_readsSum F), (65, c_P_emit F), (72, c_P_readsTest F)]) := jC_ok (List.forall_mem_cons.mpr ⟨(co_P_goTo F).up (by omega), List.forall_mem_cons.mpr ⟨(co_P_fails F).up (by omega), List.forall_mem_cons.mpr ⟨(co_P_startClause F).up (by omega), List.forall_mem_cons.mpr ⟨(co_P_wordBetween F).up (by omega), List.forall_mem_cons.mpr ⟨(co_P_readsSum F).up (by omega), List.forall_mem_cons.mpr ⟨(co_P_emit F).up (by omega), List.forall_mem_cons.mpr ⟨(co_P_readsTest F).up (by omega), fun _ h => absurd h List.not_mem_nil⟩⟩⟩⟩⟩⟩⟩)
theorem g_P_readsOrder_232 (F : Nat × Nat) : jG M_P_readsOrder (4 + 2 * F.2) 232 (r_P_readsOrder_232 (m_P_readsOrder_232 F)) := (jst_ok ok_P_readsOrder (hc_P_readsOrder F) (jrun_ok ok_P_readsOrder (hc_P_readsOrder F) (jT_ok (fun _ h => absurd h List.not_mem_nil)) 159) 232).of (fun L S h out e => by unfold r_P_readsOrder_232 at e; split at e; exact (e_P_readsOrder_232 F _ _ _ _).symm.trans e; cases e)
theorem g_P_readsOrder_157 (F : Nat × Nat) : jG M_P_readsOrder (4 + 2 * F.2) 157 (r_P_readsOrder_157 (m_P_readsOrder_157 F)) := (jst_ok ok_P_readsOrder (hc_P_readsOrder F) (jrun_ok ok_P_readsOrder (hc_P_readsOrder F) (jT_ok (List.forall_mem_cons.mpr ⟨g_P_readsOrder_232 F, fun _ h => absurd h List.not_mem_nil⟩)) 159) 157).of (fun L S h out e => by unfold r_P_readsOrder_157 at e; split at e; exact (e_P_readsOrder_157 F _ _ _ _).symm.trans e; cases e)
theorem g_P_readsOrder_45 (F : Nat × Nat) : jG M_P_readsOrder (4 + 2 * F.2) 45 (r_P_readsOrder_45 (m_P_readsOrder_45 F)) := (jst_ok ok_P_readsOrder (hc_P_readsOrder F) (jrun_ok ok_P_readsOrder (hc_P_readsOrder F) (jT_ok (List.forall_mem_cons.mpr ⟨g_P_readsOrder_157 F, fun _ h => absurd h List.not_mem_nil⟩)) 159) 45).of (fun L S h out e => by unfold r_P_readsOrder_45 at e; split at e; exact (e_P_readsOrder_45 F _ _ _ _).symm.trans e; cases e)
theorem k_P_readsOrder (F : Nat × Nat) (o : Nat) (a1 : Int32) (h : jH) (r : Option Value) (h1 : jH) (e : m_P_readsOrder F o a1 h = some (r, h1)) : jM1 (4 + 2 * F.2) 59 [.ref o, .int a1] h r h1 := jM_of (M := M_P_readsOrder) mok_P_readsOrder (by decide +kernel) (by decide +kernel) (Or.inr (Or.inl ⟨rfl, rfl⟩)) (fun q => nomatch q) (jrun_ok ok_P_readsOrder (hc_P_readsOrder F) (jT_ok (List.forall_mem_cons.mpr ⟨g_P_readsOrder_45 F, fun _ h => absurd h List.not_mem_nil⟩)) 159 0) (List.all_eq_true.mp rfl) (Nat.le_of_ble_eq_true rfl) (fun E => Nat.le_of_ble_eq_true rfl) ((e_P_readsOrder F o a1 h).symm.trans e)
theorem co_P_readsOrder (F : Nat × Nat) : jc_ok (4 + 2 * F.2 + 1) 59 (c_P_readsOrder F) := by
  intro as h k out e
  unfold c_P_readsOrder at e
  split at e
  · obtain ⟨a0, rfl, e1⟩ := js_rv e
    obtain ⟨hg, e2⟩ := js_if e1
    obtain ⟨r, h1, hm, e3⟩ := js_jbI e2
    exact ⟨_, _, _, Nat.le_refl _, k_P_readsOrder F _ _ _ _ _ hm, ⟨fun _ => ⟨_, _, rfl, Or.inl ⟨3, by decide, hg, by decide +kernel⟩⟩, fun q => absurd q (by decide +kernel)⟩, e3⟩
  · cases e
def r_P_readsLaw_88 (g : Nat → Int32 → jH → Option jO) : jL → List Value → jH → Option jO := fun L S h => match L, S with
  | [some (.ref v0), some (.int v1)], [] => g v0 v1 h
  | _, _ => none
def r_P_readsLaw_35 (g : Nat → Int32 → jH → Option jO) : jL → List Value → jH → Option jO := fun L S h => match L, S with
  | [some (.ref v0), some (.int v1)], [] => g v0 v1 h
  | _, _ => none
def c_P_readsLaw (F : Nat × Nat) : jc1 := fun args h k => match args with
  | [w0, .int a1] => j_rv w0 fun a0 => if j_k h a0 = 13 then (jbI (m_P_readsLaw F a0 a1 h) fun r h => k (some (.int r)) h) else none
  | _ => none
set_option maxRecDepth 100000 in
theorem e_P_readsLaw_88 (F : Nat × Nat) (v0 : Nat) (v1 : Int32) (h : jH) : m_P_readsLaw_88 F v0 v1 h = jst (j_C [(58, c_P_goTo F), (60, c_P_fails F), (61, c_P_startClause F), (63, c_P_readsSum F), (65, c_P_emit F), (72, c_P_readsTest F)]) 1 (cd_P_readsLaw 88) [some (.ref v0), some (.int v1)] [] h (jrun (j_C [(58, c_P_goTo F), (60, c_P_fails F), (61, c_P_startClause F), (63, c_P_readsSum F), (65, c_P_emit F), (72, c_P_readsTest F)]) 1 cd_P_readsLaw (j_T []) 82) := rfl
set_option maxRecDepth 100000 in
theorem e_P_readsLaw_35 (F : Nat × Nat) (v0 : Nat) (v1 : Int32) (h : jH) : m_P_readsLaw_35 F v0 v1 h = jst (j_C [(58, c_P_goTo F), (60, c_P_fails F), (61, c_P_startClause F), (63, c_P_readsSum F), (65, c_P_emit F), (72, c_P_readsTest F)]) 1 (cd_P_readsLaw 35) [some (.ref v0), some (.int v1)] [] h (jrun (j_C [(58, c_P_goTo F), (60, c_P_fails F), (61, c_P_startClause F), (63, c_P_readsSum F), (65, c_P_emit F), (72, c_P_readsTest F)]) 1 cd_P_readsLaw (j_T [(88, r_P_readsLaw_88 (m_P_readsLaw_88 F))]) 82) := rfl
set_option maxRecDepth 100000 in
theorem e_P_readsLaw (F : Nat × Nat) (o : Nat) (a1 : Int32) (h : jH) : m_P_readsLaw F o a1 h = jrun (j_C [(58, c_P_goTo F), (60, c_P_fails F), (61, c_P_startClause F), (63, c_P_readsSum F), (65, c_P_emit F), (72, c_P_readsTest F)]) 1 cd_P_readsLaw (j_T [(35, r_P_readsLaw_35 (m_P_readsLaw_35 F))]) 82 0 [some (.ref o), some (.int a1)] [] h := rfl
theorem hc_P_readsLaw (F : Nat × Nat) : jCok (4 + 2 * F.2) (j_C [(58, c_P_goTo F), (60, c_P_fails F), (61, c_P_startClause F), (63, c_P_readsSum F), (65, c_P_emit F), (72, c_P_readsTest F)]) := jC_ok (List.forall_mem_cons.mpr ⟨(co_P_goTo F).up (by omega), List.forall_mem_cons.mpr ⟨(co_P_fails F).up (by omega), List.forall_mem_cons.mpr ⟨(co_P_startClause F).up (by omega), List.forall_mem_cons.mpr ⟨(co_P_readsSum F).up (by omega), List.forall_mem_cons.mpr ⟨(co_P_emit F).up (by omega), List.forall_mem_cons.mpr ⟨(co_P_readsTest F).up (by omega), fun _ h => absurd h List.not_mem_nil⟩⟩⟩⟩⟩⟩)
theorem g_P_readsLaw_88 (F : Nat × Nat) : jG M_P_readsLaw (4 + 2 * F.2) 88 (r_P_readsLaw_88 (m_P_readsLaw_88 F)) := (jst_ok ok_P_readsLaw (hc_P_readsLaw F) (jrun_ok ok_P_readsLaw (hc_P_readsLaw F) (jT_ok (fun _ h => absurd h List.not_mem_nil)) 82) 88).of (fun L S h out e => by unfold r_P_readsLaw_88 at e; split at e; exact (e_P_readsLaw_88 F _ _ _).symm.trans e; cases e)
theorem g_P_readsLaw_35 (F : Nat × Nat) : jG M_P_readsLaw (4 + 2 * F.2) 35 (r_P_readsLaw_35 (m_P_readsLaw_35 F)) := (jst_ok ok_P_readsLaw (hc_P_readsLaw F) (jrun_ok ok_P_readsLaw (hc_P_readsLaw F) (jT_ok (List.forall_mem_cons.mpr ⟨g_P_readsLaw_88 F, fun _ h => absurd h List.not_mem_nil⟩)) 82) 35).of (fun L S h out e => by unfold r_P_readsLaw_35 at e; split at e; exact (e_P_readsLaw_35 F _ _ _).symm.trans e; cases e)
theorem k_P_readsLaw (F : Nat × Nat) (o : Nat) (a1 : Int32) (h : jH) (r : Option Value) (h1 : jH) (e : m_P_readsLaw F o a1 h = some (r, h1)) : jM1 (4 + 2 * F.2) 76 [.ref o, .int a1] h r h1 := jM_of (M := M_P_readsLaw) mok_P_readsLaw (by decide +kernel) (by decide +kernel) (Or.inr (Or.inl ⟨rfl, rfl⟩)) (fun q => nomatch q) (jrun_ok ok_P_readsLaw (hc_P_readsLaw F) (jT_ok (List.forall_mem_cons.mpr ⟨g_P_readsLaw_35 F, fun _ h => absurd h List.not_mem_nil⟩)) 82 0) (List.all_eq_true.mp rfl) (Nat.le_of_ble_eq_true rfl) (fun E => Nat.le_of_ble_eq_true rfl) ((e_P_readsLaw F o a1 h).symm.trans e)
theorem co_P_readsLaw (F : Nat × Nat) : jc_ok (4 + 2 * F.2 + 1) 76 (c_P_readsLaw F) := by
  intro as h k out e
  unfold c_P_readsLaw at e
  split at e
  · obtain ⟨a0, rfl, e1⟩ := js_rv e
    obtain ⟨hg, e2⟩ := js_if e1
    obtain ⟨r, h1, hm, e3⟩ := js_jbI e2
    exact ⟨_, _, _, Nat.le_refl _, k_P_readsLaw F _ _ _ _ _ hm, ⟨fun _ => ⟨_, _, rfl, Or.inl ⟨3, by decide, hg, by decide +kernel⟩⟩, fun q => absurd q (by decide +kernel)⟩, e3⟩
  · cases e
