def c_M_apart (F : Nat × Nat) : jc1 := fun args h k => match args with
  | [.int a0, .int a1] => jbI (m_M_apart F a0 a1 h) fun r h => k (some (.int r)) h
  | _ => none
set_option maxRecDepth 100000 in
theorem e_M_apart (F : Nat × Nat) (a0 : Int32) (a1 : Int32) (h : jH) : m_M_apart F a0 a1 h = jrun (j_C []) 0 cd_M_apart (j_T []) 16 0 [some (.int a0), some (.int a1)] [] h := rfl
theorem hc_M_apart (F : Nat × Nat) : jCok (0 + 0 * F.2) (j_C []) := jC_ok (fun _ h => absurd h List.not_mem_nil)
theorem k_M_apart (F : Nat × Nat) (a0 : Int32) (a1 : Int32) (h : jH) (r : Option Value) (h1 : jH) (e : m_M_apart F a0 a1 h = some (r, h1)) : jM1 (0 + 0 * F.2) 239 [.int a0, .int a1] h r h1 := jM_of (M := M_M_apart) mok_M_apart (by decide +kernel) (by decide +kernel) (Or.inl ⟨rfl, rfl⟩) (fun q => nomatch q) (jrun_ok ok_M_apart (hc_M_apart F) (jT_ok (fun _ h => absurd h List.not_mem_nil)) 16 0) (List.all_eq_true.mp rfl) (Nat.le_of_ble_eq_true rfl) (fun E => Nat.le_of_ble_eq_true rfl) ((e_M_apart F a0 a1 h).symm.trans e)
theorem co_M_apart (F : Nat × Nat) : jc_ok (0 + 0 * F.2 + 1) 239 (c_M_apart F) := by
  intro as h k out e
  unfold c_M_apart at e
  split at e
  · obtain ⟨r, h1, hm, e1⟩ := js_jbI e
    exact ⟨_, _, _, Nat.le_refl _, k_M_apart F _ _ _ _ _ hm, ⟨fun q => absurd q (by decide +kernel), fun q => absurd q (by decide +kernel)⟩, e1⟩
  · cases e
def c_M_steps (F : Nat × Nat) : jc1 := fun args h k => match args with
  | [.int a0, .int a1] => jbI (m_M_steps F a0 a1 h) fun r h => k (some (.int r)) h
  | _ => none
set_option maxRecDepth 100000 in
theorem e_M_steps (F : Nat × Nat) (a0 : Int32) (a1 : Int32) (h : jH) : m_M_steps F a0 a1 h = jrun (j_C [(239, c_M_apart F)]) 0 cd_M_steps (j_T []) 21 0 [some (.int a0), some (.int a1)] [] h := rfl
theorem hc_M_steps (F : Nat × Nat) : jCok (1 + 0 * F.2) (j_C [(239, c_M_apart F)]) := jC_ok (List.forall_mem_cons.mpr ⟨(co_M_apart F).up (by omega), fun _ h => absurd h List.not_mem_nil⟩)
theorem k_M_steps (F : Nat × Nat) (a0 : Int32) (a1 : Int32) (h : jH) (r : Option Value) (h1 : jH) (e : m_M_steps F a0 a1 h = some (r, h1)) : jM1 (1 + 0 * F.2) 238 [.int a0, .int a1] h r h1 := jM_of (M := M_M_steps) mok_M_steps (by decide +kernel) (by decide +kernel) (Or.inl ⟨rfl, rfl⟩) (fun q => nomatch q) (jrun_ok ok_M_steps (hc_M_steps F) (jT_ok (fun _ h => absurd h List.not_mem_nil)) 21 0) (List.all_eq_true.mp rfl) (Nat.le_of_ble_eq_true rfl) (fun E => Nat.le_of_ble_eq_true rfl) ((e_M_steps F a0 a1 h).symm.trans e)
theorem co_M_steps (F : Nat × Nat) : jc_ok (1 + 0 * F.2 + 1) 238 (c_M_steps F) := by
  intro as h k out e
  unfold c_M_steps at e
  split at e
  · obtain ⟨r, h1, hm, e1⟩ := js_jbI e
    exact ⟨_, _, _, Nat.le_refl _, k_M_steps F _ _ _ _ _ hm, ⟨fun q => absurd q (by decide +kernel), fun q => absurd q (by decide +kernel)⟩, e1⟩
  · cases e
def r_M_seenFrom_13 (g : Int32 → Int32 → Int32 → Int32 → jH → Option jO) : jL → List Value → jH → Option jO := fun L S h => match L, S with
  | [_, _, some (.int v2), some (.int v3), some (.int v4), some (.int v5)], [] => g v2 v3 v4 v5 h
  | _, _ => none
def c_M_seenFrom (F : Nat × Nat) : jc1 := fun args h k => match args with
  | [w0, .int a1, .int a2] => j_rv w0 fun a0 => if j_k h a0 = 17 then (jbI (m_M_seenFrom F a0 a1 a2 h) fun r h => k (some (.int r)) h) else none
  | _ => none
set_option maxRecDepth 100000 in
theorem e_M_seenFrom_13 (F : Nat × Nat) (f : Nat) (v2 : Int32) (v3 : Int32) (v4 : Int32) (v5 : Int32) (u1 : Option Value) (u2 : Option Value) (h : jH) : m_M_seenFrom_13 F (f + 1) v2 v3 v4 v5 h = jst (j_C [(176, c_M_seesFrom F), (238, c_M_steps F)]) 0 (cd_M_seenFrom 13) [u1, u2, some (.int v2), some (.int v3), some (.int v4), some (.int v5)] [] h (jrun (j_C [(176, c_M_seesFrom F), (238, c_M_steps F)]) 0 cd_M_seenFrom (j_T [(13, r_M_seenFrom_13 (m_M_seenFrom_13 F f))]) 34) := rfl
set_option maxRecDepth 100000 in
theorem e_M_seenFrom (F : Nat × Nat) (o : Nat) (a1 : Int32) (a2 : Int32) (h : jH) : m_M_seenFrom F o a1 a2 h = jrun (j_C [(176, c_M_seesFrom F), (238, c_M_steps F)]) 0 cd_M_seenFrom (j_T [(13, r_M_seenFrom_13 (m_M_seenFrom_13 F F.1))]) 34 0 [some (.ref o), some (.int a1), some (.int a2), none, none, none] [] h := rfl
theorem hc_M_seenFrom (F : Nat × Nat) : jCok (7 + 2 * F.2) (j_C [(176, c_M_seesFrom F), (238, c_M_steps F)]) := jC_ok (List.forall_mem_cons.mpr ⟨(co_M_seesFrom F).up (by omega), List.forall_mem_cons.mpr ⟨(co_M_steps F).up (by omega), fun _ h => absurd h List.not_mem_nil⟩⟩)
theorem g_M_seenFrom_13 (F : Nat × Nat) : ∀ f, jG M_M_seenFrom (7 + 2 * F.2) 13 (r_M_seenFrom_13 (m_M_seenFrom_13 F f))
  | 0 => jG.no (fun L S h => by unfold r_M_seenFrom_13; split <;> rfl)
  | f + 1 => (jst_ok ok_M_seenFrom (hc_M_seenFrom F) (jrun_ok ok_M_seenFrom (hc_M_seenFrom F) (jT_ok (List.forall_mem_cons.mpr ⟨g_M_seenFrom_13 F f, fun _ h => absurd h List.not_mem_nil⟩)) 34) 13).of (fun L S h out e => by unfold r_M_seenFrom_13 at e; split at e; exact (e_M_seenFrom_13 F f _ _ _ _ _ _ _).symm.trans e; cases e)
theorem k_M_seenFrom (F : Nat × Nat) (o : Nat) (a1 : Int32) (a2 : Int32) (h : jH) (r : Option Value) (h1 : jH) (e : m_M_seenFrom F o a1 a2 h = some (r, h1)) : jM1 (7 + 2 * F.2) 237 [.ref o, .int a1, .int a2] h r h1 := jM_of (M := M_M_seenFrom) mok_M_seenFrom (by decide +kernel) (by decide +kernel) (Or.inl ⟨rfl, rfl⟩) (fun q => nomatch q) (jrun_ok ok_M_seenFrom (hc_M_seenFrom F) (jT_ok (List.forall_mem_cons.mpr ⟨g_M_seenFrom_13 F F.1, fun _ h => absurd h List.not_mem_nil⟩)) 34 0) (List.all_eq_true.mp rfl) (Nat.le_of_ble_eq_true rfl) (fun E => Nat.le_of_ble_eq_true rfl) ((e_M_seenFrom F o a1 a2 h).symm.trans e)
theorem co_M_seenFrom (F : Nat × Nat) : jc_ok (7 + 2 * F.2 + 1) 237 (c_M_seenFrom F) := by
  intro as h k out e
  unfold c_M_seenFrom at e
  split at e
  · obtain ⟨a0, rfl, e1⟩ := js_rv e
    obtain ⟨hg, e2⟩ := js_if e1
    obtain ⟨r, h1, hm, e3⟩ := js_jbI e2
    exact ⟨_, _, _, Nat.le_refl _, k_M_seenFrom F _ _ _ _ _ _ hm, ⟨fun _ => ⟨_, _, rfl, Or.inl ⟨7, by decide, hg, by decide +kernel⟩⟩, fun q => absurd q (by decide +kernel)⟩, e3⟩
  · cases e
def c_M_isIn (F : Nat × Nat) : jc1 := fun args h k => match args with
  | [.int a0, .int a1] => jbI (m_M_isIn F a0 a1 h) fun r h => k (some (.int r)) h
  | _ => none
set_option maxRecDepth 100000 in
theorem e_M_isIn (F : Nat × Nat) (a0 : Int32) (a1 : Int32) (h : jH) : m_M_isIn F a0 a1 h = jrun (j_C []) 1 cd_M_isIn (j_T []) 16 0 [some (.int a0), some (.int a1)] [] h := rfl
theorem hc_M_isIn (F : Nat × Nat) : jCok (0 + 0 * F.2) (j_C []) := jC_ok (fun _ h => absurd h List.not_mem_nil)
theorem k_M_isIn (F : Nat × Nat) (a0 : Int32) (a1 : Int32) (h : jH) (r : Option Value) (h1 : jH) (e : m_M_isIn F a0 a1 h = some (r, h1)) : jM1 (0 + 0 * F.2) 240 [.int a0, .int a1] h r h1 := jM_of (M := M_M_isIn) mok_M_isIn (by decide +kernel) (by decide +kernel) (Or.inr (Or.inl ⟨rfl, rfl⟩)) (fun q => nomatch q) (jrun_ok ok_M_isIn (hc_M_isIn F) (jT_ok (fun _ h => absurd h List.not_mem_nil)) 16 0) (List.all_eq_true.mp rfl) (Nat.le_of_ble_eq_true rfl) (fun E => Nat.le_of_ble_eq_true rfl) ((e_M_isIn F a0 a1 h).symm.trans e)
theorem co_M_isIn (F : Nat × Nat) : jc_ok (0 + 0 * F.2 + 1) 240 (c_M_isIn F) := by
  intro as h k out e
  unfold c_M_isIn at e
  split at e
  · obtain ⟨r, h1, hm, e1⟩ := js_jbI e
    exact ⟨_, _, _, Nat.le_refl _, k_M_isIn F _ _ _ _ _ hm, ⟨fun q => absurd q (by decide +kernel), fun q => absurd q (by decide +kernel)⟩, e1⟩
  · cases e
def r_M_stepNow_43 (g : Nat → Int32 → Int32 → Int32 → Int32 → jH → Option jO) : jL → List Value → jH → Option jO := fun L S h => match L, S with
  | [some (.ref v0), some (.int v1), _, _, some (.int v4), some (.int v5), some (.int v6)], [] => g v0 v1 v4 v5 v6 h
  | _, _ => none
def c_M_stepNow (F : Nat × Nat) : jc1 := fun args h k => match args with
  | [w0, .int a1, .int a2] => j_rv w0 fun a0 => if j_k h a0 = 17 then (jbI (m_M_stepNow F a0 a1 a2 h) fun r h => k (some (.int r)) h) else none
  | _ => none
set_option maxRecDepth 100000 in
theorem e_M_stepNow_43 (F : Nat × Nat) (f : Nat) (v0 : Nat) (v1 : Int32) (v4 : Int32) (v5 : Int32) (v6 : Int32) (u1 : Option Value) (u2 : Option Value) (h : jH) : m_M_stepNow_43 F (f + 1) v0 v1 v4 v5 v6 h = jst (j_C [(169, c_M_spotOf F), (193, c_M_cellAt F), (194, c_M_costOf F), (237, c_M_seenFrom F), (240, c_M_isIn F)]) 0 (cd_M_stepNow 43) [some (.ref v0), some (.int v1), u1, u2, some (.int v4), some (.int v5), some (.int v6)] [] h (jrun (j_C [(169, c_M_spotOf F), (193, c_M_cellAt F), (194, c_M_costOf F), (237, c_M_seenFrom F), (240, c_M_isIn F)]) 0 cd_M_stepNow (j_T [(43, r_M_stepNow_43 (m_M_stepNow_43 F f))]) 62) := rfl
set_option maxRecDepth 100000 in
theorem e_M_stepNow (F : Nat × Nat) (o : Nat) (a1 : Int32) (a2 : Int32) (h : jH) : m_M_stepNow F o a1 a2 h = jrun (j_C [(169, c_M_spotOf F), (193, c_M_cellAt F), (194, c_M_costOf F), (237, c_M_seenFrom F), (240, c_M_isIn F)]) 0 cd_M_stepNow (j_T [(43, r_M_stepNow_43 (m_M_stepNow_43 F F.1))]) 62 0 [some (.ref o), some (.int a1), some (.int a2), none, none, none, none] [] h := rfl
theorem hc_M_stepNow (F : Nat × Nat) : jCok (8 + 2 * F.2) (j_C [(169, c_M_spotOf F), (193, c_M_cellAt F), (194, c_M_costOf F), (237, c_M_seenFrom F), (240, c_M_isIn F)]) := jC_ok (List.forall_mem_cons.mpr ⟨(co_M_spotOf F).up (by omega), List.forall_mem_cons.mpr ⟨(co_M_cellAt F).up (by omega), List.forall_mem_cons.mpr ⟨(co_M_costOf F).up (by omega), List.forall_mem_cons.mpr ⟨(co_M_seenFrom F).up (by omega), List.forall_mem_cons.mpr ⟨(co_M_isIn F).up (by omega), fun _ h => absurd h List.not_mem_nil⟩⟩⟩⟩⟩)
theorem g_M_stepNow_43 (F : Nat × Nat) : ∀ f, jG M_M_stepNow (8 + 2 * F.2) 43 (r_M_stepNow_43 (m_M_stepNow_43 F f))
  | 0 => jG.no (fun L S h => by unfold r_M_stepNow_43; split <;> rfl)
  | f + 1 => (jst_ok ok_M_stepNow (hc_M_stepNow F) (jrun_ok ok_M_stepNow (hc_M_stepNow F) (jT_ok (List.forall_mem_cons.mpr ⟨g_M_stepNow_43 F f, fun _ h => absurd h List.not_mem_nil⟩)) 62) 43).of (fun L S h out e => by unfold r_M_stepNow_43 at e; split at e; exact (e_M_stepNow_43 F f _ _ _ _ _ _ _ _).symm.trans e; cases e)
theorem k_M_stepNow (F : Nat × Nat) (o : Nat) (a1 : Int32) (a2 : Int32) (h : jH) (r : Option Value) (h1 : jH) (e : m_M_stepNow F o a1 a2 h = some (r, h1)) : jM1 (8 + 2 * F.2) 236 [.ref o, .int a1, .int a2] h r h1 := jM_of (M := M_M_stepNow) mok_M_stepNow (by decide +kernel) (by decide +kernel) (Or.inl ⟨rfl, rfl⟩) (fun q => nomatch q) (jrun_ok ok_M_stepNow (hc_M_stepNow F) (jT_ok (List.forall_mem_cons.mpr ⟨g_M_stepNow_43 F F.1, fun _ h => absurd h List.not_mem_nil⟩)) 62 0) (List.all_eq_true.mp rfl) (Nat.le_of_ble_eq_true rfl) (fun E => Nat.le_of_ble_eq_true rfl) ((e_M_stepNow F o a1 a2 h).symm.trans e)
theorem co_M_stepNow (F : Nat × Nat) : jc_ok (8 + 2 * F.2 + 1) 236 (c_M_stepNow F) := by
  intro as h k out e
  unfold c_M_stepNow at e
  split at e
  · obtain ⟨a0, rfl, e1⟩ := js_rv e
    obtain ⟨hg, e2⟩ := js_if e1
    obtain ⟨r, h1, hm, e3⟩ := js_jbI e2
    exact ⟨_, _, _, Nat.le_refl _, k_M_stepNow F _ _ _ _ _ _ hm, ⟨fun _ => ⟨_, _, rfl, Or.inl ⟨7, by decide, hg, by decide +kernel⟩⟩, fun q => absurd q (by decide +kernel)⟩, e3⟩
  · cases e
def c_M_stepsKept (F : Nat × Nat) : jc1 := fun args h k => match args with
  | [w0, .int a1, .int a2] => j_rv w0 fun a0 => if j_k h a0 = 17 then (jbI (m_M_stepsKept F a0 a1 a2 h) fun r h => k (some (.int r)) h) else none
  | _ => none
set_option maxRecDepth 100000 in
theorem e_M_stepsKept (F : Nat × Nat) (o : Nat) (a1 : Int32) (a2 : Int32) (h : jH) : m_M_stepsKept F o a1 a2 h = jrun (j_C [(172, c_M_isWalker F), (192, c_M_isWay F), (234, c_M_canStep F), (235, c_M_keeps F), (236, c_M_stepNow F)]) 0 cd_M_stepsKept (j_T []) 31 0 [some (.ref o), some (.int a1), some (.int a2)] [] h := rfl
theorem hc_M_stepsKept (F : Nat × Nat) : jCok (9 + 2 * F.2) (j_C [(172, c_M_isWalker F), (192, c_M_isWay F), (234, c_M_canStep F), (235, c_M_keeps F), (236, c_M_stepNow F)]) := jC_ok (List.forall_mem_cons.mpr ⟨(co_M_isWalker F).up (by omega), List.forall_mem_cons.mpr ⟨(co_M_isWay F).up (by omega), List.forall_mem_cons.mpr ⟨(co_M_canStep F).up (by omega), List.forall_mem_cons.mpr ⟨(co_M_keeps F).up (by omega), List.forall_mem_cons.mpr ⟨(co_M_stepNow F).up (by omega), fun _ h => absurd h List.not_mem_nil⟩⟩⟩⟩⟩)
theorem k_M_stepsKept (F : Nat × Nat) (o : Nat) (a1 : Int32) (a2 : Int32) (h : jH) (r : Option Value) (h1 : jH) (e : m_M_stepsKept F o a1 a2 h = some (r, h1)) : jM1 (9 + 2 * F.2) 233 [.ref o, .int a1, .int a2] h r h1 := jM_of (M := M_M_stepsKept) mok_M_stepsKept (by decide +kernel) (by decide +kernel) (Or.inl ⟨rfl, rfl⟩) (fun q => nomatch q) (jrun_ok ok_M_stepsKept (hc_M_stepsKept F) (jT_ok (fun _ h => absurd h List.not_mem_nil)) 31 0) (List.all_eq_true.mp rfl) (Nat.le_of_ble_eq_true rfl) (fun E => Nat.le_of_ble_eq_true rfl) ((e_M_stepsKept F o a1 a2 h).symm.trans e)
theorem co_M_stepsKept (F : Nat × Nat) : jc_ok (9 + 2 * F.2 + 1) 233 (c_M_stepsKept F) := by
  intro as h k out e
  unfold c_M_stepsKept at e
  split at e
  · obtain ⟨a0, rfl, e1⟩ := js_rv e
    obtain ⟨hg, e2⟩ := js_if e1
    obtain ⟨r, h1, hm, e3⟩ := js_jbI e2
    exact ⟨_, _, _, Nat.le_refl _, k_M_stepsKept F _ _ _ _ _ _ hm, ⟨fun _ => ⟨_, _, rfl, Or.inl ⟨7, by decide, hg, by decide +kernel⟩⟩, fun q => absurd q (by decide +kernel)⟩, e3⟩
  · cases e
def c_M_goodOr (F : Nat × Nat) : jc1 := fun args h k => match args with
  | [w0, .int a1] => j_rv w0 fun a0 => if j_k h a0 = 17 then (jbI (m_M_goodOr F a0 a1 h) fun r h => k (some (.int r)) h) else none
  | _ => none
set_option maxRecDepth 100000 in
theorem e_M_goodOr (F : Nat × Nat) (o : Nat) (a1 : Int32) (h : jH) : m_M_goodOr F o a1 h = jrun (j_C [(158, c_M_refuses F), (159, c_M_good F)]) 0 cd_M_goodOr (j_T []) 15 0 [some (.ref o), some (.int a1)] [] h := rfl
theorem hc_M_goodOr (F : Nat × Nat) : jCok (1 + 0 * F.2) (j_C [(158, c_M_refuses F), (159, c_M_good F)]) := jC_ok (List.forall_mem_cons.mpr ⟨(co_M_refuses F).up (by omega), List.forall_mem_cons.mpr ⟨(co_M_good F).up (by omega), fun _ h => absurd h List.not_mem_nil⟩⟩)
theorem k_M_goodOr (F : Nat × Nat) (o : Nat) (a1 : Int32) (h : jH) (r : Option Value) (h1 : jH) (e : m_M_goodOr F o a1 h = some (r, h1)) : jM1 (1 + 0 * F.2) 241 [.ref o, .int a1] h r h1 := jM_of (M := M_M_goodOr) mok_M_goodOr (by decide +kernel) (by decide +kernel) (Or.inl ⟨rfl, rfl⟩) (fun q => nomatch q) (jrun_ok ok_M_goodOr (hc_M_goodOr F) (jT_ok (fun _ h => absurd h List.not_mem_nil)) 15 0) (List.all_eq_true.mp rfl) (Nat.le_of_ble_eq_true rfl) (fun E => Nat.le_of_ble_eq_true rfl) ((e_M_goodOr F o a1 h).symm.trans e)
theorem co_M_goodOr (F : Nat × Nat) : jc_ok (1 + 0 * F.2 + 1) 241 (c_M_goodOr F) := by
  intro as h k out e
  unfold c_M_goodOr at e
  split at e
  · obtain ⟨a0, rfl, e1⟩ := js_rv e
    obtain ⟨hg, e2⟩ := js_if e1
    obtain ⟨r, h1, hm, e3⟩ := js_jbI e2
    exact ⟨_, _, _, Nat.le_refl _, k_M_goodOr F _ _ _ _ _ hm, ⟨fun _ => ⟨_, _, rfl, Or.inl ⟨7, by decide, hg, by decide +kernel⟩⟩, fun q => absurd q (by decide +kernel)⟩, e3⟩
  · cases e
def c_M_step (F : Nat × Nat) : jc1 := fun args h k => match args with
  | [w0, .int a1, .int a2] => j_rv w0 fun a0 => if j_k h a0 = 17 then (jbI (m_M_step F a0 a1 a2 h) fun r h => k (some (.int r)) h) else none
  | _ => none
set_option maxRecDepth 100000 in
theorem e_M_step (F : Nat × Nat) (o : Nat) (a1 : Int32) (a2 : Int32) (h : jH) : m_M_step F o a1 a2 h = jrun (j_C [(233, c_M_stepsKept F), (241, c_M_goodOr F)]) 0 cd_M_step (j_T []) 12 0 [some (.ref o), some (.int a1), some (.int a2)] [] h := rfl
theorem hc_M_step (F : Nat × Nat) : jCok (10 + 2 * F.2) (j_C [(233, c_M_stepsKept F), (241, c_M_goodOr F)]) := jC_ok (List.forall_mem_cons.mpr ⟨(co_M_stepsKept F).up (by omega), List.forall_mem_cons.mpr ⟨(co_M_goodOr F).up (by omega), fun _ h => absurd h List.not_mem_nil⟩⟩)
theorem k_M_step (F : Nat × Nat) (o : Nat) (a1 : Int32) (a2 : Int32) (h : jH) (r : Option Value) (h1 : jH) (e : m_M_step F o a1 a2 h = some (r, h1)) : jM1 (10 + 2 * F.2) 232 [.ref o, .int a1, .int a2] h r h1 := jM_of (M := M_M_step) mok_M_step (by decide +kernel) (by decide +kernel) (Or.inl ⟨rfl, rfl⟩) (fun q => nomatch q) (jrun_ok ok_M_step (hc_M_step F) (jT_ok (fun _ h => absurd h List.not_mem_nil)) 12 0) (List.all_eq_true.mp rfl) (Nat.le_of_ble_eq_true rfl) (fun E => Nat.le_of_ble_eq_true rfl) ((e_M_step F o a1 a2 h).symm.trans e)
theorem co_M_step (F : Nat × Nat) : jc_ok (10 + 2 * F.2 + 1) 232 (c_M_step F) := by
  intro as h k out e
  unfold c_M_step at e
  split at e
  · obtain ⟨a0, rfl, e1⟩ := js_rv e
    obtain ⟨hg, e2⟩ := js_if e1
    obtain ⟨r, h1, hm, e3⟩ := js_jbI e2
    exact ⟨_, _, _, Nat.le_refl _, k_M_step F _ _ _ _ _ _ hm, ⟨fun _ => ⟨_, _, rfl, Or.inl ⟨7, by decide, hg, by decide +kernel⟩⟩, fun q => absurd q (by decide +kernel)⟩, e3⟩
  · cases e
def r_M_joinNow_40 (g : Nat → Int32 → Int32 → Int32 → Int32 → Int32 → Int32 → jH → Option jO) : jL → List Value → jH → Option jO := fun L S h => match L, S with
  | [some (.ref v0), some (.int v1), some (.int v2), some (.int v3), some (.int v4), some (.int v5), some (.int v6)], [] => g v0 v1 v2 v3 v4 v5 v6 h
  | _, _ => none
def r_M_joinNow_5 (g : Nat → Int32 → Int32 → Int32 → Int32 → jH → Option jO) : jL → List Value → jH → Option jO := fun L S h => match L, S with
  | [some (.ref v0), some (.int v1), some (.int v2), some (.int v3), some (.int v4), _, _], [] => g v0 v1 v2 v3 v4 h
  | _, _ => none
def c_M_joinNow (F : Nat × Nat) : jc1 := fun args h k => match args with
  | [w0, .int a1, .int a2] => j_rv w0 fun a0 => if j_k h a0 = 17 then (jbI (m_M_joinNow F a0 a1 a2 h) fun r h => k (some (.int r)) h) else none
  | _ => none
set_option maxRecDepth 100000 in
theorem e_M_joinNow_40 (F : Nat × Nat) (k5 : Nat → Int32 → Int32 → Int32 → Int32 → jH → Option jO) (v0 : Nat) (v1 : Int32) (v2 : Int32) (v3 : Int32) (v4 : Int32) (v5 : Int32) (v6 : Int32) (h : jH) : m_M_joinNow_40 F k5 v0 v1 v2 v3 v4 v5 v6 h = jst (j_C [(174, c_M_onSheet F)]) 0 (cd_M_joinNow 40) [some (.ref v0), some (.int v1), some (.int v2), some (.int v3), some (.int v4), some (.int v5), some (.int v6)] [] h (jrun (j_C [(174, c_M_onSheet F)]) 0 cd_M_joinNow (j_T [(5, r_M_joinNow_5 k5)]) 62) := rfl
set_option maxRecDepth 100000 in
theorem e_M_joinNow_5 (F : Nat × Nat) (f : Nat) (v0 : Nat) (v1 : Int32) (v2 : Int32) (v3 : Int32) (v4 : Int32) (u1 : Option Value) (u2 : Option Value) (h : jH) : m_M_joinNow_5 F (f + 1) v0 v1 v2 v3 v4 h = jst (j_C [(174, c_M_onSheet F)]) 0 (cd_M_joinNow 5) [some (.ref v0), some (.int v1), some (.int v2), some (.int v3), some (.int v4), u1, u2] [] h (jrun (j_C [(174, c_M_onSheet F)]) 0 cd_M_joinNow (j_T [(5, r_M_joinNow_5 (m_M_joinNow_5 F f)), (40, r_M_joinNow_40 (m_M_joinNow_40 F (m_M_joinNow_5 F f)))]) 62) := rfl
set_option maxRecDepth 100000 in
theorem e_M_joinNow (F : Nat × Nat) (o : Nat) (a1 : Int32) (a2 : Int32) (h : jH) : m_M_joinNow F o a1 a2 h = jrun (j_C [(174, c_M_onSheet F)]) 0 cd_M_joinNow (j_T [(5, r_M_joinNow_5 (m_M_joinNow_5 F F.1))]) 62 0 [some (.ref o), some (.int a1), some (.int a2), none, none, none, none] [] h := rfl
theorem hc_M_joinNow (F : Nat × Nat) : jCok (1 + 0 * F.2) (j_C [(174, c_M_onSheet F)]) := jC_ok (List.forall_mem_cons.mpr ⟨(co_M_onSheet F).up (by omega), fun _ h => absurd h List.not_mem_nil⟩)
theorem g_M_joinNow_40 (F : Nat × Nat) (k5 : Nat → Int32 → Int32 → Int32 → Int32 → jH → Option jO) (hk5 : jG M_M_joinNow (1 + 0 * F.2) 5 (r_M_joinNow_5 k5)) : jG M_M_joinNow (1 + 0 * F.2) 40 (r_M_joinNow_40 (m_M_joinNow_40 F k5)) := (jst_ok ok_M_joinNow (hc_M_joinNow F) (jrun_ok ok_M_joinNow (hc_M_joinNow F) (jT_ok (List.forall_mem_cons.mpr ⟨hk5, fun _ h => absurd h List.not_mem_nil⟩)) 62) 40).of (fun L S h out e => by unfold r_M_joinNow_40 at e; split at e; exact (e_M_joinNow_40 F k5 _ _ _ _ _ _ _ _).symm.trans e; cases e)
theorem g_M_joinNow_5 (F : Nat × Nat) : ∀ f, jG M_M_joinNow (1 + 0 * F.2) 5 (r_M_joinNow_5 (m_M_joinNow_5 F f))
  | 0 => jG.no (fun L S h => by unfold r_M_joinNow_5; split <;> rfl)
  | f + 1 => (jst_ok ok_M_joinNow (hc_M_joinNow F) (jrun_ok ok_M_joinNow (hc_M_joinNow F) (jT_ok (List.forall_mem_cons.mpr ⟨g_M_joinNow_5 F f, List.forall_mem_cons.mpr ⟨g_M_joinNow_40 F _ (g_M_joinNow_5 F f), fun _ h => absurd h List.not_mem_nil⟩⟩)) 62) 5).of (fun L S h out e => by unfold r_M_joinNow_5 at e; split at e; exact (e_M_joinNow_5 F f _ _ _ _ _ _ _ _).symm.trans e; cases e)
theorem k_M_joinNow (F : Nat × Nat) (o : Nat) (a1 : Int32) (a2 : Int32) (h : jH) (r : Option Value) (h1 : jH) (e : m_M_joinNow F o a1 a2 h = some (r, h1)) : jM1 (1 + 0 * F.2) 244 [.ref o, .int a1, .int a2] h r h1 := jM_of (M := M_M_joinNow) mok_M_joinNow (by decide +kernel) (by decide +kernel) (Or.inl ⟨rfl, rfl⟩) (fun q => nomatch q) (jrun_ok ok_M_joinNow (hc_M_joinNow F) (jT_ok (List.forall_mem_cons.mpr ⟨g_M_joinNow_5 F F.1, fun _ h => absurd h List.not_mem_nil⟩)) 62 0) (List.all_eq_true.mp rfl) (Nat.le_of_ble_eq_true rfl) (fun E => Nat.le_of_ble_eq_true rfl) ((e_M_joinNow F o a1 a2 h).symm.trans e)
theorem co_M_joinNow (F : Nat × Nat) : jc_ok (1 + 0 * F.2 + 1) 244 (c_M_joinNow F) := by
  intro as h k out e
  unfold c_M_joinNow at e
  split at e
  · obtain ⟨a0, rfl, e1⟩ := js_rv e
    obtain ⟨hg, e2⟩ := js_if e1
    obtain ⟨r, h1, hm, e3⟩ := js_jbI e2
    exact ⟨_, _, _, Nat.le_refl _, k_M_joinNow F _ _ _ _ _ _ hm, ⟨fun _ => ⟨_, _, rfl, Or.inl ⟨7, by decide, hg, by decide +kernel⟩⟩, fun q => absurd q (by decide +kernel)⟩, e3⟩
  · cases e
def c_M_joinsKept (F : Nat × Nat) : jc1 := fun args h k => match args with
  | [w0, .int a1, .int a2] => j_rv w0 fun a0 => if j_k h a0 = 17 then (jbI (m_M_joinsKept F a0 a1 a2 h) fun r h => k (some (.int r)) h) else none
  | _ => none
set_option maxRecDepth 100000 in
theorem e_M_joinsKept (F : Nat × Nat) (o : Nat) (a1 : Int32) (a2 : Int32) (h : jH) : m_M_joinsKept F o a1 a2 h = jrun (j_C [(169, c_M_spotOf F), (172, c_M_isWalker F), (235, c_M_keeps F), (244, c_M_joinNow F)]) 0 cd_M_joinsKept (j_T []) 37 0 [some (.ref o), some (.int a1), some (.int a2)] [] h := rfl
theorem hc_M_joinsKept (F : Nat × Nat) : jCok (2 + 0 * F.2) (j_C [(169, c_M_spotOf F), (172, c_M_isWalker F), (235, c_M_keeps F), (244, c_M_joinNow F)]) := jC_ok (List.forall_mem_cons.mpr ⟨(co_M_spotOf F).up (by omega), List.forall_mem_cons.mpr ⟨(co_M_isWalker F).up (by omega), List.forall_mem_cons.mpr ⟨(co_M_keeps F).up (by omega), List.forall_mem_cons.mpr ⟨(co_M_joinNow F).up (by omega), fun _ h => absurd h List.not_mem_nil⟩⟩⟩⟩)
theorem k_M_joinsKept (F : Nat × Nat) (o : Nat) (a1 : Int32) (a2 : Int32) (h : jH) (r : Option Value) (h1 : jH) (e : m_M_joinsKept F o a1 a2 h = some (r, h1)) : jM1 (2 + 0 * F.2) 243 [.ref o, .int a1, .int a2] h r h1 := jM_of (M := M_M_joinsKept) mok_M_joinsKept (by decide +kernel) (by decide +kernel) (Or.inl ⟨rfl, rfl⟩) (fun q => nomatch q) (jrun_ok ok_M_joinsKept (hc_M_joinsKept F) (jT_ok (fun _ h => absurd h List.not_mem_nil)) 37 0) (List.all_eq_true.mp rfl) (Nat.le_of_ble_eq_true rfl) (fun E => Nat.le_of_ble_eq_true rfl) ((e_M_joinsKept F o a1 a2 h).symm.trans e)
theorem co_M_joinsKept (F : Nat × Nat) : jc_ok (2 + 0 * F.2 + 1) 243 (c_M_joinsKept F) := by
  intro as h k out e
  unfold c_M_joinsKept at e
  split at e
  · obtain ⟨a0, rfl, e1⟩ := js_rv e
    obtain ⟨hg, e2⟩ := js_if e1
    obtain ⟨r, h1, hm, e3⟩ := js_jbI e2
    exact ⟨_, _, _, Nat.le_refl _, k_M_joinsKept F _ _ _ _ _ _ hm, ⟨fun _ => ⟨_, _, rfl, Or.inl ⟨7, by decide, hg, by decide +kernel⟩⟩, fun q => absurd q (by decide +kernel)⟩, e3⟩
  · cases e
def c_M_join (F : Nat × Nat) : jc1 := fun args h k => match args with
  | [w0, .int a1, .int a2] => j_rv w0 fun a0 => if j_k h a0 = 17 then (jbI (m_M_join F a0 a1 a2 h) fun r h => k (some (.int r)) h) else none
  | _ => none
set_option maxRecDepth 100000 in
theorem e_M_join (F : Nat × Nat) (o : Nat) (a1 : Int32) (a2 : Int32) (h : jH) : m_M_join F o a1 a2 h = jrun (j_C [(241, c_M_goodOr F), (243, c_M_joinsKept F)]) 0 cd_M_join (j_T []) 12 0 [some (.ref o), some (.int a1), some (.int a2)] [] h := rfl
theorem hc_M_join (F : Nat × Nat) : jCok (3 + 0 * F.2) (j_C [(241, c_M_goodOr F), (243, c_M_joinsKept F)]) := jC_ok (List.forall_mem_cons.mpr ⟨(co_M_goodOr F).up (by omega), List.forall_mem_cons.mpr ⟨(co_M_joinsKept F).up (by omega), fun _ h => absurd h List.not_mem_nil⟩⟩)
theorem k_M_join (F : Nat × Nat) (o : Nat) (a1 : Int32) (a2 : Int32) (h : jH) (r : Option Value) (h1 : jH) (e : m_M_join F o a1 a2 h = some (r, h1)) : jM1 (3 + 0 * F.2) 242 [.ref o, .int a1, .int a2] h r h1 := jM_of (M := M_M_join) mok_M_join (by decide +kernel) (by decide +kernel) (Or.inl ⟨rfl, rfl⟩) (fun q => nomatch q) (jrun_ok ok_M_join (hc_M_join F) (jT_ok (fun _ h => absurd h List.not_mem_nil)) 12 0) (List.all_eq_true.mp rfl) (Nat.le_of_ble_eq_true rfl) (fun E => Nat.le_of_ble_eq_true rfl) ((e_M_join F o a1 a2 h).symm.trans e)
theorem co_M_join (F : Nat × Nat) : jc_ok (3 + 0 * F.2 + 1) 242 (c_M_join F) := by
  intro as h k out e
  unfold c_M_join at e
  split at e
  · obtain ⟨a0, rfl, e1⟩ := js_rv e
    obtain ⟨hg, e2⟩ := js_if e1
    obtain ⟨r, h1, hm, e3⟩ := js_jbI e2
    exact ⟨_, _, _, Nat.le_refl _, k_M_join F _ _ _ _ _ _ hm, ⟨fun _ => ⟨_, _, rfl, Or.inl ⟨7, by decide, hg, by decide +kernel⟩⟩, fun q => absurd q (by decide +kernel)⟩, e3⟩
  · cases e
def c_M_smearsKept (F : Nat × Nat) : jc1 := fun args h k => match args with
  | [w0, .int a1, .int a2] => j_rv w0 fun a0 => if j_k h a0 = 17 then (jbI (m_M_smearsKept F a0 a1 a2 h) fun r h => k (some (.int r)) h) else none
  | _ => none
set_option maxRecDepth 100000 in
theorem e_M_smearsKept (F : Nat × Nat) (o : Nat) (a1 : Int32) (a2 : Int32) (h : jH) : m_M_smearsKept F o a1 a2 h = jrun (j_C [(164, c_M_isCell F), (172, c_M_isWalker F), (173, c_M_sheetOf F), (174, c_M_onSheet F), (175, c_M_ones F), (235, c_M_keeps F)]) 0 cd_M_smearsKept (j_T []) 42 0 [some (.ref o), some (.int a1), some (.int a2)] [] h := rfl
theorem hc_M_smearsKept (F : Nat × Nat) : jCok (2 + 0 * F.2) (j_C [(164, c_M_isCell F), (172, c_M_isWalker F), (173, c_M_sheetOf F), (174, c_M_onSheet F), (175, c_M_ones F), (235, c_M_keeps F)]) := jC_ok (List.forall_mem_cons.mpr ⟨(co_M_isCell F).up (by omega), List.forall_mem_cons.mpr ⟨(co_M_isWalker F).up (by omega), List.forall_mem_cons.mpr ⟨(co_M_sheetOf F).up (by omega), List.forall_mem_cons.mpr ⟨(co_M_onSheet F).up (by omega), List.forall_mem_cons.mpr ⟨(co_M_ones F).up (by omega), List.forall_mem_cons.mpr ⟨(co_M_keeps F).up (by omega), fun _ h => absurd h List.not_mem_nil⟩⟩⟩⟩⟩⟩)
theorem k_M_smearsKept (F : Nat × Nat) (o : Nat) (a1 : Int32) (a2 : Int32) (h : jH) (r : Option Value) (h1 : jH) (e : m_M_smearsKept F o a1 a2 h = some (r, h1)) : jM1 (2 + 0 * F.2) 246 [.ref o, .int a1, .int a2] h r h1 := jM_of (M := M_M_smearsKept) mok_M_smearsKept (by decide +kernel) (by decide +kernel) (Or.inl ⟨rfl, rfl⟩) (fun q => nomatch q) (jrun_ok ok_M_smearsKept (hc_M_smearsKept F) (jT_ok (fun _ h => absurd h List.not_mem_nil)) 42 0) (List.all_eq_true.mp rfl) (Nat.le_of_ble_eq_true rfl) (fun E => Nat.le_of_ble_eq_true rfl) ((e_M_smearsKept F o a1 a2 h).symm.trans e)
theorem co_M_smearsKept (F : Nat × Nat) : jc_ok (2 + 0 * F.2 + 1) 246 (c_M_smearsKept F) := by
  intro as h k out e
  unfold c_M_smearsKept at e
  split at e
  · obtain ⟨a0, rfl, e1⟩ := js_rv e
    obtain ⟨hg, e2⟩ := js_if e1
    obtain ⟨r, h1, hm, e3⟩ := js_jbI e2
    exact ⟨_, _, _, Nat.le_refl _, k_M_smearsKept F _ _ _ _ _ _ hm, ⟨fun _ => ⟨_, _, rfl, Or.inl ⟨7, by decide, hg, by decide +kernel⟩⟩, fun q => absurd q (by decide +kernel)⟩, e3⟩
  · cases e
def c_M_smear (F : Nat × Nat) : jc1 := fun args h k => match args with
  | [w0, .int a1, .int a2] => j_rv w0 fun a0 => if j_k h a0 = 17 then (jbI (m_M_smear F a0 a1 a2 h) fun r h => k (some (.int r)) h) else none
  | _ => none
set_option maxRecDepth 100000 in
theorem e_M_smear (F : Nat × Nat) (o : Nat) (a1 : Int32) (a2 : Int32) (h : jH) : m_M_smear F o a1 a2 h = jrun (j_C [(241, c_M_goodOr F), (246, c_M_smearsKept F)]) 0 cd_M_smear (j_T []) 12 0 [some (.ref o), some (.int a1), some (.int a2)] [] h := rfl
theorem hc_M_smear (F : Nat × Nat) : jCok (3 + 0 * F.2) (j_C [(241, c_M_goodOr F), (246, c_M_smearsKept F)]) := jC_ok (List.forall_mem_cons.mpr ⟨(co_M_goodOr F).up (by omega), List.forall_mem_cons.mpr ⟨(co_M_smearsKept F).up (by omega), fun _ h => absurd h List.not_mem_nil⟩⟩)
theorem k_M_smear (F : Nat × Nat) (o : Nat) (a1 : Int32) (a2 : Int32) (h : jH) (r : Option Value) (h1 : jH) (e : m_M_smear F o a1 a2 h = some (r, h1)) : jM1 (3 + 0 * F.2) 245 [.ref o, .int a1, .int a2] h r h1 := jM_of (M := M_M_smear) mok_M_smear (by decide +kernel) (by decide +kernel) (Or.inl ⟨rfl, rfl⟩) (fun q => nomatch q) (jrun_ok ok_M_smear (hc_M_smear F) (jT_ok (fun _ h => absurd h List.not_mem_nil)) 12 0) (List.all_eq_true.mp rfl) (Nat.le_of_ble_eq_true rfl) (fun E => Nat.le_of_ble_eq_true rfl) ((e_M_smear F o a1 a2 h).symm.trans e)
theorem co_M_smear (F : Nat × Nat) : jc_ok (3 + 0 * F.2 + 1) 245 (c_M_smear F) := by
  intro as h k out e
  unfold c_M_smear at e
  split at e
  · obtain ⟨a0, rfl, e1⟩ := js_rv e
    obtain ⟨hg, e2⟩ := js_if e1
    obtain ⟨r, h1, hm, e3⟩ := js_jbI e2
    exact ⟨_, _, _, Nat.le_refl _, k_M_smear F _ _ _ _ _ _ hm, ⟨fun _ => ⟨_, _, rfl, Or.inl ⟨7, by decide, hg, by decide +kernel⟩⟩, fun q => absurd q (by decide +kernel)⟩, e3⟩
  · cases e
def c_M_passesKept (F : Nat × Nat) : jc1 := fun args h k => match args with
  | [w0] => j_rv w0 fun a0 => if j_k h a0 = 17 then (jbI (m_M_passesKept F a0 h) fun r h => k (some (.int r)) h) else none
  | _ => none
set_option maxRecDepth 100000 in
theorem e_M_passesKept (F : Nat × Nat) (o : Nat) (h : jH) : m_M_passesKept F o h = jrun (j_C [(235, c_M_keeps F)]) 0 cd_M_passesKept (j_T []) 29 0 [some (.ref o)] [] h := rfl
theorem hc_M_passesKept (F : Nat × Nat) : jCok (1 + 0 * F.2) (j_C [(235, c_M_keeps F)]) := jC_ok (List.forall_mem_cons.mpr ⟨(co_M_keeps F).up (by omega), fun _ h => absurd h List.not_mem_nil⟩)
theorem k_M_passesKept (F : Nat × Nat) (o : Nat) (h : jH) (r : Option Value) (h1 : jH) (e : m_M_passesKept F o h = some (r, h1)) : jM1 (1 + 0 * F.2) 248 [.ref o] h r h1 := jM_of (M := M_M_passesKept) mok_M_passesKept (by decide +kernel) (by decide +kernel) (Or.inl ⟨rfl, rfl⟩) (fun q => nomatch q) (jrun_ok ok_M_passesKept (hc_M_passesKept F) (jT_ok (fun _ h => absurd h List.not_mem_nil)) 29 0) (List.all_eq_true.mp rfl) (Nat.le_of_ble_eq_true rfl) (fun E => Nat.le_of_ble_eq_true rfl) ((e_M_passesKept F o h).symm.trans e)
theorem co_M_passesKept (F : Nat × Nat) : jc_ok (1 + 0 * F.2 + 1) 248 (c_M_passesKept F) := by
  intro as h k out e
  unfold c_M_passesKept at e
  split at e
  · obtain ⟨a0, rfl, e1⟩ := js_rv e
    obtain ⟨hg, e2⟩ := js_if e1
    obtain ⟨r, h1, hm, e3⟩ := js_jbI e2
    exact ⟨_, _, _, Nat.le_refl _, k_M_passesKept F _ _ _ _ hm, ⟨fun _ => ⟨_, _, rfl, Or.inl ⟨7, by decide, hg, by decide +kernel⟩⟩, fun q => absurd q (by decide +kernel)⟩, e3⟩
  · cases e
def c_M_pass (F : Nat × Nat) : jc1 := fun args h k => match args with
  | [w0] => j_rv w0 fun a0 => if j_k h a0 = 17 then (jbI (m_M_pass F a0 h) fun r h => k (some (.int r)) h) else none
  | _ => none
set_option maxRecDepth 100000 in
theorem e_M_pass (F : Nat × Nat) (o : Nat) (h : jH) : m_M_pass F o h = jrun (j_C [(241, c_M_goodOr F), (248, c_M_passesKept F)]) 0 cd_M_pass (j_T []) 10 0 [some (.ref o)] [] h := rfl
theorem hc_M_pass (F : Nat × Nat) : jCok (2 + 0 * F.2) (j_C [(241, c_M_goodOr F), (248, c_M_passesKept F)]) := jC_ok (List.forall_mem_cons.mpr ⟨(co_M_goodOr F).up (by omega), List.forall_mem_cons.mpr ⟨(co_M_passesKept F).up (by omega), fun _ h => absurd h List.not_mem_nil⟩⟩)
theorem k_M_pass (F : Nat × Nat) (o : Nat) (h : jH) (r : Option Value) (h1 : jH) (e : m_M_pass F o h = some (r, h1)) : jM1 (2 + 0 * F.2) 247 [.ref o] h r h1 := jM_of (M := M_M_pass) mok_M_pass (by decide +kernel) (by decide +kernel) (Or.inl ⟨rfl, rfl⟩) (fun q => nomatch q) (jrun_ok ok_M_pass (hc_M_pass F) (jT_ok (fun _ h => absurd h List.not_mem_nil)) 10 0) (List.all_eq_true.mp rfl) (Nat.le_of_ble_eq_true rfl) (fun E => Nat.le_of_ble_eq_true rfl) ((e_M_pass F o h).symm.trans e)
theorem co_M_pass (F : Nat × Nat) : jc_ok (2 + 0 * F.2 + 1) 247 (c_M_pass F) := by
  intro as h k out e
  unfold c_M_pass at e
  split at e
  · obtain ⟨a0, rfl, e1⟩ := js_rv e
    obtain ⟨hg, e2⟩ := js_if e1
    obtain ⟨r, h1, hm, e3⟩ := js_jbI e2
    exact ⟨_, _, _, Nat.le_refl _, k_M_pass F _ _ _ _ hm, ⟨fun _ => ⟨_, _, rfl, Or.inl ⟨7, by decide, hg, by decide +kernel⟩⟩, fun q => absurd q (by decide +kernel)⟩, e3⟩
  · cases e
def c_M_allCells (F : Nat × Nat) : jc1 := fun args h k => match args with
  | [] => jbI (m_M_allCells F h) fun r h => k (some (.int r)) h
  | _ => none
set_option maxRecDepth 100000 in
theorem e_M_allCells (F : Nat × Nat) (h : jH) : m_M_allCells F h = jrun (j_C []) 0 cd_M_allCells (j_T []) 7 0 [] [] h := rfl
theorem hc_M_allCells (F : Nat × Nat) : jCok (0 + 0 * F.2) (j_C []) := jC_ok (fun _ h => absurd h List.not_mem_nil)
theorem k_M_allCells (F : Nat × Nat) (h : jH) (r : Option Value) (h1 : jH) (e : m_M_allCells F h = some (r, h1)) : jM1 (0 + 0 * F.2) 250 [] h r h1 := jM_of (M := M_M_allCells) mok_M_allCells (by decide +kernel) (by decide +kernel) (Or.inl ⟨rfl, rfl⟩) (fun q => nomatch q) (jrun_ok ok_M_allCells (hc_M_allCells F) (jT_ok (fun _ h => absurd h List.not_mem_nil)) 7 0) (List.all_eq_true.mp rfl) (Nat.le_of_ble_eq_true rfl) (fun E => Nat.le_of_ble_eq_true rfl) ((e_M_allCells F h).symm.trans e)
theorem co_M_allCells (F : Nat × Nat) : jc_ok (0 + 0 * F.2 + 1) 250 (c_M_allCells F) := by
  intro as h k out e
  unfold c_M_allCells at e
  split at e
  · obtain ⟨r, h1, hm, e1⟩ := js_jbI e
    exact ⟨_, _, _, Nat.le_refl _, k_M_allCells F _ _ _ hm, ⟨fun q => absurd q (by decide +kernel), fun q => absurd q (by decide +kernel)⟩, e1⟩
  · cases e
def r_M_laysSteps_11 (g : Nat → Int32 → Int32 → Int32 → Int32 → jH → Option jO) : jL → List Value → jH → Option jO := fun L S h => match L, S with
  | [some (.ref v0), some (.int v1), some (.int v2), some (.int v3), some (.int v4), _], [] => g v0 v1 v2 v3 v4 h
  | _, _ => none
def r_M_laysSteps_2 (g : Nat → Int32 → Int32 → Int32 → jH → Option jO) : jL → List Value → jH → Option jO := fun L S h => match L, S with
  | [some (.ref v0), some (.int v1), some (.int v2), some (.int v3), _, _], [] => g v0 v1 v2 v3 h
  | _, _ => none
def c_M_laysSteps (F : Nat × Nat) : jc1 := fun args h k => match args with
  | [w0, .int a1, .int a2] => j_rv w0 fun a0 => if j_k h a0 = 17 then (jbV (m_M_laysSteps F a0 a1 a2 h) fun h => k none h) else none
  | _ => none
set_option maxRecDepth 100000 in
theorem e_M_laysSteps_11 (F : Nat × Nat) (k2 : Nat → Int32 → Int32 → Int32 → jH → Option jO) (f : Nat) (v0 : Nat) (v1 : Int32) (v2 : Int32) (v3 : Int32) (v4 : Int32) (u1 : Option Value) (h : jH) : m_M_laysSteps_11 F k2 (f + 1) v0 v1 v2 v3 v4 h = jst (j_C [(193, c_M_cellAt F), (194, c_M_costOf F), (195, c_M_isBarred F), (240, c_M_isIn F)]) 4 (cd_M_laysSteps 11) [some (.ref v0), some (.int v1), some (.int v2), some (.int v3), some (.int v4), u1] [] h (jrun (j_C [(193, c_M_cellAt F), (194, c_M_costOf F), (195, c_M_isBarred F), (240, c_M_isIn F)]) 4 cd_M_laysSteps (j_T [(2, r_M_laysSteps_2 k2), (11, r_M_laysSteps_11 (m_M_laysSteps_11 F k2 f))]) 52) := rfl
set_option maxRecDepth 100000 in
theorem e_M_laysSteps_2 (F : Nat × Nat) (f : Nat) (v0 : Nat) (v1 : Int32) (v2 : Int32) (v3 : Int32) (u1 : Option Value) (u2 : Option Value) (h : jH) : m_M_laysSteps_2 F (f + 1) v0 v1 v2 v3 h = jst (j_C [(193, c_M_cellAt F), (194, c_M_costOf F), (195, c_M_isBarred F), (240, c_M_isIn F)]) 4 (cd_M_laysSteps 2) [some (.ref v0), some (.int v1), some (.int v2), some (.int v3), u1, u2] [] h (jrun (j_C [(193, c_M_cellAt F), (194, c_M_costOf F), (195, c_M_isBarred F), (240, c_M_isIn F)]) 4 cd_M_laysSteps (j_T [(11, r_M_laysSteps_11 (m_M_laysSteps_11 F (m_M_laysSteps_2 F f) F.1))]) 52) := rfl
set_option maxRecDepth 100000 in
theorem e_M_laysSteps (F : Nat × Nat) (o : Nat) (a1 : Int32) (a2 : Int32) (h : jH) : m_M_laysSteps F o a1 a2 h = jrun (j_C [(193, c_M_cellAt F), (194, c_M_costOf F), (195, c_M_isBarred F), (240, c_M_isIn F)]) 4 cd_M_laysSteps (j_T [(2, r_M_laysSteps_2 (m_M_laysSteps_2 F F.1))]) 52 0 [some (.ref o), some (.int a1), some (.int a2), none, none, none] [] h := rfl
theorem hc_M_laysSteps (F : Nat × Nat) : jCok (7 + 2 * F.2) (j_C [(193, c_M_cellAt F), (194, c_M_costOf F), (195, c_M_isBarred F), (240, c_M_isIn F)]) := jC_ok (List.forall_mem_cons.mpr ⟨(co_M_cellAt F).up (by omega), List.forall_mem_cons.mpr ⟨(co_M_costOf F).up (by omega), List.forall_mem_cons.mpr ⟨(co_M_isBarred F).up (by omega), List.forall_mem_cons.mpr ⟨(co_M_isIn F).up (by omega), fun _ h => absurd h List.not_mem_nil⟩⟩⟩⟩)
theorem g_M_laysSteps_11 (F : Nat × Nat) (k2 : Nat → Int32 → Int32 → Int32 → jH → Option jO) (hk2 : jG M_M_laysSteps (7 + 2 * F.2) 2 (r_M_laysSteps_2 k2)) : ∀ f, jG M_M_laysSteps (7 + 2 * F.2) 11 (r_M_laysSteps_11 (m_M_laysSteps_11 F k2 f))
  | 0 => jG.no (fun L S h => by unfold r_M_laysSteps_11; split <;> rfl)
  | f + 1 => (jst_ok ok_M_laysSteps (hc_M_laysSteps F) (jrun_ok ok_M_laysSteps (hc_M_laysSteps F) (jT_ok (List.forall_mem_cons.mpr ⟨hk2, List.forall_mem_cons.mpr ⟨g_M_laysSteps_11 F k2 hk2 f, fun _ h => absurd h List.not_mem_nil⟩⟩)) 52) 11).of (fun L S h out e => by unfold r_M_laysSteps_11 at e; split at e; exact (e_M_laysSteps_11 F k2 f _ _ _ _ _ _ _).symm.trans e; cases e)
theorem g_M_laysSteps_2 (F : Nat × Nat) : ∀ f, jG M_M_laysSteps (7 + 2 * F.2) 2 (r_M_laysSteps_2 (m_M_laysSteps_2 F f))
  | 0 => jG.no (fun L S h => by unfold r_M_laysSteps_2; split <;> rfl)
  | f + 1 => (jst_ok ok_M_laysSteps (hc_M_laysSteps F) (jrun_ok ok_M_laysSteps (hc_M_laysSteps F) (jT_ok (List.forall_mem_cons.mpr ⟨g_M_laysSteps_11 F _ (g_M_laysSteps_2 F f) F.1, fun _ h => absurd h List.not_mem_nil⟩)) 52) 2).of (fun L S h out e => by unfold r_M_laysSteps_2 at e; split at e; exact (e_M_laysSteps_2 F f _ _ _ _ _ _ _).symm.trans e; cases e)
theorem k_M_laysSteps (F : Nat × Nat) (o : Nat) (a1 : Int32) (a2 : Int32) (h : jH) (r : Option Value) (h1 : jH) (e : m_M_laysSteps F o a1 a2 h = some (r, h1)) : jM1 (7 + 2 * F.2) 252 [.ref o, .int a1, .int a2] h r h1 := jM_of (M := M_M_laysSteps) mok_M_laysSteps (by decide +kernel) (by decide +kernel) (Or.inr (Or.inr (Or.inr (Or.inr ⟨rfl, rfl⟩)))) (fun q => nomatch q) (jrun_ok ok_M_laysSteps (hc_M_laysSteps F) (jT_ok (List.forall_mem_cons.mpr ⟨g_M_laysSteps_2 F F.1, fun _ h => absurd h List.not_mem_nil⟩)) 52 0) (List.all_eq_true.mp rfl) (Nat.le_of_ble_eq_true rfl) (fun E => Nat.le_of_ble_eq_true rfl) ((e_M_laysSteps F o a1 a2 h).symm.trans e)
theorem co_M_laysSteps (F : Nat × Nat) : jc_ok (7 + 2 * F.2 + 1) 252 (c_M_laysSteps F) := by
  intro as h k out e
  unfold c_M_laysSteps at e
  split at e
  · obtain ⟨a0, rfl, e1⟩ := js_rv e
    obtain ⟨hg, e2⟩ := js_if e1
    obtain ⟨h1, hm, e3⟩ := js_jbV e2
    exact ⟨_, _, _, Nat.le_refl _, k_M_laysSteps F _ _ _ _ _ _ hm, ⟨fun _ => ⟨_, _, rfl, Or.inl ⟨7, by decide, hg, by decide +kernel⟩⟩, fun q => absurd q (by decide +kernel)⟩, e3⟩
  · cases e
def r_M_laysLeft_50 (g : Nat → Int32 → Int32 → Int32 → jH → Option jO) : jL → List Value → jH → Option jO := fun L S h => match L, S with
  | [some (.ref v0), _, some (.int v2), some (.int v3), some (.int v4), _], [] => g v0 v2 v3 v4 h
  | _, _ => none
def r_M_laysLeft_41 (g : Nat → Int32 → Int32 → jH → Option jO) : jL → List Value → jH → Option jO := fun L S h => match L, S with
  | [some (.ref v0), _, some (.int v2), some (.int v3), _, _], [] => g v0 v2 v3 h
  | _, _ => none
def r_M_laysLeft_33 (g : Nat → Int32 → jH → Option jO) : jL → List Value → jH → Option jO := fun L S h => match L, S with
  | [some (.ref v0), _, some (.int v2), _, _, _], [] => g v0 v2 h
  | _, _ => none
def r_M_laysLeft_2 (g : Nat → Int32 → Int32 → jH → Option jO) : jL → List Value → jH → Option jO := fun L S h => match L, S with
  | [some (.ref v0), some (.int v1), some (.int v2), _, _, _], [] => g v0 v1 v2 h
  | _, _ => none
def c_M_laysLeft (F : Nat × Nat) : jc1 := fun args h k => match args with
  | [w0, .int a1] => j_rv w0 fun a0 => if j_k h a0 = 17 then (jbV (m_M_laysLeft F a0 a1 h) fun h => k none h) else none
  | _ => none
set_option maxRecDepth 100000 in
theorem e_M_laysLeft_50 (F : Nat × Nat) (k33 : Nat → Int32 → jH → Option jO) (k41 : Nat → Int32 → Int32 → jH → Option jO) (f : Nat) (v0 : Nat) (v2 : Int32) (v3 : Int32) (v4 : Int32) (u1 : Option Value) (u2 : Option Value) (h : jH) : m_M_laysLeft_50 F k33 k41 (f + 1) v0 v2 v3 v4 h = jst (j_C [(193, c_M_cellAt F)]) 4 (cd_M_laysLeft 50) [some (.ref v0), u1, some (.int v2), some (.int v3), some (.int v4), u2] [] h (jrun (j_C [(193, c_M_cellAt F)]) 4 cd_M_laysLeft (j_T [(41, r_M_laysLeft_41 k41), (50, r_M_laysLeft_50 (m_M_laysLeft_50 F k33 k41 f))]) 80) := rfl
set_option maxRecDepth 100000 in
theorem e_M_laysLeft_41 (F : Nat × Nat) (k33 : Nat → Int32 → jH → Option jO) (f : Nat) (v0 : Nat) (v2 : Int32) (v3 : Int32) (u1 : Option Value) (u2 : Option Value) (u3 : Option Value) (h : jH) : m_M_laysLeft_41 F k33 (f + 1) v0 v2 v3 h = jst (j_C [(193, c_M_cellAt F)]) 4 (cd_M_laysLeft 41) [some (.ref v0), u1, some (.int v2), some (.int v3), u2, u3] [] h (jrun (j_C [(193, c_M_cellAt F)]) 4 cd_M_laysLeft (j_T [(33, r_M_laysLeft_33 k33), (50, r_M_laysLeft_50 (m_M_laysLeft_50 F k33 (m_M_laysLeft_41 F k33 f) F.1))]) 80) := rfl
set_option maxRecDepth 100000 in
theorem e_M_laysLeft_33 (F : Nat × Nat) (f : Nat) (v0 : Nat) (v2 : Int32) (u1 : Option Value) (u2 : Option Value) (u3 : Option Value) (u4 : Option Value) (h : jH) : m_M_laysLeft_33 F (f + 1) v0 v2 h = jst (j_C [(193, c_M_cellAt F)]) 4 (cd_M_laysLeft 33) [some (.ref v0), u1, some (.int v2), u2, u3, u4] [] h (jrun (j_C [(193, c_M_cellAt F)]) 4 cd_M_laysLeft (j_T [(41, r_M_laysLeft_41 (m_M_laysLeft_41 F (m_M_laysLeft_33 F f) F.1))]) 80) := rfl
set_option maxRecDepth 100000 in
theorem e_M_laysLeft_2 (F : Nat × Nat) (f : Nat) (v0 : Nat) (v1 : Int32) (v2 : Int32) (u1 : Option Value) (u2 : Option Value) (u3 : Option Value) (h : jH) : m_M_laysLeft_2 F (f + 1) v0 v1 v2 h = jst (j_C [(193, c_M_cellAt F)]) 4 (cd_M_laysLeft 2) [some (.ref v0), some (.int v1), some (.int v2), u1, u2, u3] [] h (jrun (j_C [(193, c_M_cellAt F)]) 4 cd_M_laysLeft (j_T [(2, r_M_laysLeft_2 (m_M_laysLeft_2 F f)), (33, r_M_laysLeft_33 (m_M_laysLeft_33 F F.1))]) 80) := rfl
set_option maxRecDepth 100000 in
theorem e_M_laysLeft (F : Nat × Nat) (o : Nat) (a1 : Int32) (h : jH) : m_M_laysLeft F o a1 h = jrun (j_C [(193, c_M_cellAt F)]) 4 cd_M_laysLeft (j_T [(2, r_M_laysLeft_2 (m_M_laysLeft_2 F F.1))]) 80 0 [some (.ref o), some (.int a1), none, none, none, none] [] h := rfl
theorem hc_M_laysLeft (F : Nat × Nat) : jCok (1 + 0 * F.2) (j_C [(193, c_M_cellAt F)]) := jC_ok (List.forall_mem_cons.mpr ⟨(co_M_cellAt F).up (by omega), fun _ h => absurd h List.not_mem_nil⟩)
theorem g_M_laysLeft_50 (F : Nat × Nat) (k33 : Nat → Int32 → jH → Option jO) (hk33 : jG M_M_laysLeft (1 + 0 * F.2) 33 (r_M_laysLeft_33 k33)) (k41 : Nat → Int32 → Int32 → jH → Option jO) (hk41 : jG M_M_laysLeft (1 + 0 * F.2) 41 (r_M_laysLeft_41 k41)) : ∀ f, jG M_M_laysLeft (1 + 0 * F.2) 50 (r_M_laysLeft_50 (m_M_laysLeft_50 F k33 k41 f))
  | 0 => jG.no (fun L S h => by unfold r_M_laysLeft_50; split <;> rfl)
  | f + 1 => (jst_ok ok_M_laysLeft (hc_M_laysLeft F) (jrun_ok ok_M_laysLeft (hc_M_laysLeft F) (jT_ok (List.forall_mem_cons.mpr ⟨hk41, List.forall_mem_cons.mpr ⟨g_M_laysLeft_50 F k33 hk33 k41 hk41 f, fun _ h => absurd h List.not_mem_nil⟩⟩)) 80) 50).of (fun L S h out e => by unfold r_M_laysLeft_50 at e; split at e; exact (e_M_laysLeft_50 F k33 k41 f _ _ _ _ _ _ _).symm.trans e; cases e)
theorem g_M_laysLeft_41 (F : Nat × Nat) (k33 : Nat → Int32 → jH → Option jO) (hk33 : jG M_M_laysLeft (1 + 0 * F.2) 33 (r_M_laysLeft_33 k33)) : ∀ f, jG M_M_laysLeft (1 + 0 * F.2) 41 (r_M_laysLeft_41 (m_M_laysLeft_41 F k33 f))
  | 0 => jG.no (fun L S h => by unfold r_M_laysLeft_41; split <;> rfl)
  | f + 1 => (jst_ok ok_M_laysLeft (hc_M_laysLeft F) (jrun_ok ok_M_laysLeft (hc_M_laysLeft F) (jT_ok (List.forall_mem_cons.mpr ⟨hk33, List.forall_mem_cons.mpr ⟨g_M_laysLeft_50 F k33 hk33 _ (g_M_laysLeft_41 F k33 hk33 f) F.1, fun _ h => absurd h List.not_mem_nil⟩⟩)) 80) 41).of (fun L S h out e => by unfold r_M_laysLeft_41 at e; split at e; exact (e_M_laysLeft_41 F k33 f _ _ _ _ _ _ _).symm.trans e; cases e)
theorem g_M_laysLeft_33 (F : Nat × Nat) : ∀ f, jG M_M_laysLeft (1 + 0 * F.2) 33 (r_M_laysLeft_33 (m_M_laysLeft_33 F f))
  | 0 => jG.no (fun L S h => by unfold r_M_laysLeft_33; split <;> rfl)
  | f + 1 => (jst_ok ok_M_laysLeft (hc_M_laysLeft F) (jrun_ok ok_M_laysLeft (hc_M_laysLeft F) (jT_ok (List.forall_mem_cons.mpr ⟨g_M_laysLeft_41 F _ (g_M_laysLeft_33 F f) F.1, fun _ h => absurd h List.not_mem_nil⟩)) 80) 33).of (fun L S h out e => by unfold r_M_laysLeft_33 at e; split at e; exact (e_M_laysLeft_33 F f _ _ _ _ _ _ _).symm.trans e; cases e)
theorem g_M_laysLeft_2 (F : Nat × Nat) : ∀ f, jG M_M_laysLeft (1 + 0 * F.2) 2 (r_M_laysLeft_2 (m_M_laysLeft_2 F f))
  | 0 => jG.no (fun L S h => by unfold r_M_laysLeft_2; split <;> rfl)
  | f + 1 => (jst_ok ok_M_laysLeft (hc_M_laysLeft F) (jrun_ok ok_M_laysLeft (hc_M_laysLeft F) (jT_ok (List.forall_mem_cons.mpr ⟨g_M_laysLeft_2 F f, List.forall_mem_cons.mpr ⟨g_M_laysLeft_33 F F.1, fun _ h => absurd h List.not_mem_nil⟩⟩)) 80) 2).of (fun L S h out e => by unfold r_M_laysLeft_2 at e; split at e; exact (e_M_laysLeft_2 F f _ _ _ _ _ _ _).symm.trans e; cases e)
theorem k_M_laysLeft (F : Nat × Nat) (o : Nat) (a1 : Int32) (h : jH) (r : Option Value) (h1 : jH) (e : m_M_laysLeft F o a1 h = some (r, h1)) : jM1 (1 + 0 * F.2) 253 [.ref o, .int a1] h r h1 := jM_of (M := M_M_laysLeft) mok_M_laysLeft (by decide +kernel) (by decide +kernel) (Or.inr (Or.inr (Or.inr (Or.inr ⟨rfl, rfl⟩)))) (fun q => nomatch q) (jrun_ok ok_M_laysLeft (hc_M_laysLeft F) (jT_ok (List.forall_mem_cons.mpr ⟨g_M_laysLeft_2 F F.1, fun _ h => absurd h List.not_mem_nil⟩)) 80 0) (List.all_eq_true.mp rfl) (Nat.le_of_ble_eq_true rfl) (fun E => Nat.le_of_ble_eq_true rfl) ((e_M_laysLeft F o a1 h).symm.trans e)
theorem co_M_laysLeft (F : Nat × Nat) : jc_ok (1 + 0 * F.2 + 1) 253 (c_M_laysLeft F) := by
  intro as h k out e
  unfold c_M_laysLeft at e
  split at e
  · obtain ⟨a0, rfl, e1⟩ := js_rv e
    obtain ⟨hg, e2⟩ := js_if e1
    obtain ⟨h1, hm, e3⟩ := js_jbV e2
    exact ⟨_, _, _, Nat.le_refl _, k_M_laysLeft F _ _ _ _ _ hm, ⟨fun _ => ⟨_, _, rfl, Or.inl ⟨7, by decide, hg, by decide +kernel⟩⟩, fun q => absurd q (by decide +kernel)⟩, e3⟩
  · cases e
def r_M_nextCell_4 (g : Nat → Int32 → Int32 → Int32 → jH → Option jO) : jL → List Value → jH → Option jO := fun L S h => match L, S with
  | [some (.ref v0), some (.int v1), some (.int v2), some (.int v3), _, _], [] => g v0 v1 v2 v3 h
  | _, _ => none
def c_M_nextCell (F : Nat × Nat) : jc1 := fun args h k => match args with
  | [w0, .int a1] => j_rv w0 fun a0 => if j_k h a0 = 17 then (jbI (m_M_nextCell F a0 a1 h) fun r h => k (some (.int r)) h) else none
  | _ => none
set_option maxRecDepth 100000 in
theorem e_M_nextCell_4 (F : Nat × Nat) (f : Nat) (v0 : Nat) (v1 : Int32) (v2 : Int32) (v3 : Int32) (u1 : Option Value) (u2 : Option Value) (h : jH) : m_M_nextCell_4 F (f + 1) v0 v1 v2 v3 h = jst (j_C [(193, c_M_cellAt F)]) 0 (cd_M_nextCell 4) [some (.ref v0), some (.int v1), some (.int v2), some (.int v3), u1, u2] [] h (jrun (j_C [(193, c_M_cellAt F)]) 0 cd_M_nextCell (j_T [(4, r_M_nextCell_4 (m_M_nextCell_4 F f))]) 59) := rfl
set_option maxRecDepth 100000 in
theorem e_M_nextCell (F : Nat × Nat) (o : Nat) (a1 : Int32) (h : jH) : m_M_nextCell F o a1 h = jrun (j_C [(193, c_M_cellAt F)]) 0 cd_M_nextCell (j_T [(4, r_M_nextCell_4 (m_M_nextCell_4 F F.1))]) 59 0 [some (.ref o), some (.int a1), none, none, none, none] [] h := rfl
theorem hc_M_nextCell (F : Nat × Nat) : jCok (1 + 0 * F.2) (j_C [(193, c_M_cellAt F)]) := jC_ok (List.forall_mem_cons.mpr ⟨(co_M_cellAt F).up (by omega), fun _ h => absurd h List.not_mem_nil⟩)
theorem g_M_nextCell_4 (F : Nat × Nat) : ∀ f, jG M_M_nextCell (1 + 0 * F.2) 4 (r_M_nextCell_4 (m_M_nextCell_4 F f))
  | 0 => jG.no (fun L S h => by unfold r_M_nextCell_4; split <;> rfl)
  | f + 1 => (jst_ok ok_M_nextCell (hc_M_nextCell F) (jrun_ok ok_M_nextCell (hc_M_nextCell F) (jT_ok (List.forall_mem_cons.mpr ⟨g_M_nextCell_4 F f, fun _ h => absurd h List.not_mem_nil⟩)) 59) 4).of (fun L S h out e => by unfold r_M_nextCell_4 at e; split at e; exact (e_M_nextCell_4 F f _ _ _ _ _ _ _).symm.trans e; cases e)
theorem k_M_nextCell (F : Nat × Nat) (o : Nat) (a1 : Int32) (h : jH) (r : Option Value) (h1 : jH) (e : m_M_nextCell F o a1 h = some (r, h1)) : jM1 (1 + 0 * F.2) 254 [.ref o, .int a1] h r h1 := jM_of (M := M_M_nextCell) mok_M_nextCell (by decide +kernel) (by decide +kernel) (Or.inl ⟨rfl, rfl⟩) (fun q => nomatch q) (jrun_ok ok_M_nextCell (hc_M_nextCell F) (jT_ok (List.forall_mem_cons.mpr ⟨g_M_nextCell_4 F F.1, fun _ h => absurd h List.not_mem_nil⟩)) 59 0) (List.all_eq_true.mp rfl) (Nat.le_of_ble_eq_true rfl) (fun E => Nat.le_of_ble_eq_true rfl) ((e_M_nextCell F o a1 h).symm.trans e)
theorem co_M_nextCell (F : Nat × Nat) : jc_ok (1 + 0 * F.2 + 1) 254 (c_M_nextCell F) := by
  intro as h k out e
  unfold c_M_nextCell at e
  split at e
  · obtain ⟨a0, rfl, e1⟩ := js_rv e
    obtain ⟨hg, e2⟩ := js_if e1
    obtain ⟨r, h1, hm, e3⟩ := js_jbI e2
    exact ⟨_, _, _, Nat.le_refl _, k_M_nextCell F _ _ _ _ _ hm, ⟨fun _ => ⟨_, _, rfl, Or.inl ⟨7, by decide, hg, by decide +kernel⟩⟩, fun q => absurd q (by decide +kernel)⟩, e3⟩
  · cases e
def r_M_wayOver_85 (g : Nat → Int32 → Int32 → Int32 → jH → Option jO) : jL → List Value → jH → Option jO := fun L S h => match L, S with
  | [some (.ref v0), _, _, some (.int v3), _, some (.int v5), some (.int v6)], [] => g v0 v3 v5 v6 h
  | _, _ => none
def c_M_wayOver (F : Nat × Nat) : jc1 := fun args h k => match args with
  | [w0, .int a1, .int a2, .int a3, .int a4] => j_rv w0 fun a0 => if j_k h a0 = 17 then (jbI (m_M_wayOver F a0 a1 a2 a3 a4 h) fun r h => k (some (.int r)) h) else none
  | _ => none
set_option maxRecDepth 100000 in
theorem e_M_wayOver_85 (F : Nat × Nat) (f : Nat) (v0 : Nat) (v3 : Int32) (v5 : Int32) (v6 : Int32) (u1 : Option Value) (u2 : Option Value) (u3 : Option Value) (h : jH) : m_M_wayOver_85 F (f + 1) v0 v3 v5 v6 h = jst (j_C [(164, c_M_isCell F), (169, c_M_spotOf F), (172, c_M_isWalker F), (252, c_M_laysSteps F), (253, c_M_laysLeft F), (254, c_M_nextCell F)]) 0 (cd_M_wayOver 85) [some (.ref v0), u1, u2, some (.int v3), u3, some (.int v5), some (.int v6)] [] h (jrun (j_C [(164, c_M_isCell F), (169, c_M_spotOf F), (172, c_M_isWalker F), (252, c_M_laysSteps F), (253, c_M_laysLeft F), (254, c_M_nextCell F)]) 0 cd_M_wayOver (j_T [(85, r_M_wayOver_85 (m_M_wayOver_85 F f))]) 66) := rfl
set_option maxRecDepth 100000 in
theorem e_M_wayOver (F : Nat × Nat) (o : Nat) (a1 : Int32) (a2 : Int32) (a3 : Int32) (a4 : Int32) (h : jH) : m_M_wayOver F o a1 a2 a3 a4 h = jrun (j_C [(164, c_M_isCell F), (169, c_M_spotOf F), (172, c_M_isWalker F), (252, c_M_laysSteps F), (253, c_M_laysLeft F), (254, c_M_nextCell F)]) 0 cd_M_wayOver (j_T [(85, r_M_wayOver_85 (m_M_wayOver_85 F F.1))]) 66 0 [some (.ref o), some (.int a1), some (.int a2), some (.int a3), some (.int a4), none, none] [] h := rfl
theorem hc_M_wayOver (F : Nat × Nat) : jCok (8 + 2 * F.2) (j_C [(164, c_M_isCell F), (169, c_M_spotOf F), (172, c_M_isWalker F), (252, c_M_laysSteps F), (253, c_M_laysLeft F), (254, c_M_nextCell F)]) := jC_ok (List.forall_mem_cons.mpr ⟨(co_M_isCell F).up (by omega), List.forall_mem_cons.mpr ⟨(co_M_spotOf F).up (by omega), List.forall_mem_cons.mpr ⟨(co_M_isWalker F).up (by omega), List.forall_mem_cons.mpr ⟨(co_M_laysSteps F).up (by omega), List.forall_mem_cons.mpr ⟨(co_M_laysLeft F).up (by omega), List.forall_mem_cons.mpr ⟨(co_M_nextCell F).up (by omega), fun _ h => absurd h List.not_mem_nil⟩⟩⟩⟩⟩⟩)
theorem g_M_wayOver_85 (F : Nat × Nat) : ∀ f, jG M_M_wayOver (8 + 2 * F.2) 85 (r_M_wayOver_85 (m_M_wayOver_85 F f))
  | 0 => jG.no (fun L S h => by unfold r_M_wayOver_85; split <;> rfl)
  | f + 1 => (jst_ok ok_M_wayOver (hc_M_wayOver F) (jrun_ok ok_M_wayOver (hc_M_wayOver F) (jT_ok (List.forall_mem_cons.mpr ⟨g_M_wayOver_85 F f, fun _ h => absurd h List.not_mem_nil⟩)) 66) 85).of (fun L S h out e => by unfold r_M_wayOver_85 at e; split at e; exact (e_M_wayOver_85 F f _ _ _ _ _ _ _ _).symm.trans e; cases e)
theorem k_M_wayOver (F : Nat × Nat) (o : Nat) (a1 : Int32) (a2 : Int32) (a3 : Int32) (a4 : Int32) (h : jH) (r : Option Value) (h1 : jH) (e : m_M_wayOver F o a1 a2 a3 a4 h = some (r, h1)) : jM1 (8 + 2 * F.2) 251 [.ref o, .int a1, .int a2, .int a3, .int a4] h r h1 := jM_of (M := M_M_wayOver) mok_M_wayOver (by decide +kernel) (by decide +kernel) (Or.inl ⟨rfl, rfl⟩) (fun q => nomatch q) (jrun_ok ok_M_wayOver (hc_M_wayOver F) (jT_ok (List.forall_mem_cons.mpr ⟨g_M_wayOver_85 F F.1, fun _ h => absurd h List.not_mem_nil⟩)) 66 0) (List.all_eq_true.mp rfl) (Nat.le_of_ble_eq_true rfl) (fun E => Nat.le_of_ble_eq_true rfl) ((e_M_wayOver F o a1 a2 a3 a4 h).symm.trans e)
theorem co_M_wayOver (F : Nat × Nat) : jc_ok (8 + 2 * F.2 + 1) 251 (c_M_wayOver F) := by
  intro as h k out e
  unfold c_M_wayOver at e
  split at e
  · obtain ⟨a0, rfl, e1⟩ := js_rv e
    obtain ⟨hg, e2⟩ := js_if e1
    obtain ⟨r, h1, hm, e3⟩ := js_jbI e2
    exact ⟨_, _, _, Nat.le_refl _, k_M_wayOver F _ _ _ _ _ _ _ _ hm, ⟨fun _ => ⟨_, _, rfl, Or.inl ⟨7, by decide, hg, by decide +kernel⟩⟩, fun q => absurd q (by decide +kernel)⟩, e3⟩
  · cases e
def c_M_way (F : Nat × Nat) : jc1 := fun args h k => match args with
  | [w0, .int a1, .int a2, .int a3] => j_rv w0 fun a0 => if j_k h a0 = 17 then (jbI (m_M_way F a0 a1 a2 a3 h) fun r h => k (some (.int r)) h) else none
  | _ => none
set_option maxRecDepth 100000 in
theorem e_M_way (F : Nat × Nat) (o : Nat) (a1 : Int32) (a2 : Int32) (a3 : Int32) (h : jH) : m_M_way F o a1 a2 a3 h = jrun (j_C [(250, c_M_allCells F), (251, c_M_wayOver F)]) 0 cd_M_way (j_T []) 12 0 [some (.ref o), some (.int a1), some (.int a2), some (.int a3)] [] h := rfl
theorem hc_M_way (F : Nat × Nat) : jCok (9 + 2 * F.2) (j_C [(250, c_M_allCells F), (251, c_M_wayOver F)]) := jC_ok (List.forall_mem_cons.mpr ⟨(co_M_allCells F).up (by omega), List.forall_mem_cons.mpr ⟨(co_M_wayOver F).up (by omega), fun _ h => absurd h List.not_mem_nil⟩⟩)
theorem k_M_way (F : Nat × Nat) (o : Nat) (a1 : Int32) (a2 : Int32) (a3 : Int32) (h : jH) (r : Option Value) (h1 : jH) (e : m_M_way F o a1 a2 a3 h = some (r, h1)) : jM1 (9 + 2 * F.2) 249 [.ref o, .int a1, .int a2, .int a3] h r h1 := jM_of (M := M_M_way) mok_M_way (by decide +kernel) (by decide +kernel) (Or.inl ⟨rfl, rfl⟩) (fun q => nomatch q) (jrun_ok ok_M_way (hc_M_way F) (jT_ok (fun _ h => absurd h List.not_mem_nil)) 12 0) (List.all_eq_true.mp rfl) (Nat.le_of_ble_eq_true rfl) (fun E => Nat.le_of_ble_eq_true rfl) ((e_M_way F o a1 a2 a3 h).symm.trans e)
theorem co_M_way (F : Nat × Nat) : jc_ok (9 + 2 * F.2 + 1) 249 (c_M_way F) := by
  intro as h k out e
  unfold c_M_way at e
  split at e
  · obtain ⟨a0, rfl, e1⟩ := js_rv e
    obtain ⟨hg, e2⟩ := js_if e1
    obtain ⟨r, h1, hm, e3⟩ := js_jbI e2
    exact ⟨_, _, _, Nat.le_refl _, k_M_way F _ _ _ _ _ _ _ hm, ⟨fun _ => ⟨_, _, rfl, Or.inl ⟨7, by decide, hg, by decide +kernel⟩⟩, fun q => absurd q (by decide +kernel)⟩, e3⟩
  · cases e
def c_M_sure (F : Nat × Nat) : jc1 := fun args h k => match args with
  | [w0, .int a1, .int a2, .int a3] => j_rv w0 fun a0 => if j_k h a0 = 17 then (jbI (m_M_sure F a0 a1 a2 a3 h) fun r h => k (some (.int r)) h) else none
  | _ => none
set_option maxRecDepth 100000 in
theorem e_M_sure (F : Nat × Nat) (o : Nat) (a1 : Int32) (a2 : Int32) (a3 : Int32) (h : jH) : m_M_sure F o a1 a2 a3 h = jrun (j_C [(172, c_M_isWalker F), (173, c_M_sheetOf F), (251, c_M_wayOver F)]) 0 cd_M_sure (j_T []) 20 0 [some (.ref o), some (.int a1), some (.int a2), some (.int a3)] [] h := rfl
theorem hc_M_sure (F : Nat × Nat) : jCok (9 + 2 * F.2) (j_C [(172, c_M_isWalker F), (173, c_M_sheetOf F), (251, c_M_wayOver F)]) := jC_ok (List.forall_mem_cons.mpr ⟨(co_M_isWalker F).up (by omega), List.forall_mem_cons.mpr ⟨(co_M_sheetOf F).up (by omega), List.forall_mem_cons.mpr ⟨(co_M_wayOver F).up (by omega), fun _ h => absurd h List.not_mem_nil⟩⟩⟩)
theorem k_M_sure (F : Nat × Nat) (o : Nat) (a1 : Int32) (a2 : Int32) (a3 : Int32) (h : jH) (r : Option Value) (h1 : jH) (e : m_M_sure F o a1 a2 a3 h = some (r, h1)) : jM1 (9 + 2 * F.2) 255 [.ref o, .int a1, .int a2, .int a3] h r h1 := jM_of (M := M_M_sure) mok_M_sure (by decide +kernel) (by decide +kernel) (Or.inl ⟨rfl, rfl⟩) (fun q => nomatch q) (jrun_ok ok_M_sure (hc_M_sure F) (jT_ok (fun _ h => absurd h List.not_mem_nil)) 20 0) (List.all_eq_true.mp rfl) (Nat.le_of_ble_eq_true rfl) (fun E => Nat.le_of_ble_eq_true rfl) ((e_M_sure F o a1 a2 a3 h).symm.trans e)
theorem co_M_sure (F : Nat × Nat) : jc_ok (9 + 2 * F.2 + 1) 255 (c_M_sure F) := by
  intro as h k out e
  unfold c_M_sure at e
  split at e
  · obtain ⟨a0, rfl, e1⟩ := js_rv e
    obtain ⟨hg, e2⟩ := js_if e1
    obtain ⟨r, h1, hm, e3⟩ := js_jbI e2
    exact ⟨_, _, _, Nat.le_refl _, k_M_sure F _ _ _ _ _ _ _ hm, ⟨fun _ => ⟨_, _, rfl, Or.inl ⟨7, by decide, hg, by decide +kernel⟩⟩, fun q => absurd q (by decide +kernel)⟩, e3⟩
  · cases e
def c_M_compare (F : Nat × Nat) : jc1 := fun args h k => match args with
  | [w0, .int a1, .int a2, .int a3] => j_rv w0 fun a0 => if j_k h a0 = 17 then (jbI (m_M_compare F a0 a1 a2 a3 h) fun r h => k (some (.int r)) h) else none
  | _ => none
set_option maxRecDepth 100000 in
theorem e_M_compare (F : Nat × Nat) (o : Nat) (a1 : Int32) (a2 : Int32) (a3 : Int32) (h : jH) : m_M_compare F o a1 a2 a3 h = jrun (j_C [(230, c_M_isLaw F), (249, c_M_way F)]) 0 cd_M_compare (j_T []) 34 0 [some (.ref o), some (.int a1), some (.int a2), some (.int a3), none, none] [] h := rfl
theorem hc_M_compare (F : Nat × Nat) : jCok (10 + 2 * F.2) (j_C [(230, c_M_isLaw F), (249, c_M_way F)]) := jC_ok (List.forall_mem_cons.mpr ⟨(co_M_isLaw F).up (by omega), List.forall_mem_cons.mpr ⟨(co_M_way F).up (by omega), fun _ h => absurd h List.not_mem_nil⟩⟩)
theorem k_M_compare (F : Nat × Nat) (o : Nat) (a1 : Int32) (a2 : Int32) (a3 : Int32) (h : jH) (r : Option Value) (h1 : jH) (e : m_M_compare F o a1 a2 a3 h = some (r, h1)) : jM1 (10 + 2 * F.2) 256 [.ref o, .int a1, .int a2, .int a3] h r h1 := jM_of (M := M_M_compare) mok_M_compare (by decide +kernel) (by decide +kernel) (Or.inl ⟨rfl, rfl⟩) (fun q => nomatch q) (jrun_ok ok_M_compare (hc_M_compare F) (jT_ok (fun _ h => absurd h List.not_mem_nil)) 34 0) (List.all_eq_true.mp rfl) (Nat.le_of_ble_eq_true rfl) (fun E => Nat.le_of_ble_eq_true rfl) ((e_M_compare F o a1 a2 a3 h).symm.trans e)
theorem co_M_compare (F : Nat × Nat) : jc_ok (10 + 2 * F.2 + 1) 256 (c_M_compare F) := by
  intro as h k out e
  unfold c_M_compare at e
  split at e
  · obtain ⟨a0, rfl, e1⟩ := js_rv e
    obtain ⟨hg, e2⟩ := js_if e1
    obtain ⟨r, h1, hm, e3⟩ := js_jbI e2
    exact ⟨_, _, _, Nat.le_refl _, k_M_compare F _ _ _ _ _ _ _ hm, ⟨fun _ => ⟨_, _, rfl, Or.inl ⟨7, by decide, hg, by decide +kernel⟩⟩, fun q => absurd q (by decide +kernel)⟩, e3⟩
  · cases e
def r_M_laysGone_53 (g : Nat → Int32 → Int32 → jH → Option jO) : jL → List Value → jH → Option jO := fun L S h => match L, S with
  | [some (.ref v0), _, some (.int v2), some (.int v3), _, _], [] => g v0 v2 v3 h
  | _, _ => none
def r_M_laysGone_45 (g : Nat → Int32 → jH → Option jO) : jL → List Value → jH → Option jO := fun L S h => match L, S with
  | [some (.ref v0), _, some (.int v2), _, _, _], [] => g v0 v2 h
  | _, _ => none
def r_M_laysGone_10 (g : Nat → Int32 → Int32 → jH → Option jO) : jL → List Value → jH → Option jO := fun L S h => match L, S with
  | [some (.ref v0), some (.int v1), some (.int v2), _, _, _], [] => g v0 v1 v2 h
  | _, _ => none
def c_M_laysGone (F : Nat × Nat) : jc1 := fun args h k => match args with
  | [w0, .int a1] => j_rv w0 fun a0 => if j_k h a0 = 17 then (jbV (m_M_laysGone F a0 a1 h) fun h => k none h) else none
  | _ => none
set_option maxRecDepth 100000 in
theorem e_M_laysGone_53 (F : Nat × Nat) (k45 : Nat → Int32 → jH → Option jO) (f : Nat) (v0 : Nat) (v2 : Int32) (v3 : Int32) (u1 : Option Value) (u2 : Option Value) (u3 : Option Value) (h : jH) : m_M_laysGone_53 F k45 (f + 1) v0 v2 v3 h = jst (j_C [(169, c_M_spotOf F), (193, c_M_cellAt F), (250, c_M_allCells F), (252, c_M_laysSteps F)]) 4 (cd_M_laysGone 53) [some (.ref v0), u1, some (.int v2), some (.int v3), u2, u3] [] h (jrun (j_C [(169, c_M_spotOf F), (193, c_M_cellAt F), (250, c_M_allCells F), (252, c_M_laysSteps F)]) 4 cd_M_laysGone (j_T [(45, r_M_laysGone_45 k45), (53, r_M_laysGone_53 (m_M_laysGone_53 F k45 f))]) 99) := rfl
set_option maxRecDepth 100000 in
theorem e_M_laysGone_45 (F : Nat × Nat) (f : Nat) (v0 : Nat) (v2 : Int32) (u1 : Option Value) (u2 : Option Value) (u3 : Option Value) (u4 : Option Value) (h : jH) : m_M_laysGone_45 F (f + 1) v0 v2 h = jst (j_C [(169, c_M_spotOf F), (193, c_M_cellAt F), (250, c_M_allCells F), (252, c_M_laysSteps F)]) 4 (cd_M_laysGone 45) [some (.ref v0), u1, some (.int v2), u2, u3, u4] [] h (jrun (j_C [(169, c_M_spotOf F), (193, c_M_cellAt F), (250, c_M_allCells F), (252, c_M_laysSteps F)]) 4 cd_M_laysGone (j_T [(53, r_M_laysGone_53 (m_M_laysGone_53 F (m_M_laysGone_45 F f) F.1))]) 99) := rfl
set_option maxRecDepth 100000 in
theorem e_M_laysGone_10 (F : Nat × Nat) (f : Nat) (v0 : Nat) (v1 : Int32) (v2 : Int32) (u1 : Option Value) (u2 : Option Value) (u3 : Option Value) (h : jH) : m_M_laysGone_10 F (f + 1) v0 v1 v2 h = jst (j_C [(169, c_M_spotOf F), (193, c_M_cellAt F), (250, c_M_allCells F), (252, c_M_laysSteps F)]) 4 (cd_M_laysGone 10) [some (.ref v0), some (.int v1), some (.int v2), u1, u2, u3] [] h (jrun (j_C [(169, c_M_spotOf F), (193, c_M_cellAt F), (250, c_M_allCells F), (252, c_M_laysSteps F)]) 4 cd_M_laysGone (j_T [(10, r_M_laysGone_10 (m_M_laysGone_10 F f)), (45, r_M_laysGone_45 (m_M_laysGone_45 F F.1))]) 99) := rfl
set_option maxRecDepth 100000 in
theorem e_M_laysGone (F : Nat × Nat) (o : Nat) (a1 : Int32) (h : jH) : m_M_laysGone F o a1 h = jrun (j_C [(169, c_M_spotOf F), (193, c_M_cellAt F), (250, c_M_allCells F), (252, c_M_laysSteps F)]) 4 cd_M_laysGone (j_T [(10, r_M_laysGone_10 (m_M_laysGone_10 F F.1))]) 99 0 [some (.ref o), some (.int a1), none, none, none, none] [] h := rfl
theorem hc_M_laysGone (F : Nat × Nat) : jCok (8 + 2 * F.2) (j_C [(169, c_M_spotOf F), (193, c_M_cellAt F), (250, c_M_allCells F), (252, c_M_laysSteps F)]) := jC_ok (List.forall_mem_cons.mpr ⟨(co_M_spotOf F).up (by omega), List.forall_mem_cons.mpr ⟨(co_M_cellAt F).up (by omega), List.forall_mem_cons.mpr ⟨(co_M_allCells F).up (by omega), List.forall_mem_cons.mpr ⟨(co_M_laysSteps F).up (by omega), fun _ h => absurd h List.not_mem_nil⟩⟩⟩⟩)
theorem g_M_laysGone_53 (F : Nat × Nat) (k45 : Nat → Int32 → jH → Option jO) (hk45 : jG M_M_laysGone (8 + 2 * F.2) 45 (r_M_laysGone_45 k45)) : ∀ f, jG M_M_laysGone (8 + 2 * F.2) 53 (r_M_laysGone_53 (m_M_laysGone_53 F k45 f))
  | 0 => jG.no (fun L S h => by unfold r_M_laysGone_53; split <;> rfl)
  | f + 1 => (jst_ok ok_M_laysGone (hc_M_laysGone F) (jrun_ok ok_M_laysGone (hc_M_laysGone F) (jT_ok (List.forall_mem_cons.mpr ⟨hk45, List.forall_mem_cons.mpr ⟨g_M_laysGone_53 F k45 hk45 f, fun _ h => absurd h List.not_mem_nil⟩⟩)) 99) 53).of (fun L S h out e => by unfold r_M_laysGone_53 at e; split at e; exact (e_M_laysGone_53 F k45 f _ _ _ _ _ _ _).symm.trans e; cases e)
theorem g_M_laysGone_45 (F : Nat × Nat) : ∀ f, jG M_M_laysGone (8 + 2 * F.2) 45 (r_M_laysGone_45 (m_M_laysGone_45 F f))
  | 0 => jG.no (fun L S h => by unfold r_M_laysGone_45; split <;> rfl)
  | f + 1 => (jst_ok ok_M_laysGone (hc_M_laysGone F) (jrun_ok ok_M_laysGone (hc_M_laysGone F) (jT_ok (List.forall_mem_cons.mpr ⟨g_M_laysGone_53 F _ (g_M_laysGone_45 F f) F.1, fun _ h => absurd h List.not_mem_nil⟩)) 99) 45).of (fun L S h out e => by unfold r_M_laysGone_45 at e; split at e; exact (e_M_laysGone_45 F f _ _ _ _ _ _ _).symm.trans e; cases e)
theorem g_M_laysGone_10 (F : Nat × Nat) : ∀ f, jG M_M_laysGone (8 + 2 * F.2) 10 (r_M_laysGone_10 (m_M_laysGone_10 F f))
  | 0 => jG.no (fun L S h => by unfold r_M_laysGone_10; split <;> rfl)
  | f + 1 => (jst_ok ok_M_laysGone (hc_M_laysGone F) (jrun_ok ok_M_laysGone (hc_M_laysGone F) (jT_ok (List.forall_mem_cons.mpr ⟨g_M_laysGone_10 F f, List.forall_mem_cons.mpr ⟨g_M_laysGone_45 F F.1, fun _ h => absurd h List.not_mem_nil⟩⟩)) 99) 10).of (fun L S h out e => by unfold r_M_laysGone_10 at e; split at e; exact (e_M_laysGone_10 F f _ _ _ _ _ _ _).symm.trans e; cases e)
theorem k_M_laysGone (F : Nat × Nat) (o : Nat) (a1 : Int32) (h : jH) (r : Option Value) (h1 : jH) (e : m_M_laysGone F o a1 h = some (r, h1)) : jM1 (8 + 2 * F.2) 258 [.ref o, .int a1] h r h1 := jM_of (M := M_M_laysGone) mok_M_laysGone (by decide +kernel) (by decide +kernel) (Or.inr (Or.inr (Or.inr (Or.inr ⟨rfl, rfl⟩)))) (fun q => nomatch q) (jrun_ok ok_M_laysGone (hc_M_laysGone F) (jT_ok (List.forall_mem_cons.mpr ⟨g_M_laysGone_10 F F.1, fun _ h => absurd h List.not_mem_nil⟩)) 99 0) (List.all_eq_true.mp rfl) (Nat.le_of_ble_eq_true rfl) (fun E => Nat.le_of_ble_eq_true rfl) ((e_M_laysGone F o a1 h).symm.trans e)
theorem co_M_laysGone (F : Nat × Nat) : jc_ok (8 + 2 * F.2 + 1) 258 (c_M_laysGone F) := by
  intro as h k out e
  unfold c_M_laysGone at e
  split at e
  · obtain ⟨a0, rfl, e1⟩ := js_rv e
    obtain ⟨hg, e2⟩ := js_if e1
    obtain ⟨h1, hm, e3⟩ := js_jbV e2
    exact ⟨_, _, _, Nat.le_refl _, k_M_laysGone F _ _ _ _ _ hm, ⟨fun _ => ⟨_, _, rfl, Or.inl ⟨7, by decide, hg, by decide +kernel⟩⟩, fun q => absurd q (by decide +kernel)⟩, e3⟩
  · cases e
def c_M_greater (F : Nat × Nat) : jc1 := fun args h k => match args with
  | [.int a0, .int a1] => jbI (m_M_greater F a0 a1 h) fun r h => k (some (.int r)) h
  | _ => none
set_option maxRecDepth 100000 in
theorem e_M_greater (F : Nat × Nat) (a0 : Int32) (a1 : Int32) (h : jH) : m_M_greater F a0 a1 h = jrun (j_C []) 0 cd_M_greater (j_T []) 12 0 [some (.int a0), some (.int a1)] [] h := rfl
theorem hc_M_greater (F : Nat × Nat) : jCok (0 + 0 * F.2) (j_C []) := jC_ok (fun _ h => absurd h List.not_mem_nil)
theorem k_M_greater (F : Nat × Nat) (a0 : Int32) (a1 : Int32) (h : jH) (r : Option Value) (h1 : jH) (e : m_M_greater F a0 a1 h = some (r, h1)) : jM1 (0 + 0 * F.2) 259 [.int a0, .int a1] h r h1 := jM_of (M := M_M_greater) mok_M_greater (by decide +kernel) (by decide +kernel) (Or.inl ⟨rfl, rfl⟩) (fun q => nomatch q) (jrun_ok ok_M_greater (hc_M_greater F) (jT_ok (fun _ h => absurd h List.not_mem_nil)) 12 0) (List.all_eq_true.mp rfl) (Nat.le_of_ble_eq_true rfl) (fun E => Nat.le_of_ble_eq_true rfl) ((e_M_greater F a0 a1 h).symm.trans e)
theorem co_M_greater (F : Nat × Nat) : jc_ok (0 + 0 * F.2 + 1) 259 (c_M_greater F) := by
  intro as h k out e
  unfold c_M_greater at e
  split at e
  · obtain ⟨r, h1, hm, e1⟩ := js_jbI e
    exact ⟨_, _, _, Nat.le_refl _, k_M_greater F _ _ _ _ _ hm, ⟨fun q => absurd q (by decide +kernel), fun q => absurd q (by decide +kernel)⟩, e1⟩
  · cases e
def r_M_meet_82 (g : Nat → Int32 → Int32 → Int32 → Int32 → jH → Option jO) : jL → List Value → jH → Option jO := fun L S h => match L, S with
  | [some (.ref v0), _, _, some (.int v3), some (.int v4), some (.int v5), some (.int v6), _], [] => g v0 v3 v4 v5 v6 h
  | _, _ => none
def r_M_meet_40 (g : Nat → Int32 → Int32 → Int32 → jH → Option jO) : jL → List Value → jH → Option jO := fun L S h => match L, S with
  | [some (.ref v0), _, some (.int v2), some (.int v3), some (.int v4), _, _, _], [] => g v0 v2 v3 v4 h
  | _, _ => none
def c_M_meet (F : Nat × Nat) : jc1 := fun args h k => match args with
  | [w0, .int a1, .int a2, .int a3] => j_rv w0 fun a0 => if j_k h a0 = 17 then (jbI (m_M_meet F a0 a1 a2 a3 h) fun r h => k (some (.int r)) h) else none
  | _ => none
set_option maxRecDepth 100000 in
theorem e_M_meet_82 (F : Nat × Nat) (f : Nat) (v0 : Nat) (v3 : Int32) (v4 : Int32) (v5 : Int32) (v6 : Int32) (u1 : Option Value) (u2 : Option Value) (u3 : Option Value) (h : jH) : m_M_meet_82 F (f + 1) v0 v3 v4 v5 v6 h = jst (j_C [(157, c_M_lies F), (172, c_M_isWalker F), (258, c_M_laysGone F), (259, c_M_greater F)]) 0 (cd_M_meet 82) [some (.ref v0), u1, u2, some (.int v3), some (.int v4), some (.int v5), some (.int v6), u3] [] h (jrun (j_C [(157, c_M_lies F), (172, c_M_isWalker F), (258, c_M_laysGone F), (259, c_M_greater F)]) 0 cd_M_meet (j_T [(82, r_M_meet_82 (m_M_meet_82 F f))]) 82) := rfl
set_option maxRecDepth 100000 in
theorem e_M_meet_40 (F : Nat × Nat) (f : Nat) (v0 : Nat) (v2 : Int32) (v3 : Int32) (v4 : Int32) (u1 : Option Value) (u2 : Option Value) (u3 : Option Value) (u4 : Option Value) (h : jH) : m_M_meet_40 F (f + 1) v0 v2 v3 v4 h = jst (j_C [(157, c_M_lies F), (172, c_M_isWalker F), (258, c_M_laysGone F), (259, c_M_greater F)]) 0 (cd_M_meet 40) [some (.ref v0), u1, some (.int v2), some (.int v3), some (.int v4), u2, u3, u4] [] h (jrun (j_C [(157, c_M_lies F), (172, c_M_isWalker F), (258, c_M_laysGone F), (259, c_M_greater F)]) 0 cd_M_meet (j_T [(40, r_M_meet_40 (m_M_meet_40 F f)), (82, r_M_meet_82 (m_M_meet_82 F F.1))]) 82) := rfl
set_option maxRecDepth 100000 in
theorem e_M_meet (F : Nat × Nat) (o : Nat) (a1 : Int32) (a2 : Int32) (a3 : Int32) (h : jH) : m_M_meet F o a1 a2 a3 h = jrun (j_C [(157, c_M_lies F), (172, c_M_isWalker F), (258, c_M_laysGone F), (259, c_M_greater F)]) 0 cd_M_meet (j_T [(40, r_M_meet_40 (m_M_meet_40 F F.1))]) 82 0 [some (.ref o), some (.int a1), some (.int a2), some (.int a3), none, none, none, none] [] h := rfl
theorem hc_M_meet (F : Nat × Nat) : jCok (9 + 2 * F.2) (j_C [(157, c_M_lies F), (172, c_M_isWalker F), (258, c_M_laysGone F), (259, c_M_greater F)]) := jC_ok (List.forall_mem_cons.mpr ⟨(co_M_lies F).up (by omega), List.forall_mem_cons.mpr ⟨(co_M_isWalker F).up (by omega), List.forall_mem_cons.mpr ⟨(co_M_laysGone F).up (by omega), List.forall_mem_cons.mpr ⟨(co_M_greater F).up (by omega), fun _ h => absurd h List.not_mem_nil⟩⟩⟩⟩)
theorem g_M_meet_82 (F : Nat × Nat) : ∀ f, jG M_M_meet (9 + 2 * F.2) 82 (r_M_meet_82 (m_M_meet_82 F f))
  | 0 => jG.no (fun L S h => by unfold r_M_meet_82; split <;> rfl)
  | f + 1 => (jst_ok ok_M_meet (hc_M_meet F) (jrun_ok ok_M_meet (hc_M_meet F) (jT_ok (List.forall_mem_cons.mpr ⟨g_M_meet_82 F f, fun _ h => absurd h List.not_mem_nil⟩)) 82) 82).of (fun L S h out e => by unfold r_M_meet_82 at e; split at e; exact (e_M_meet_82 F f _ _ _ _ _ _ _ _ _).symm.trans e; cases e)
theorem g_M_meet_40 (F : Nat × Nat) : ∀ f, jG M_M_meet (9 + 2 * F.2) 40 (r_M_meet_40 (m_M_meet_40 F f))
  | 0 => jG.no (fun L S h => by unfold r_M_meet_40; split <;> rfl)
  | f + 1 => (jst_ok ok_M_meet (hc_M_meet F) (jrun_ok ok_M_meet (hc_M_meet F) (jT_ok (List.forall_mem_cons.mpr ⟨g_M_meet_40 F f, List.forall_mem_cons.mpr ⟨g_M_meet_82 F F.1, fun _ h => absurd h List.not_mem_nil⟩⟩)) 82) 40).of (fun L S h out e => by unfold r_M_meet_40 at e; split at e; exact (e_M_meet_40 F f _ _ _ _ _ _ _ _ _).symm.trans e; cases e)
theorem k_M_meet (F : Nat × Nat) (o : Nat) (a1 : Int32) (a2 : Int32) (a3 : Int32) (h : jH) (r : Option Value) (h1 : jH) (e : m_M_meet F o a1 a2 a3 h = some (r, h1)) : jM1 (9 + 2 * F.2) 257 [.ref o, .int a1, .int a2, .int a3] h r h1 := jM_of (M := M_M_meet) mok_M_meet (by decide +kernel) (by decide +kernel) (Or.inl ⟨rfl, rfl⟩) (fun q => nomatch q) (jrun_ok ok_M_meet (hc_M_meet F) (jT_ok (List.forall_mem_cons.mpr ⟨g_M_meet_40 F F.1, fun _ h => absurd h List.not_mem_nil⟩)) 82 0) (List.all_eq_true.mp rfl) (Nat.le_of_ble_eq_true rfl) (fun E => Nat.le_of_ble_eq_true rfl) ((e_M_meet F o a1 a2 a3 h).symm.trans e)
theorem co_M_meet (F : Nat × Nat) : jc_ok (9 + 2 * F.2 + 1) 257 (c_M_meet F) := by
  intro as h k out e
  unfold c_M_meet at e
  split at e
  · obtain ⟨a0, rfl, e1⟩ := js_rv e
    obtain ⟨hg, e2⟩ := js_if e1
    obtain ⟨r, h1, hm, e3⟩ := js_jbI e2
    exact ⟨_, _, _, Nat.le_refl _, k_M_meet F _ _ _ _ _ _ _ hm, ⟨fun _ => ⟨_, _, rfl, Or.inl ⟨7, by decide, hg, by decide +kernel⟩⟩, fun q => absurd q (by decide +kernel)⟩, e3⟩
  · cases e
def r_M_reach_19 (g : Nat → Int32 → Int32 → jH → Option jO) : jL → List Value → jH → Option jO := fun L S h => match L, S with
  | [some (.ref v0), _, some (.int v2), some (.int v3)], [] => g v0 v2 v3 h
  | _, _ => none
def c_M_reach (F : Nat × Nat) : jc1 := fun args h k => match args with
  | [w0, .int a1] => j_rv w0 fun a0 => if j_k h a0 = 17 then (jbI (m_M_reach F a0 a1 h) fun r h => k (some (.int r)) h) else none
  | _ => none
set_option maxRecDepth 100000 in
theorem e_M_reach_19 (F : Nat × Nat) (f : Nat) (v0 : Nat) (v2 : Int32) (v3 : Int32) (u1 : Option Value) (h : jH) : m_M_reach_19 F (f + 1) v0 v2 v3 h = jst (j_C [(172, c_M_isWalker F), (258, c_M_laysGone F)]) 0 (cd_M_reach 19) [some (.ref v0), u1, some (.int v2), some (.int v3)] [] h (jrun (j_C [(172, c_M_isWalker F), (258, c_M_laysGone F)]) 0 cd_M_reach (j_T [(19, r_M_reach_19 (m_M_reach_19 F f))]) 39) := rfl
set_option maxRecDepth 100000 in
theorem e_M_reach (F : Nat × Nat) (o : Nat) (a1 : Int32) (h : jH) : m_M_reach F o a1 h = jrun (j_C [(172, c_M_isWalker F), (258, c_M_laysGone F)]) 0 cd_M_reach (j_T [(19, r_M_reach_19 (m_M_reach_19 F F.1))]) 39 0 [some (.ref o), some (.int a1), none, none] [] h := rfl
theorem hc_M_reach (F : Nat × Nat) : jCok (9 + 2 * F.2) (j_C [(172, c_M_isWalker F), (258, c_M_laysGone F)]) := jC_ok (List.forall_mem_cons.mpr ⟨(co_M_isWalker F).up (by omega), List.forall_mem_cons.mpr ⟨(co_M_laysGone F).up (by omega), fun _ h => absurd h List.not_mem_nil⟩⟩)
theorem g_M_reach_19 (F : Nat × Nat) : ∀ f, jG M_M_reach (9 + 2 * F.2) 19 (r_M_reach_19 (m_M_reach_19 F f))
  | 0 => jG.no (fun L S h => by unfold r_M_reach_19; split <;> rfl)
  | f + 1 => (jst_ok ok_M_reach (hc_M_reach F) (jrun_ok ok_M_reach (hc_M_reach F) (jT_ok (List.forall_mem_cons.mpr ⟨g_M_reach_19 F f, fun _ h => absurd h List.not_mem_nil⟩)) 39) 19).of (fun L S h out e => by unfold r_M_reach_19 at e; split at e; exact (e_M_reach_19 F f _ _ _ _ _).symm.trans e; cases e)
theorem k_M_reach (F : Nat × Nat) (o : Nat) (a1 : Int32) (h : jH) (r : Option Value) (h1 : jH) (e : m_M_reach F o a1 h = some (r, h1)) : jM1 (9 + 2 * F.2) 260 [.ref o, .int a1] h r h1 := jM_of (M := M_M_reach) mok_M_reach (by decide +kernel) (by decide +kernel) (Or.inl ⟨rfl, rfl⟩) (fun q => nomatch q) (jrun_ok ok_M_reach (hc_M_reach F) (jT_ok (List.forall_mem_cons.mpr ⟨g_M_reach_19 F F.1, fun _ h => absurd h List.not_mem_nil⟩)) 39 0) (List.all_eq_true.mp rfl) (Nat.le_of_ble_eq_true rfl) (fun E => Nat.le_of_ble_eq_true rfl) ((e_M_reach F o a1 h).symm.trans e)
theorem co_M_reach (F : Nat × Nat) : jc_ok (9 + 2 * F.2 + 1) 260 (c_M_reach F) := by
  intro as h k out e
  unfold c_M_reach at e
  split at e
  · obtain ⟨a0, rfl, e1⟩ := js_rv e
    obtain ⟨hg, e2⟩ := js_if e1
    obtain ⟨r, h1, hm, e3⟩ := js_jbI e2
    exact ⟨_, _, _, Nat.le_refl _, k_M_reach F _ _ _ _ _ hm, ⟨fun _ => ⟨_, _, rfl, Or.inl ⟨7, by decide, hg, by decide +kernel⟩⟩, fun q => absurd q (by decide +kernel)⟩, e3⟩
  · cases e
def r_M_wantedIn_4 (g : Nat → Int32 → Int32 → Int32 → jH → Option jO) : jL → List Value → jH → Option jO := fun L S h => match L, S with
  | [some (.ref v0), some (.int v1), some (.int v2), some (.int v3)], [] => g v0 v1 v2 v3 h
  | _, _ => none
def c_M_wantedIn (F : Nat × Nat) : jc1 := fun args h k => match args with
  | [w0, .int a1] => j_rv w0 fun a0 => if j_k h a0 = 17 then (jbI (m_M_wantedIn F a0 a1 h) fun r h => k (some (.int r)) h) else none
  | _ => none
set_option maxRecDepth 100000 in
theorem e_M_wantedIn_4 (F : Nat × Nat) (f : Nat) (v0 : Nat) (v1 : Int32) (v2 : Int32) (v3 : Int32) (h : jH) : m_M_wantedIn_4 F (f + 1) v0 v1 v2 v3 h = jst (j_C [(240, c_M_isIn F)]) 0 (cd_M_wantedIn 4) [some (.ref v0), some (.int v1), some (.int v2), some (.int v3)] [] h (jrun (j_C [(240, c_M_isIn F)]) 0 cd_M_wantedIn (j_T [(4, r_M_wantedIn_4 (m_M_wantedIn_4 F f))]) 32) := rfl
set_option maxRecDepth 100000 in
theorem e_M_wantedIn (F : Nat × Nat) (o : Nat) (a1 : Int32) (h : jH) : m_M_wantedIn F o a1 h = jrun (j_C [(240, c_M_isIn F)]) 0 cd_M_wantedIn (j_T [(4, r_M_wantedIn_4 (m_M_wantedIn_4 F F.1))]) 32 0 [some (.ref o), some (.int a1), none, none] [] h := rfl
theorem hc_M_wantedIn (F : Nat × Nat) : jCok (1 + 0 * F.2) (j_C [(240, c_M_isIn F)]) := jC_ok (List.forall_mem_cons.mpr ⟨(co_M_isIn F).up (by omega), fun _ h => absurd h List.not_mem_nil⟩)
theorem g_M_wantedIn_4 (F : Nat × Nat) : ∀ f, jG M_M_wantedIn (1 + 0 * F.2) 4 (r_M_wantedIn_4 (m_M_wantedIn_4 F f))
  | 0 => jG.no (fun L S h => by unfold r_M_wantedIn_4; split <;> rfl)
  | f + 1 => (jst_ok ok_M_wantedIn (hc_M_wantedIn F) (jrun_ok ok_M_wantedIn (hc_M_wantedIn F) (jT_ok (List.forall_mem_cons.mpr ⟨g_M_wantedIn_4 F f, fun _ h => absurd h List.not_mem_nil⟩)) 32) 4).of (fun L S h out e => by unfold r_M_wantedIn_4 at e; split at e; exact (e_M_wantedIn_4 F f _ _ _ _ _).symm.trans e; cases e)
theorem k_M_wantedIn (F : Nat × Nat) (o : Nat) (a1 : Int32) (h : jH) (r : Option Value) (h1 : jH) (e : m_M_wantedIn F o a1 h = some (r, h1)) : jM1 (1 + 0 * F.2) 263 [.ref o, .int a1] h r h1 := jM_of (M := M_M_wantedIn) mok_M_wantedIn (by decide +kernel) (by decide +kernel) (Or.inl ⟨rfl, rfl⟩) (fun q => nomatch q) (jrun_ok ok_M_wantedIn (hc_M_wantedIn F) (jT_ok (List.forall_mem_cons.mpr ⟨g_M_wantedIn_4 F F.1, fun _ h => absurd h List.not_mem_nil⟩)) 32 0) (List.all_eq_true.mp rfl) (Nat.le_of_ble_eq_true rfl) (fun E => Nat.le_of_ble_eq_true rfl) ((e_M_wantedIn F o a1 h).symm.trans e)
theorem co_M_wantedIn (F : Nat × Nat) : jc_ok (1 + 0 * F.2 + 1) 263 (c_M_wantedIn F) := by
  intro as h k out e
  unfold c_M_wantedIn at e
  split at e
  · obtain ⟨a0, rfl, e1⟩ := js_rv e
    obtain ⟨hg, e2⟩ := js_if e1
    obtain ⟨r, h1, hm, e3⟩ := js_jbI e2
    exact ⟨_, _, _, Nat.le_refl _, k_M_wantedIn F _ _ _ _ _ hm, ⟨fun _ => ⟨_, _, rfl, Or.inl ⟨7, by decide, hg, by decide +kernel⟩⟩, fun q => absurd q (by decide +kernel)⟩, e3⟩
  · cases e
def c_M_leftAt (F : Nat × Nat) : jc1 := fun args h k => match args with
  | [w0, .int a1, .int a2] => j_rv w0 fun a0 => if j_k h a0 = 17 then (jbI (m_M_leftAt F a0 a1 a2 h) fun r h => k (some (.int r)) h) else none
  | _ => none
set_option maxRecDepth 100000 in
theorem e_M_leftAt (F : Nat × Nat) (o : Nat) (a1 : Int32) (a2 : Int32) (h : jH) : m_M_leftAt F o a1 a2 h = jrun (j_C []) 0 cd_M_leftAt (j_T []) 14 0 [some (.ref o), some (.int a1), some (.int a2)] [] h := rfl
theorem hc_M_leftAt (F : Nat × Nat) : jCok (0 + 0 * F.2) (j_C []) := jC_ok (fun _ h => absurd h List.not_mem_nil)
theorem k_M_leftAt (F : Nat × Nat) (o : Nat) (a1 : Int32) (a2 : Int32) (h : jH) (r : Option Value) (h1 : jH) (e : m_M_leftAt F o a1 a2 h = some (r, h1)) : jM1 (0 + 0 * F.2) 265 [.ref o, .int a1, .int a2] h r h1 := jM_of (M := M_M_leftAt) mok_M_leftAt (by decide +kernel) (by decide +kernel) (Or.inl ⟨rfl, rfl⟩) (fun q => nomatch q) (jrun_ok ok_M_leftAt (hc_M_leftAt F) (jT_ok (fun _ h => absurd h List.not_mem_nil)) 14 0) (List.all_eq_true.mp rfl) (Nat.le_of_ble_eq_true rfl) (fun E => Nat.le_of_ble_eq_true rfl) ((e_M_leftAt F o a1 a2 h).symm.trans e)
theorem co_M_leftAt (F : Nat × Nat) : jc_ok (0 + 0 * F.2 + 1) 265 (c_M_leftAt F) := by
  intro as h k out e
  unfold c_M_leftAt at e
  split at e
  · obtain ⟨a0, rfl, e1⟩ := js_rv e
    obtain ⟨hg, e2⟩ := js_if e1
    obtain ⟨r, h1, hm, e3⟩ := js_jbI e2
    exact ⟨_, _, _, Nat.le_refl _, k_M_leftAt F _ _ _ _ _ _ hm, ⟨fun _ => ⟨_, _, rfl, Or.inl ⟨7, by decide, hg, by decide +kernel⟩⟩, fun q => absurd q (by decide +kernel)⟩, e3⟩
  · cases e
def c_M_lesser (F : Nat × Nat) : jc1 := fun args h k => match args with
  | [.int a0, .int a1] => jbI (m_M_lesser F a0 a1 h) fun r h => k (some (.int r)) h
  | _ => none
set_option maxRecDepth 100000 in
theorem e_M_lesser (F : Nat × Nat) (a0 : Int32) (a1 : Int32) (h : jH) : m_M_lesser F a0 a1 h = jrun (j_C []) 0 cd_M_lesser (j_T []) 12 0 [some (.int a0), some (.int a1)] [] h := rfl
theorem hc_M_lesser (F : Nat × Nat) : jCok (0 + 0 * F.2) (j_C []) := jC_ok (fun _ h => absurd h List.not_mem_nil)
theorem k_M_lesser (F : Nat × Nat) (a0 : Int32) (a1 : Int32) (h : jH) (r : Option Value) (h1 : jH) (e : m_M_lesser F a0 a1 h = some (r, h1)) : jM1 (0 + 0 * F.2) 267 [.int a0, .int a1] h r h1 := jM_of (M := M_M_lesser) mok_M_lesser (by decide +kernel) (by decide +kernel) (Or.inl ⟨rfl, rfl⟩) (fun q => nomatch q) (jrun_ok ok_M_lesser (hc_M_lesser F) (jT_ok (fun _ h => absurd h List.not_mem_nil)) 12 0) (List.all_eq_true.mp rfl) (Nat.le_of_ble_eq_true rfl) (fun E => Nat.le_of_ble_eq_true rfl) ((e_M_lesser F a0 a1 h).symm.trans e)
theorem co_M_lesser (F : Nat × Nat) : jc_ok (0 + 0 * F.2 + 1) 267 (c_M_lesser F) := by
  intro as h k out e
  unfold c_M_lesser at e
  split at e
  · obtain ⟨r, h1, hm, e1⟩ := js_jbI e
    exact ⟨_, _, _, Nat.le_refl _, k_M_lesser F _ _ _ _ _ hm, ⟨fun q => absurd q (by decide +kernel), fun q => absurd q (by decide +kernel)⟩, e1⟩
  · cases e
