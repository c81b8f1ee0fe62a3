def c_M_lies (F : Nat × Nat) : jc1 := fun args h k => match args with
  | [.int a0, .int a1, .int a2] => jbI (m_M_lies F a0 a1 a2 h) fun r h => k (some (.int r)) h
  | _ => none
set_option maxRecDepth 100000 in
theorem e_M_lies (F : Nat × Nat) (a0 : Int32) (a1 : Int32) (a2 : Int32) (h : jH) : m_M_lies F a0 a1 a2 h = jrun (j_C []) 1 cd_M_lies (j_T []) 15 0 [some (.int a0), some (.int a1), some (.int a2)] [] h := rfl
theorem hc_M_lies (F : Nat × Nat) : jCok (0 + 0 * F.2) (j_C []) := jC_ok (fun _ h => absurd h List.not_mem_nil)
theorem k_M_lies (F : Nat × Nat) (a0 : Int32) (a1 : Int32) (a2 : Int32) (h : jH) (r : Option Value) (h1 : jH) (e : m_M_lies F a0 a1 a2 h = some (r, h1)) : jM1 (0 + 0 * F.2) 157 [.int a0, .int a1, .int a2] h r h1 := jM_of (M := M_M_lies) mok_M_lies (by decide +kernel) (by decide +kernel) (Or.inr (Or.inl ⟨rfl, rfl⟩)) (fun q => nomatch q) (jrun_ok ok_M_lies (hc_M_lies F) (jT_ok (fun _ h => absurd h List.not_mem_nil)) 15 0) (List.all_eq_true.mp rfl) (Nat.le_of_ble_eq_true rfl) (fun E => Nat.le_of_ble_eq_true rfl) ((e_M_lies F a0 a1 a2 h).symm.trans e)
theorem co_M_lies (F : Nat × Nat) : jc_ok (0 + 0 * F.2 + 1) 157 (c_M_lies F) := by
  intro as h k out e
  unfold c_M_lies at e
  split at e
  · obtain ⟨r, h1, hm, e1⟩ := js_jbI e
    exact ⟨_, _, _, Nat.le_refl _, k_M_lies F _ _ _ _ _ _ hm, ⟨fun q => absurd q (by decide +kernel), fun q => absurd q (by decide +kernel)⟩, e1⟩
  · cases e
def c_M_refuses (F : Nat × Nat) : jc1 := fun args h k => match args with
  | [w0, .int a1] => j_rv w0 fun a0 => if j_k h a0 = 17 then (jbI (m_M_refuses F a0 a1 h) fun r h => k (some (.int r)) h) else none
  | _ => none
set_option maxRecDepth 100000 in
theorem e_M_refuses (F : Nat × Nat) (o : Nat) (a1 : Int32) (h : jH) : m_M_refuses F o a1 h = jrun (j_C []) 0 cd_M_refuses (j_T []) 19 0 [some (.ref o), some (.int a1)] [] h := rfl
theorem hc_M_refuses (F : Nat × Nat) : jCok (0 + 0 * F.2) (j_C []) := jC_ok (fun _ h => absurd h List.not_mem_nil)
theorem k_M_refuses (F : Nat × Nat) (o : Nat) (a1 : Int32) (h : jH) (r : Option Value) (h1 : jH) (e : m_M_refuses F o a1 h = some (r, h1)) : jM1 (0 + 0 * F.2) 158 [.ref o, .int a1] h r h1 := jM_of (M := M_M_refuses) mok_M_refuses (by decide +kernel) (by decide +kernel) (Or.inl ⟨rfl, rfl⟩) (fun q => nomatch q) (jrun_ok ok_M_refuses (hc_M_refuses F) (jT_ok (fun _ h => absurd h List.not_mem_nil)) 19 0) (List.all_eq_true.mp rfl) (Nat.le_of_ble_eq_true rfl) (fun E => Nat.le_of_ble_eq_true rfl) ((e_M_refuses F o a1 h).symm.trans e)
theorem co_M_refuses (F : Nat × Nat) : jc_ok (0 + 0 * F.2 + 1) 158 (c_M_refuses F) := by
  intro as h k out e
  unfold c_M_refuses at e
  split at e
  · obtain ⟨a0, rfl, e1⟩ := js_rv e
    obtain ⟨hg, e2⟩ := js_if e1
    obtain ⟨r, h1, hm, e3⟩ := js_jbI e2
    exact ⟨_, _, _, Nat.le_refl _, k_M_refuses F _ _ _ _ _ hm, ⟨fun _ => ⟨_, _, rfl, Or.inl ⟨7, by decide, hg, by decide +kernel⟩⟩, fun q => absurd q (by decide +kernel)⟩, e3⟩
  · cases e
def c_M_good (F : Nat × Nat) : jc1 := fun args h k => match args with
  | [w0, .int a1] => j_rv w0 fun a0 => if j_k h a0 = 17 then (jbI (m_M_good F a0 a1 h) fun r h => k (some (.int r)) h) else none
  | _ => none
set_option maxRecDepth 100000 in
theorem e_M_good (F : Nat × Nat) (o : Nat) (a1 : Int32) (h : jH) : m_M_good F o a1 h = jrun (j_C []) 0 cd_M_good (j_T []) 10 0 [some (.ref o), some (.int a1)] [] h := rfl
theorem hc_M_good (F : Nat × Nat) : jCok (0 + 0 * F.2) (j_C []) := jC_ok (fun _ h => absurd h List.not_mem_nil)
theorem k_M_good (F : Nat × Nat) (o : Nat) (a1 : Int32) (h : jH) (r : Option Value) (h1 : jH) (e : m_M_good F o a1 h = some (r, h1)) : jM1 (0 + 0 * F.2) 159 [.ref o, .int a1] h r h1 := jM_of (M := M_M_good) mok_M_good (by decide +kernel) (by decide +kernel) (Or.inl ⟨rfl, rfl⟩) (fun q => nomatch q) (jrun_ok ok_M_good (hc_M_good F) (jT_ok (fun _ h => absurd h List.not_mem_nil)) 10 0) (List.all_eq_true.mp rfl) (Nat.le_of_ble_eq_true rfl) (fun E => Nat.le_of_ble_eq_true rfl) ((e_M_good F o a1 h).symm.trans e)
theorem co_M_good (F : Nat × Nat) : jc_ok (0 + 0 * F.2 + 1) 159 (c_M_good F) := by
  intro as h k out e
  unfold c_M_good at e
  split at e
  · obtain ⟨a0, rfl, e1⟩ := js_rv e
    obtain ⟨hg, e2⟩ := js_if e1
    obtain ⟨r, h1, hm, e3⟩ := js_jbI e2
    exact ⟨_, _, _, Nat.le_refl _, k_M_good F _ _ _ _ _ hm, ⟨fun _ => ⟨_, _, rfl, Or.inl ⟨7, by decide, hg, by decide +kernel⟩⟩, fun q => absurd q (by decide +kernel)⟩, e3⟩
  · cases e
def r_M_image_17 (g : Nat → Int32 → Int32 → jH → Option jO) : jL → List Value → jH → Option jO := fun L S h => match L, S with
  | [some (.ref v0), some (.int v1), some (.int v2)], [] => g v0 v1 v2 h
  | _, _ => none
def c_M_image (F : Nat × Nat) : jc1 := fun args h k => match args with
  | [w0, .int a1] => j_rv w0 fun a0 => if j_k h a0 = 17 then (jbI (m_M_image F a0 a1 h) fun r h => k (some (.int r)) h) else none
  | _ => none
set_option maxRecDepth 100000 in
theorem e_M_image_17 (F : Nat × Nat) (f : Nat) (v0 : Nat) (v1 : Int32) (v2 : Int32) (h : jH) : m_M_image_17 F (f + 1) v0 v1 v2 h = jst (j_C [(157, c_M_lies F), (158, c_M_refuses F), (159, c_M_good F)]) 0 (cd_M_image 17) [some (.ref v0), some (.int v1), some (.int v2)] [] h (jrun (j_C [(157, c_M_lies F), (158, c_M_refuses F), (159, c_M_good F)]) 0 cd_M_image (j_T [(17, r_M_image_17 (m_M_image_17 F f))]) 42) := rfl
set_option maxRecDepth 100000 in
theorem e_M_image (F : Nat × Nat) (o : Nat) (a1 : Int32) (h : jH) : m_M_image F o a1 h = jrun (j_C [(157, c_M_lies F), (158, c_M_refuses F), (159, c_M_good F)]) 0 cd_M_image (j_T [(17, r_M_image_17 (m_M_image_17 F F.1))]) 42 0 [some (.ref o), some (.int a1), none] [] h := rfl
theorem hc_M_image (F : Nat × Nat) : jCok (1 + 0 * F.2) (j_C [(157, c_M_lies F), (158, c_M_refuses F), (159, c_M_good F)]) := jC_ok (List.forall_mem_cons.mpr ⟨(co_M_lies F).up (by omega), List.forall_mem_cons.mpr ⟨(co_M_refuses F).up (by omega), List.forall_mem_cons.mpr ⟨(co_M_good F).up (by omega), fun _ h => absurd h List.not_mem_nil⟩⟩⟩)
theorem g_M_image_17 (F : Nat × Nat) : ∀ f, jG M_M_image (1 + 0 * F.2) 17 (r_M_image_17 (m_M_image_17 F f))
  | 0 => jG.no (fun L S h => by unfold r_M_image_17; split <;> rfl)
  | f + 1 => (jst_ok ok_M_image (hc_M_image F) (jrun_ok ok_M_image (hc_M_image F) (jT_ok (List.forall_mem_cons.mpr ⟨g_M_image_17 F f, fun _ h => absurd h List.not_mem_nil⟩)) 42) 17).of (fun L S h out e => by unfold r_M_image_17 at e; split at e; exact (e_M_image_17 F f _ _ _ _).symm.trans e; cases e)
theorem k_M_image (F : Nat × Nat) (o : Nat) (a1 : Int32) (h : jH) (r : Option Value) (h1 : jH) (e : m_M_image F o a1 h = some (r, h1)) : jM1 (1 + 0 * F.2) 156 [.ref o, .int a1] h r h1 := jM_of (M := M_M_image) mok_M_image (by decide +kernel) (by decide +kernel) (Or.inl ⟨rfl, rfl⟩) (fun q => nomatch q) (jrun_ok ok_M_image (hc_M_image F) (jT_ok (List.forall_mem_cons.mpr ⟨g_M_image_17 F F.1, fun _ h => absurd h List.not_mem_nil⟩)) 42 0) (List.all_eq_true.mp rfl) (Nat.le_of_ble_eq_true rfl) (fun E => Nat.le_of_ble_eq_true rfl) ((e_M_image F o a1 h).symm.trans e)
theorem co_M_image (F : Nat × Nat) : jc_ok (1 + 0 * F.2 + 1) 156 (c_M_image F) := by
  intro as h k out e
  unfold c_M_image at e
  split at e
  · obtain ⟨a0, rfl, e1⟩ := js_rv e
    obtain ⟨hg, e2⟩ := js_if e1
    obtain ⟨r, h1, hm, e3⟩ := js_jbI e2
    exact ⟨_, _, _, Nat.le_refl _, k_M_image F _ _ _ _ _ hm, ⟨fun _ => ⟨_, _, rfl, Or.inl ⟨7, by decide, hg, by decide +kernel⟩⟩, fun q => absurd q (by decide +kernel)⟩, e3⟩
  · cases e
def c_M_settled (F : Nat × Nat) : jc1 := fun args h k => match args with
  | [w0, .int a1] => j_rv w0 fun a0 => if j_k h a0 = 17 then (jbI (m_M_settled F a0 a1 h) fun r h => k (some (.int r)) h) else none
  | _ => none
set_option maxRecDepth 100000 in
theorem e_M_settled (F : Nat × Nat) (o : Nat) (a1 : Int32) (h : jH) : m_M_settled F o a1 h = jrun (j_C [(159, c_M_good F)]) 0 cd_M_settled (j_T []) 12 0 [some (.ref o), some (.int a1)] [] h := rfl
theorem hc_M_settled (F : Nat × Nat) : jCok (1 + 0 * F.2) (j_C [(159, c_M_good F)]) := jC_ok (List.forall_mem_cons.mpr ⟨(co_M_good F).up (by omega), fun _ h => absurd h List.not_mem_nil⟩)
theorem k_M_settled (F : Nat × Nat) (o : Nat) (a1 : Int32) (h : jH) (r : Option Value) (h1 : jH) (e : m_M_settled F o a1 h = some (r, h1)) : jM1 (1 + 0 * F.2) 161 [.ref o, .int a1] h r h1 := jM_of (M := M_M_settled) mok_M_settled (by decide +kernel) (by decide +kernel) (Or.inl ⟨rfl, rfl⟩) (fun q => nomatch q) (jrun_ok ok_M_settled (hc_M_settled F) (jT_ok (fun _ h => absurd h List.not_mem_nil)) 12 0) (List.all_eq_true.mp rfl) (Nat.le_of_ble_eq_true rfl) (fun E => Nat.le_of_ble_eq_true rfl) ((e_M_settled F o a1 h).symm.trans e)
theorem co_M_settled (F : Nat × Nat) : jc_ok (1 + 0 * F.2 + 1) 161 (c_M_settled F) := by
  intro as h k out e
  unfold c_M_settled at e
  split at e
  · obtain ⟨a0, rfl, e1⟩ := js_rv e
    obtain ⟨hg, e2⟩ := js_if e1
    obtain ⟨r, h1, hm, e3⟩ := js_jbI e2
    exact ⟨_, _, _, Nat.le_refl _, k_M_settled F _ _ _ _ _ hm, ⟨fun _ => ⟨_, _, rfl, Or.inl ⟨7, by decide, hg, by decide +kernel⟩⟩, fun q => absurd q (by decide +kernel)⟩, e3⟩
  · cases e
def r_M_back_33 (g : Nat → Int32 → Int32 → jH → Option jO) : jL → List Value → jH → Option jO := fun L S h => match L, S with
  | [some (.ref v0), some (.int v1), some (.int v2)], [] => g v0 v1 v2 h
  | _, _ => none
def c_M_back (F : Nat × Nat) : jc1 := fun args h k => match args with
  | [w0, .int a1] => j_rv w0 fun a0 => if j_k h a0 = 17 then (jbI (m_M_back F a0 a1 h) fun r h => k (some (.int r)) h) else none
  | _ => none
set_option maxRecDepth 100000 in
theorem e_M_back_33 (F : Nat × Nat) (f : Nat) (v0 : Nat) (v1 : Int32) (v2 : Int32) (h : jH) : m_M_back_33 F (f + 1) v0 v1 v2 h = jst (j_C [(157, c_M_lies F), (158, c_M_refuses F), (161, c_M_settled F)]) 0 (cd_M_back 33) [some (.ref v0), some (.int v1), some (.int v2)] [] h (jrun (j_C [(157, c_M_lies F), (158, c_M_refuses F), (161, c_M_settled F)]) 0 cd_M_back (j_T [(33, r_M_back_33 (m_M_back_33 F f))]) 46) := rfl
set_option maxRecDepth 100000 in
theorem e_M_back (F : Nat × Nat) (o : Nat) (a1 : Int32) (h : jH) : m_M_back F o a1 h = jrun (j_C [(157, c_M_lies F), (158, c_M_refuses F), (161, c_M_settled F)]) 0 cd_M_back (j_T [(33, r_M_back_33 (m_M_back_33 F F.1))]) 46 0 [some (.ref o), some (.int a1), none] [] h := rfl
theorem hc_M_back (F : Nat × Nat) : jCok (2 + 0 * F.2) (j_C [(157, c_M_lies F), (158, c_M_refuses F), (161, c_M_settled F)]) := jC_ok (List.forall_mem_cons.mpr ⟨(co_M_lies F).up (by omega), List.forall_mem_cons.mpr ⟨(co_M_refuses F).up (by omega), List.forall_mem_cons.mpr ⟨(co_M_settled F).up (by omega), fun _ h => absurd h List.not_mem_nil⟩⟩⟩)
theorem g_M_back_33 (F : Nat × Nat) : ∀ f, jG M_M_back (2 + 0 * F.2) 33 (r_M_back_33 (m_M_back_33 F f))
  | 0 => jG.no (fun L S h => by unfold r_M_back_33; split <;> rfl)
  | f + 1 => (jst_ok ok_M_back (hc_M_back F) (jrun_ok ok_M_back (hc_M_back F) (jT_ok (List.forall_mem_cons.mpr ⟨g_M_back_33 F f, fun _ h => absurd h List.not_mem_nil⟩)) 46) 33).of (fun L S h out e => by unfold r_M_back_33 at e; split at e; exact (e_M_back_33 F f _ _ _ _).symm.trans e; cases e)
theorem k_M_back (F : Nat × Nat) (o : Nat) (a1 : Int32) (h : jH) (r : Option Value) (h1 : jH) (e : m_M_back F o a1 h = some (r, h1)) : jM1 (2 + 0 * F.2) 160 [.ref o, .int a1] h r h1 := jM_of (M := M_M_back) mok_M_back (by decide +kernel) (by decide +kernel) (Or.inl ⟨rfl, rfl⟩) (fun q => nomatch q) (jrun_ok ok_M_back (hc_M_back F) (jT_ok (List.forall_mem_cons.mpr ⟨g_M_back_33 F F.1, fun _ h => absurd h List.not_mem_nil⟩)) 46 0) (List.all_eq_true.mp rfl) (Nat.le_of_ble_eq_true rfl) (fun E => Nat.le_of_ble_eq_true rfl) ((e_M_back F o a1 h).symm.trans e)
theorem co_M_back (F : Nat × Nat) : jc_ok (2 + 0 * F.2 + 1) 160 (c_M_back F) := by
  intro as h k out e
  unfold c_M_back at e
  split at e
  · obtain ⟨a0, rfl, e1⟩ := js_rv e
    obtain ⟨hg, e2⟩ := js_if e1
    obtain ⟨r, h1, hm, e3⟩ := js_jbI e2
    exact ⟨_, _, _, Nat.le_refl _, k_M_back F _ _ _ _ _ hm, ⟨fun _ => ⟨_, _, rfl, Or.inl ⟨7, by decide, hg, by decide +kernel⟩⟩, fun q => absurd q (by decide +kernel)⟩, e3⟩
  · cases e
def c_M_isCell (F : Nat × Nat) : jc1 := fun args h k => match args with
  | [.int a0] => jbI (m_M_isCell F a0 h) fun r h => k (some (.int r)) h
  | _ => none
set_option maxRecDepth 100000 in
theorem e_M_isCell (F : Nat × Nat) (a0 : Int32) (h : jH) : m_M_isCell F a0 h = jrun (j_C [(157, c_M_lies F)]) 1 cd_M_isCell (j_T []) 10 0 [some (.int a0)] [] h := rfl
theorem hc_M_isCell (F : Nat × Nat) : jCok (1 + 0 * F.2) (j_C [(157, c_M_lies F)]) := jC_ok (List.forall_mem_cons.mpr ⟨(co_M_lies F).up (by omega), fun _ h => absurd h List.not_mem_nil⟩)
theorem k_M_isCell (F : Nat × Nat) (a0 : Int32) (h : jH) (r : Option Value) (h1 : jH) (e : m_M_isCell F a0 h = some (r, h1)) : jM1 (1 + 0 * F.2) 164 [.int a0] h r h1 := jM_of (M := M_M_isCell) mok_M_isCell (by decide +kernel) (by decide +kernel) (Or.inr (Or.inl ⟨rfl, rfl⟩)) (fun q => nomatch q) (jrun_ok ok_M_isCell (hc_M_isCell F) (jT_ok (fun _ h => absurd h List.not_mem_nil)) 10 0) (List.all_eq_true.mp rfl) (Nat.le_of_ble_eq_true rfl) (fun E => Nat.le_of_ble_eq_true rfl) ((e_M_isCell F a0 h).symm.trans e)
theorem co_M_isCell (F : Nat × Nat) : jc_ok (1 + 0 * F.2 + 1) 164 (c_M_isCell F) := by
  intro as h k out e
  unfold c_M_isCell at e
  split at e
  · obtain ⟨r, h1, hm, e1⟩ := js_jbI e
    exact ⟨_, _, _, Nat.le_refl _, k_M_isCell F _ _ _ _ hm, ⟨fun q => absurd q (by decide +kernel), fun q => absurd q (by decide +kernel)⟩, e1⟩
  · cases e
def c_M_canCell (F : Nat × Nat) : jc1 := fun args h k => match args with
  | [.int a0, .int a1, .int a2] => jbI (m_M_canCell F a0 a1 a2 h) fun r h => k (some (.int r)) h
  | _ => none
set_option maxRecDepth 100000 in
theorem e_M_canCell (F : Nat × Nat) (a0 : Int32) (a1 : Int32) (a2 : Int32) (h : jH) : m_M_canCell F a0 a1 a2 h = jrun (j_C [(157, c_M_lies F), (164, c_M_isCell F)]) 1 cd_M_canCell (j_T []) 22 0 [some (.int a0), some (.int a1), some (.int a2)] [] h := rfl
theorem hc_M_canCell (F : Nat × Nat) : jCok (2 + 0 * F.2) (j_C [(157, c_M_lies F), (164, c_M_isCell F)]) := jC_ok (List.forall_mem_cons.mpr ⟨(co_M_lies F).up (by omega), List.forall_mem_cons.mpr ⟨(co_M_isCell F).up (by omega), fun _ h => absurd h List.not_mem_nil⟩⟩)
theorem k_M_canCell (F : Nat × Nat) (a0 : Int32) (a1 : Int32) (a2 : Int32) (h : jH) (r : Option Value) (h1 : jH) (e : m_M_canCell F a0 a1 a2 h = some (r, h1)) : jM1 (2 + 0 * F.2) 163 [.int a0, .int a1, .int a2] h r h1 := jM_of (M := M_M_canCell) mok_M_canCell (by decide +kernel) (by decide +kernel) (Or.inr (Or.inl ⟨rfl, rfl⟩)) (fun q => nomatch q) (jrun_ok ok_M_canCell (hc_M_canCell F) (jT_ok (fun _ h => absurd h List.not_mem_nil)) 22 0) (List.all_eq_true.mp rfl) (Nat.le_of_ble_eq_true rfl) (fun E => Nat.le_of_ble_eq_true rfl) ((e_M_canCell F a0 a1 a2 h).symm.trans e)
theorem co_M_canCell (F : Nat × Nat) : jc_ok (2 + 0 * F.2 + 1) 163 (c_M_canCell F) := by
  intro as h k out e
  unfold c_M_canCell at e
  split at e
  · obtain ⟨r, h1, hm, e1⟩ := js_jbI e
    exact ⟨_, _, _, Nat.le_refl _, k_M_canCell F _ _ _ _ _ _ hm, ⟨fun q => absurd q (by decide +kernel), fun q => absurd q (by decide +kernel)⟩, e1⟩
  · cases e
def c_M_laysCell (F : Nat × Nat) : jc1 := fun args h k => match args with
  | [w0, .int a1, .int a2, .int a3] => j_rv w0 fun a0 => if j_k h a0 = 17 then (jbV (m_M_laysCell F a0 a1 a2 a3 h) fun h => k none h) else none
  | _ => none
set_option maxRecDepth 100000 in
theorem e_M_laysCell (F : Nat × Nat) (o : Nat) (a1 : Int32) (a2 : Int32) (a3 : Int32) (h : jH) : m_M_laysCell F o a1 a2 a3 h = jrun (j_C []) 4 cd_M_laysCell (j_T []) 20 0 [some (.ref o), some (.int a1), some (.int a2), some (.int a3)] [] h := rfl
theorem hc_M_laysCell (F : Nat × Nat) : jCok (0 + 0 * F.2) (j_C []) := jC_ok (fun _ h => absurd h List.not_mem_nil)
theorem k_M_laysCell (F : Nat × Nat) (o : Nat) (a1 : Int32) (a2 : Int32) (a3 : Int32) (h : jH) (r : Option Value) (h1 : jH) (e : m_M_laysCell F o a1 a2 a3 h = some (r, h1)) : jM1 (0 + 0 * F.2) 165 [.ref o, .int a1, .int a2, .int a3] h r h1 := jM_of (M := M_M_laysCell) mok_M_laysCell (by decide +kernel) (by decide +kernel) (Or.inr (Or.inr (Or.inr (Or.inr ⟨rfl, rfl⟩)))) (fun q => nomatch q) (jrun_ok ok_M_laysCell (hc_M_laysCell F) (jT_ok (fun _ h => absurd h List.not_mem_nil)) 20 0) (List.all_eq_true.mp rfl) (Nat.le_of_ble_eq_true rfl) (fun E => Nat.le_of_ble_eq_true rfl) ((e_M_laysCell F o a1 a2 a3 h).symm.trans e)
theorem co_M_laysCell (F : Nat × Nat) : jc_ok (0 + 0 * F.2 + 1) 165 (c_M_laysCell F) := by
  intro as h k out e
  unfold c_M_laysCell at e
  split at e
  · obtain ⟨a0, rfl, e1⟩ := js_rv e
    obtain ⟨hg, e2⟩ := js_if e1
    obtain ⟨h1, hm, e3⟩ := js_jbV e2
    exact ⟨_, _, _, Nat.le_refl _, k_M_laysCell F _ _ _ _ _ _ _ hm, ⟨fun _ => ⟨_, _, rfl, Or.inl ⟨7, by decide, hg, by decide +kernel⟩⟩, fun q => absurd q (by decide +kernel)⟩, e3⟩
  · cases e
def c_M_cell (F : Nat × Nat) : jc1 := fun args h k => match args with
  | [w0, .int a1, .int a2, .int a3] => j_rv w0 fun a0 => if j_k h a0 = 17 then (jbI (m_M_cell F a0 a1 a2 a3 h) fun r h => k (some (.int r)) h) else none
  | _ => none
set_option maxRecDepth 100000 in
theorem e_M_cell (F : Nat × Nat) (o : Nat) (a1 : Int32) (a2 : Int32) (a3 : Int32) (h : jH) : m_M_cell F o a1 a2 a3 h = jrun (j_C [(158, c_M_refuses F), (159, c_M_good F), (163, c_M_canCell F), (165, c_M_laysCell F)]) 0 cd_M_cell (j_T []) 30 0 [some (.ref o), some (.int a1), some (.int a2), some (.int a3), none] [] h := rfl
theorem hc_M_cell (F : Nat × Nat) : jCok (3 + 0 * F.2) (j_C [(158, c_M_refuses F), (159, c_M_good F), (163, c_M_canCell F), (165, c_M_laysCell F)]) := jC_ok (List.forall_mem_cons.mpr ⟨(co_M_refuses F).up (by omega), List.forall_mem_cons.mpr ⟨(co_M_good F).up (by omega), List.forall_mem_cons.mpr ⟨(co_M_canCell F).up (by omega), List.forall_mem_cons.mpr ⟨(co_M_laysCell F).up (by omega), fun _ h => absurd h List.not_mem_nil⟩⟩⟩⟩)
theorem k_M_cell (F : Nat × Nat) (o : Nat) (a1 : Int32) (a2 : Int32) (a3 : Int32) (h : jH) (r : Option Value) (h1 : jH) (e : m_M_cell F o a1 a2 a3 h = some (r, h1)) : jM1 (3 + 0 * F.2) 162 [.ref o, .int a1, .int a2, .int a3] h r h1 := jM_of (M := M_M_cell) mok_M_cell (by decide +kernel) (by decide +kernel) (Or.inl ⟨rfl, rfl⟩) (fun q => nomatch q) (jrun_ok ok_M_cell (hc_M_cell F) (jT_ok (fun _ h => absurd h List.not_mem_nil)) 30 0) (List.all_eq_true.mp rfl) (Nat.le_of_ble_eq_true rfl) (fun E => Nat.le_of_ble_eq_true rfl) ((e_M_cell F o a1 a2 a3 h).symm.trans e)
theorem co_M_cell (F : Nat × Nat) : jc_ok (3 + 0 * F.2 + 1) 162 (c_M_cell F) := by
  intro as h k out e
  unfold c_M_cell at e
  split at e
  · obtain ⟨a0, rfl, e1⟩ := js_rv e
    obtain ⟨hg, e2⟩ := js_if e1
    obtain ⟨r, h1, hm, e3⟩ := js_jbI e2
    exact ⟨_, _, _, Nat.le_refl _, k_M_cell F _ _ _ _ _ _ _ hm, ⟨fun _ => ⟨_, _, rfl, Or.inl ⟨7, by decide, hg, by decide +kernel⟩⟩, fun q => absurd q (by decide +kernel)⟩, e3⟩
  · cases e
def c_M_many (F : Nat × Nat) : jc1 := fun args h k => match args with
  | [w0] => j_rv w0 fun a0 => if j_k h a0 = 17 then (jbI (m_M_many F a0 h) fun r h => k (some (.int r)) h) else none
  | _ => none
set_option maxRecDepth 100000 in
theorem e_M_many (F : Nat × Nat) (o : Nat) (h : jH) : m_M_many F o h = jrun (j_C []) 0 cd_M_many (j_T []) 10 0 [some (.ref o)] [] h := rfl
theorem hc_M_many (F : Nat × Nat) : jCok (0 + 0 * F.2) (j_C []) := jC_ok (fun _ h => absurd h List.not_mem_nil)
theorem k_M_many (F : Nat × Nat) (o : Nat) (h : jH) (r : Option Value) (h1 : jH) (e : m_M_many F o h = some (r, h1)) : jM1 (0 + 0 * F.2) 168 [.ref o] h r h1 := jM_of (M := M_M_many) mok_M_many (by decide +kernel) (by decide +kernel) (Or.inl ⟨rfl, rfl⟩) (fun q => nomatch q) (jrun_ok ok_M_many (hc_M_many F) (jT_ok (fun _ h => absurd h List.not_mem_nil)) 10 0) (List.all_eq_true.mp rfl) (Nat.le_of_ble_eq_true rfl) (fun E => Nat.le_of_ble_eq_true rfl) ((e_M_many F o h).symm.trans e)
theorem co_M_many (F : Nat × Nat) : jc_ok (0 + 0 * F.2 + 1) 168 (c_M_many F) := by
  intro as h k out e
  unfold c_M_many at e
  split at e
  · obtain ⟨a0, rfl, e1⟩ := js_rv e
    obtain ⟨hg, e2⟩ := js_if e1
    obtain ⟨r, h1, hm, e3⟩ := js_jbI e2
    exact ⟨_, _, _, Nat.le_refl _, k_M_many F _ _ _ _ hm, ⟨fun _ => ⟨_, _, rfl, Or.inl ⟨7, by decide, hg, by decide +kernel⟩⟩, fun q => absurd q (by decide +kernel)⟩, e3⟩
  · cases e
def c_M_spotOf (F : Nat × Nat) : jc1 := fun args h k => match args with
  | [w0, .int a1] => j_rv w0 fun a0 => if j_k h a0 = 17 then (jbI (m_M_spotOf F a0 a1 h) fun r h => k (some (.int r)) h) else none
  | _ => none
set_option maxRecDepth 100000 in
theorem e_M_spotOf (F : Nat × Nat) (o : Nat) (a1 : Int32) (h : jH) : m_M_spotOf F o a1 h = jrun (j_C []) 0 cd_M_spotOf (j_T []) 12 0 [some (.ref o), some (.int a1)] [] h := rfl
theorem hc_M_spotOf (F : Nat × Nat) : jCok (0 + 0 * F.2) (j_C []) := jC_ok (fun _ h => absurd h List.not_mem_nil)
theorem k_M_spotOf (F : Nat × Nat) (o : Nat) (a1 : Int32) (h : jH) (r : Option Value) (h1 : jH) (e : m_M_spotOf F o a1 h = some (r, h1)) : jM1 (0 + 0 * F.2) 169 [.ref o, .int a1] h r h1 := jM_of (M := M_M_spotOf) mok_M_spotOf (by decide +kernel) (by decide +kernel) (Or.inl ⟨rfl, rfl⟩) (fun q => nomatch q) (jrun_ok ok_M_spotOf (hc_M_spotOf F) (jT_ok (fun _ h => absurd h List.not_mem_nil)) 12 0) (List.all_eq_true.mp rfl) (Nat.le_of_ble_eq_true rfl) (fun E => Nat.le_of_ble_eq_true rfl) ((e_M_spotOf F o a1 h).symm.trans e)
theorem co_M_spotOf (F : Nat × Nat) : jc_ok (0 + 0 * F.2 + 1) 169 (c_M_spotOf F) := by
  intro as h k out e
  unfold c_M_spotOf at e
  split at e
  · obtain ⟨a0, rfl, e1⟩ := js_rv e
    obtain ⟨hg, e2⟩ := js_if e1
    obtain ⟨r, h1, hm, e3⟩ := js_jbI e2
    exact ⟨_, _, _, Nat.le_refl _, k_M_spotOf F _ _ _ _ _ hm, ⟨fun _ => ⟨_, _, rfl, Or.inl ⟨7, by decide, hg, by decide +kernel⟩⟩, fun q => absurd q (by decide +kernel)⟩, e3⟩
  · cases e
def r_M_whoIsAt_4 (g : Nat → Int32 → Int32 → Int32 → jH → Option jO) : jL → List Value → jH → Option jO := fun L S h => match L, S with
  | [some (.ref v0), some (.int v1), some (.int v2), some (.int v3)], [] => g v0 v1 v2 v3 h
  | _, _ => none
def c_M_whoIsAt (F : Nat × Nat) : jc1 := fun args h k => match args with
  | [w0, .int a1] => j_rv w0 fun a0 => if j_k h a0 = 17 then (jbI (m_M_whoIsAt F a0 a1 h) fun r h => k (some (.int r)) h) else none
  | _ => none
set_option maxRecDepth 100000 in
theorem e_M_whoIsAt_4 (F : Nat × Nat) (f : Nat) (v0 : Nat) (v1 : Int32) (v2 : Int32) (v3 : Int32) (h : jH) : m_M_whoIsAt_4 F (f + 1) v0 v1 v2 v3 h = jst (j_C [(168, c_M_many F), (169, c_M_spotOf F)]) 0 (cd_M_whoIsAt 4) [some (.ref v0), some (.int v1), some (.int v2), some (.int v3)] [] h (jrun (j_C [(168, c_M_many F), (169, c_M_spotOf F)]) 0 cd_M_whoIsAt (j_T [(4, r_M_whoIsAt_4 (m_M_whoIsAt_4 F f))]) 30) := rfl
set_option maxRecDepth 100000 in
theorem e_M_whoIsAt (F : Nat × Nat) (o : Nat) (a1 : Int32) (h : jH) : m_M_whoIsAt F o a1 h = jrun (j_C [(168, c_M_many F), (169, c_M_spotOf F)]) 0 cd_M_whoIsAt (j_T [(4, r_M_whoIsAt_4 (m_M_whoIsAt_4 F F.1))]) 30 0 [some (.ref o), some (.int a1), none, none] [] h := rfl
theorem hc_M_whoIsAt (F : Nat × Nat) : jCok (1 + 0 * F.2) (j_C [(168, c_M_many F), (169, c_M_spotOf F)]) := jC_ok (List.forall_mem_cons.mpr ⟨(co_M_many F).up (by omega), List.forall_mem_cons.mpr ⟨(co_M_spotOf F).up (by omega), fun _ h => absurd h List.not_mem_nil⟩⟩)
theorem g_M_whoIsAt_4 (F : Nat × Nat) : ∀ f, jG M_M_whoIsAt (1 + 0 * F.2) 4 (r_M_whoIsAt_4 (m_M_whoIsAt_4 F f))
  | 0 => jG.no (fun L S h => by unfold r_M_whoIsAt_4; split <;> rfl)
  | f + 1 => (jst_ok ok_M_whoIsAt (hc_M_whoIsAt F) (jrun_ok ok_M_whoIsAt (hc_M_whoIsAt F) (jT_ok (List.forall_mem_cons.mpr ⟨g_M_whoIsAt_4 F f, fun _ h => absurd h List.not_mem_nil⟩)) 30) 4).of (fun L S h out e => by unfold r_M_whoIsAt_4 at e; split at e; exact (e_M_whoIsAt_4 F f _ _ _ _ _).symm.trans e; cases e)
theorem k_M_whoIsAt (F : Nat × Nat) (o : Nat) (a1 : Int32) (h : jH) (r : Option Value) (h1 : jH) (e : m_M_whoIsAt F o a1 h = some (r, h1)) : jM1 (1 + 0 * F.2) 167 [.ref o, .int a1] h r h1 := jM_of (M := M_M_whoIsAt) mok_M_whoIsAt (by decide +kernel) (by decide +kernel) (Or.inl ⟨rfl, rfl⟩) (fun q => nomatch q) (jrun_ok ok_M_whoIsAt (hc_M_whoIsAt F) (jT_ok (List.forall_mem_cons.mpr ⟨g_M_whoIsAt_4 F F.1, fun _ h => absurd h List.not_mem_nil⟩)) 30 0) (List.all_eq_true.mp rfl) (Nat.le_of_ble_eq_true rfl) (fun E => Nat.le_of_ble_eq_true rfl) ((e_M_whoIsAt F o a1 h).symm.trans e)
theorem co_M_whoIsAt (F : Nat × Nat) : jc_ok (1 + 0 * F.2 + 1) 167 (c_M_whoIsAt F) := by
  intro as h k out e
  unfold c_M_whoIsAt at e
  split at e
  · obtain ⟨a0, rfl, e1⟩ := js_rv e
    obtain ⟨hg, e2⟩ := js_if e1
    obtain ⟨r, h1, hm, e3⟩ := js_jbI e2
    exact ⟨_, _, _, Nat.le_refl _, k_M_whoIsAt F _ _ _ _ _ hm, ⟨fun _ => ⟨_, _, rfl, Or.inl ⟨7, by decide, hg, by decide +kernel⟩⟩, fun q => absurd q (by decide +kernel)⟩, e3⟩
  · cases e
def c_M_land (F : Nat × Nat) : jc1 := fun args h k => match args with
  | [w0, .int a1, .int a2] => j_rv w0 fun a0 => if j_k h a0 = 17 then (jbI (m_M_land F a0 a1 a2 h) fun r h => k (some (.int r)) h) else none
  | _ => none
set_option maxRecDepth 100000 in
theorem e_M_land (F : Nat × Nat) (o : Nat) (a1 : Int32) (a2 : Int32) (h : jH) : m_M_land F o a1 a2 h = jrun (j_C [(164, c_M_isCell F), (167, c_M_whoIsAt F)]) 0 cd_M_land (j_T []) 32 0 [some (.ref o), some (.int a1), some (.int a2)] [] h := rfl
theorem hc_M_land (F : Nat × Nat) : jCok (2 + 0 * F.2) (j_C [(164, c_M_isCell F), (167, c_M_whoIsAt F)]) := jC_ok (List.forall_mem_cons.mpr ⟨(co_M_isCell F).up (by omega), List.forall_mem_cons.mpr ⟨(co_M_whoIsAt F).up (by omega), fun _ h => absurd h List.not_mem_nil⟩⟩)
theorem k_M_land (F : Nat × Nat) (o : Nat) (a1 : Int32) (a2 : Int32) (h : jH) (r : Option Value) (h1 : jH) (e : m_M_land F o a1 a2 h = some (r, h1)) : jM1 (2 + 0 * F.2) 166 [.ref o, .int a1, .int a2] h r h1 := jM_of (M := M_M_land) mok_M_land (by decide +kernel) (by decide +kernel) (Or.inl ⟨rfl, rfl⟩) (fun q => nomatch q) (jrun_ok ok_M_land (hc_M_land F) (jT_ok (fun _ h => absurd h List.not_mem_nil)) 32 0) (List.all_eq_true.mp rfl) (Nat.le_of_ble_eq_true rfl) (fun E => Nat.le_of_ble_eq_true rfl) ((e_M_land F o a1 a2 h).symm.trans e)
theorem co_M_land (F : Nat × Nat) : jc_ok (2 + 0 * F.2 + 1) 166 (c_M_land F) := by
  intro as h k out e
  unfold c_M_land at e
  split at e
  · obtain ⟨a0, rfl, e1⟩ := js_rv e
    obtain ⟨hg, e2⟩ := js_if e1
    obtain ⟨r, h1, hm, e3⟩ := js_jbI e2
    exact ⟨_, _, _, Nat.le_refl _, k_M_land F _ _ _ _ _ _ hm, ⟨fun _ => ⟨_, _, rfl, Or.inl ⟨7, by decide, hg, by decide +kernel⟩⟩, fun q => absurd q (by decide +kernel)⟩, e3⟩
  · cases e
def r_M_walker_52 (g : Nat → Int32 → Int32 → Int32 → jH → Option jO) : jL → List Value → jH → Option jO := fun L S h => match L, S with
  | [some (.ref v0), _, some (.int v2), some (.int v3), some (.int v4)], [] => g v0 v2 v3 v4 h
  | _, _ => none
def c_M_walker (F : Nat × Nat) : jc1 := fun args h k => match args with
  | [w0, .int a1, .int a2] => j_rv w0 fun a0 => if j_k h a0 = 17 then (jbI (m_M_walker F a0 a1 a2 h) fun r h => k (some (.int r)) h) else none
  | _ => none
set_option maxRecDepth 100000 in
theorem e_M_walker_52 (F : Nat × Nat) (f : Nat) (v0 : Nat) (v2 : Int32) (v3 : Int32) (v4 : Int32) (u1 : Option Value) (h : jH) : m_M_walker_52 F (f + 1) v0 v2 v3 v4 h = jst (j_C [(157, c_M_lies F), (158, c_M_refuses F), (161, c_M_settled F), (164, c_M_isCell F), (168, c_M_many F)]) 0 (cd_M_walker 52) [some (.ref v0), u1, some (.int v2), some (.int v3), some (.int v4)] [] h (jrun (j_C [(157, c_M_lies F), (158, c_M_refuses F), (161, c_M_settled F), (164, c_M_isCell F), (168, c_M_many F)]) 0 cd_M_walker (j_T [(52, r_M_walker_52 (m_M_walker_52 F f))]) 78) := rfl
set_option maxRecDepth 100000 in
theorem e_M_walker (F : Nat × Nat) (o : Nat) (a1 : Int32) (a2 : Int32) (h : jH) : m_M_walker F o a1 a2 h = jrun (j_C [(157, c_M_lies F), (158, c_M_refuses F), (161, c_M_settled F), (164, c_M_isCell F), (168, c_M_many F)]) 0 cd_M_walker (j_T [(52, r_M_walker_52 (m_M_walker_52 F F.1))]) 78 0 [some (.ref o), some (.int a1), some (.int a2), none, none] [] h := rfl
theorem hc_M_walker (F : Nat × Nat) : jCok (2 + 0 * F.2) (j_C [(157, c_M_lies F), (158, c_M_refuses F), (161, c_M_settled F), (164, c_M_isCell F), (168, c_M_many F)]) := jC_ok (List.forall_mem_cons.mpr ⟨(co_M_lies F).up (by omega), List.forall_mem_cons.mpr ⟨(co_M_refuses F).up (by omega), List.forall_mem_cons.mpr ⟨(co_M_settled F).up (by omega), List.forall_mem_cons.mpr ⟨(co_M_isCell F).up (by omega), List.forall_mem_cons.mpr ⟨(co_M_many F).up (by omega), fun _ h => absurd h List.not_mem_nil⟩⟩⟩⟩⟩)
theorem g_M_walker_52 (F : Nat × Nat) : ∀ f, jG M_M_walker (2 + 0 * F.2) 52 (r_M_walker_52 (m_M_walker_52 F f))
  | 0 => jG.no (fun L S h => by unfold r_M_walker_52; split <;> rfl)
  | f + 1 => (jst_ok ok_M_walker (hc_M_walker F) (jrun_ok ok_M_walker (hc_M_walker F) (jT_ok (List.forall_mem_cons.mpr ⟨g_M_walker_52 F f, fun _ h => absurd h List.not_mem_nil⟩)) 78) 52).of (fun L S h out e => by unfold r_M_walker_52 at e; split at e; exact (e_M_walker_52 F f _ _ _ _ _ _).symm.trans e; cases e)
theorem k_M_walker (F : Nat × Nat) (o : Nat) (a1 : Int32) (a2 : Int32) (h : jH) (r : Option Value) (h1 : jH) (e : m_M_walker F o a1 a2 h = some (r, h1)) : jM1 (2 + 0 * F.2) 170 [.ref o, .int a1, .int a2] h r h1 := jM_of (M := M_M_walker) mok_M_walker (by decide +kernel) (by decide +kernel) (Or.inl ⟨rfl, rfl⟩) (fun q => nomatch q) (jrun_ok ok_M_walker (hc_M_walker F) (jT_ok (List.forall_mem_cons.mpr ⟨g_M_walker_52 F F.1, fun _ h => absurd h List.not_mem_nil⟩)) 78 0) (List.all_eq_true.mp rfl) (Nat.le_of_ble_eq_true rfl) (fun E => Nat.le_of_ble_eq_true rfl) ((e_M_walker F o a1 a2 h).symm.trans e)
theorem co_M_walker (F : Nat × Nat) : jc_ok (2 + 0 * F.2 + 1) 170 (c_M_walker F) := by
  intro as h k out e
  unfold c_M_walker at e
  split at e
  · obtain ⟨a0, rfl, e1⟩ := js_rv e
    obtain ⟨hg, e2⟩ := js_if e1
    obtain ⟨r, h1, hm, e3⟩ := js_jbI e2
    exact ⟨_, _, _, Nat.le_refl _, k_M_walker F _ _ _ _ _ _ hm, ⟨fun _ => ⟨_, _, rfl, Or.inl ⟨7, by decide, hg, by decide +kernel⟩⟩, fun q => absurd q (by decide +kernel)⟩, e3⟩
  · cases e
def c_M_isWalker (F : Nat × Nat) : jc1 := fun args h k => match args with
  | [w0, .int a1] => j_rv w0 fun a0 => if j_k h a0 = 17 then (jbI (m_M_isWalker F a0 a1 h) fun r h => k (some (.int r)) h) else none
  | _ => none
set_option maxRecDepth 100000 in
theorem e_M_isWalker (F : Nat × Nat) (o : Nat) (a1 : Int32) (h : jH) : m_M_isWalker F o a1 h = jrun (j_C [(157, c_M_lies F), (168, c_M_many F)]) 1 cd_M_isWalker (j_T []) 13 0 [some (.ref o), some (.int a1)] [] h := rfl
theorem hc_M_isWalker (F : Nat × Nat) : jCok (1 + 0 * F.2) (j_C [(157, c_M_lies F), (168, c_M_many F)]) := jC_ok (List.forall_mem_cons.mpr ⟨(co_M_lies F).up (by omega), List.forall_mem_cons.mpr ⟨(co_M_many F).up (by omega), fun _ h => absurd h List.not_mem_nil⟩⟩)
theorem k_M_isWalker (F : Nat × Nat) (o : Nat) (a1 : Int32) (h : jH) (r : Option Value) (h1 : jH) (e : m_M_isWalker F o a1 h = some (r, h1)) : jM1 (1 + 0 * F.2) 172 [.ref o, .int a1] h r h1 := jM_of (M := M_M_isWalker) mok_M_isWalker (by decide +kernel) (by decide +kernel) (Or.inr (Or.inl ⟨rfl, rfl⟩)) (fun q => nomatch q) (jrun_ok ok_M_isWalker (hc_M_isWalker F) (jT_ok (fun _ h => absurd h List.not_mem_nil)) 13 0) (List.all_eq_true.mp rfl) (Nat.le_of_ble_eq_true rfl) (fun E => Nat.le_of_ble_eq_true rfl) ((e_M_isWalker F o a1 h).symm.trans e)
theorem co_M_isWalker (F : Nat × Nat) : jc_ok (1 + 0 * F.2 + 1) 172 (c_M_isWalker F) := by
  intro as h k out e
  unfold c_M_isWalker at e
  split at e
  · obtain ⟨a0, rfl, e1⟩ := js_rv e
    obtain ⟨hg, e2⟩ := js_if e1
    obtain ⟨r, h1, hm, e3⟩ := js_jbI e2
    exact ⟨_, _, _, Nat.le_refl _, k_M_isWalker F _ _ _ _ _ hm, ⟨fun _ => ⟨_, _, rfl, Or.inl ⟨7, by decide, hg, by decide +kernel⟩⟩, fun q => absurd q (by decide +kernel)⟩, e3⟩
  · cases e
def c_M_onSheet (F : Nat × Nat) : jc1 := fun args h k => match args with
  | [w0, .int a1, .int a2] => j_rv w0 fun a0 => if j_k h a0 = 17 then (jbI (m_M_onSheet F a0 a1 a2 h) fun r h => k (some (.int r)) h) else none
  | _ => none
set_option maxRecDepth 100000 in
theorem e_M_onSheet (F : Nat × Nat) (o : Nat) (a1 : Int32) (a2 : Int32) (h : jH) : m_M_onSheet F o a1 a2 h = jrun (j_C []) 0 cd_M_onSheet (j_T []) 16 0 [some (.ref o), some (.int a1), some (.int a2)] [] h := rfl
theorem hc_M_onSheet (F : Nat × Nat) : jCok (0 + 0 * F.2) (j_C []) := jC_ok (fun _ h => absurd h List.not_mem_nil)
theorem k_M_onSheet (F : Nat × Nat) (o : Nat) (a1 : Int32) (a2 : Int32) (h : jH) (r : Option Value) (h1 : jH) (e : m_M_onSheet F o a1 a2 h = some (r, h1)) : jM1 (0 + 0 * F.2) 174 [.ref o, .int a1, .int a2] h r h1 := jM_of (M := M_M_onSheet) mok_M_onSheet (by decide +kernel) (by decide +kernel) (Or.inl ⟨rfl, rfl⟩) (fun q => nomatch q) (jrun_ok ok_M_onSheet (hc_M_onSheet F) (jT_ok (fun _ h => absurd h List.not_mem_nil)) 16 0) (List.all_eq_true.mp rfl) (Nat.le_of_ble_eq_true rfl) (fun E => Nat.le_of_ble_eq_true rfl) ((e_M_onSheet F o a1 a2 h).symm.trans e)
theorem co_M_onSheet (F : Nat × Nat) : jc_ok (0 + 0 * F.2 + 1) 174 (c_M_onSheet F) := by
  intro as h k out e
  unfold c_M_onSheet at e
  split at e
  · obtain ⟨a0, rfl, e1⟩ := js_rv e
    obtain ⟨hg, e2⟩ := js_if e1
    obtain ⟨r, h1, hm, e3⟩ := js_jbI e2
    exact ⟨_, _, _, Nat.le_refl _, k_M_onSheet F _ _ _ _ _ _ hm, ⟨fun _ => ⟨_, _, rfl, Or.inl ⟨7, by decide, hg, by decide +kernel⟩⟩, fun q => absurd q (by decide +kernel)⟩, e3⟩
  · cases e
def r_M_sheetOf_4 (g : Nat → Int32 → Int32 → Int32 → jH → Option jO) : jL → List Value → jH → Option jO := fun L S h => match L, S with
  | [some (.ref v0), some (.int v1), some (.int v2), some (.int v3)], [] => g v0 v1 v2 v3 h
  | _, _ => none
def c_M_sheetOf (F : Nat × Nat) : jc1 := fun args h k => match args with
  | [w0, .int a1] => j_rv w0 fun a0 => if j_k h a0 = 17 then (jbI (m_M_sheetOf F a0 a1 h) fun r h => k (some (.int r)) h) else none
  | _ => none
set_option maxRecDepth 100000 in
theorem e_M_sheetOf_4 (F : Nat × Nat) (f : Nat) (v0 : Nat) (v1 : Int32) (v2 : Int32) (v3 : Int32) (h : jH) : m_M_sheetOf_4 F (f + 1) v0 v1 v2 v3 h = jst (j_C [(174, c_M_onSheet F)]) 0 (cd_M_sheetOf 4) [some (.ref v0), some (.int v1), some (.int v2), some (.int v3)] [] h (jrun (j_C [(174, c_M_onSheet F)]) 0 cd_M_sheetOf (j_T [(4, r_M_sheetOf_4 (m_M_sheetOf_4 F f))]) 29) := rfl
set_option maxRecDepth 100000 in
theorem e_M_sheetOf (F : Nat × Nat) (o : Nat) (a1 : Int32) (h : jH) : m_M_sheetOf F o a1 h = jrun (j_C [(174, c_M_onSheet F)]) 0 cd_M_sheetOf (j_T [(4, r_M_sheetOf_4 (m_M_sheetOf_4 F F.1))]) 29 0 [some (.ref o), some (.int a1), none, none] [] h := rfl
theorem hc_M_sheetOf (F : Nat × Nat) : jCok (1 + 0 * F.2) (j_C [(174, c_M_onSheet F)]) := jC_ok (List.forall_mem_cons.mpr ⟨(co_M_onSheet F).up (by omega), fun _ h => absurd h List.not_mem_nil⟩)
theorem g_M_sheetOf_4 (F : Nat × Nat) : ∀ f, jG M_M_sheetOf (1 + 0 * F.2) 4 (r_M_sheetOf_4 (m_M_sheetOf_4 F f))
  | 0 => jG.no (fun L S h => by unfold r_M_sheetOf_4; split <;> rfl)
  | f + 1 => (jst_ok ok_M_sheetOf (hc_M_sheetOf F) (jrun_ok ok_M_sheetOf (hc_M_sheetOf F) (jT_ok (List.forall_mem_cons.mpr ⟨g_M_sheetOf_4 F f, fun _ h => absurd h List.not_mem_nil⟩)) 29) 4).of (fun L S h out e => by unfold r_M_sheetOf_4 at e; split at e; exact (e_M_sheetOf_4 F f _ _ _ _ _).symm.trans e; cases e)
theorem k_M_sheetOf (F : Nat × Nat) (o : Nat) (a1 : Int32) (h : jH) (r : Option Value) (h1 : jH) (e : m_M_sheetOf F o a1 h = some (r, h1)) : jM1 (1 + 0 * F.2) 173 [.ref o, .int a1] h r h1 := jM_of (M := M_M_sheetOf) mok_M_sheetOf (by decide +kernel) (by decide +kernel) (Or.inl ⟨rfl, rfl⟩) (fun q => nomatch q) (jrun_ok ok_M_sheetOf (hc_M_sheetOf F) (jT_ok (List.forall_mem_cons.mpr ⟨g_M_sheetOf_4 F F.1, fun _ h => absurd h List.not_mem_nil⟩)) 29 0) (List.all_eq_true.mp rfl) (Nat.le_of_ble_eq_true rfl) (fun E => Nat.le_of_ble_eq_true rfl) ((e_M_sheetOf F o a1 h).symm.trans e)
theorem co_M_sheetOf (F : Nat × Nat) : jc_ok (1 + 0 * F.2 + 1) 173 (c_M_sheetOf F) := by
  intro as h k out e
  unfold c_M_sheetOf at e
  split at e
  · obtain ⟨a0, rfl, e1⟩ := js_rv e
    obtain ⟨hg, e2⟩ := js_if e1
    obtain ⟨r, h1, hm, e3⟩ := js_jbI e2
    exact ⟨_, _, _, Nat.le_refl _, k_M_sheetOf F _ _ _ _ _ hm, ⟨fun _ => ⟨_, _, rfl, Or.inl ⟨7, by decide, hg, by decide +kernel⟩⟩, fun q => absurd q (by decide +kernel)⟩, e3⟩
  · cases e
def r_M_ones_4 (g : Int32 → Int32 → Int32 → jH → Option jO) : jL → List Value → jH → Option jO := fun L S h => match L, S with
  | [some (.int v0), some (.int v1), some (.int v2)], [] => g v0 v1 v2 h
  | _, _ => none
def c_M_ones (F : Nat × Nat) : jc1 := fun args h k => match args with
  | [.int a0] => jbI (m_M_ones F a0 h) fun r h => k (some (.int r)) h
  | _ => none
set_option maxRecDepth 100000 in
theorem e_M_ones_4 (F : Nat × Nat) (f : Nat) (v0 : Int32) (v1 : Int32) (v2 : Int32) (h : jH) : m_M_ones_4 F (f + 1) v0 v1 v2 h = jst (j_C []) 0 (cd_M_ones 4) [some (.int v0), some (.int v1), some (.int v2)] [] h (jrun (j_C []) 0 cd_M_ones (j_T [(4, r_M_ones_4 (m_M_ones_4 F f))]) 24) := rfl
set_option maxRecDepth 100000 in
theorem e_M_ones (F : Nat × Nat) (a0 : Int32) (h : jH) : m_M_ones F a0 h = jrun (j_C []) 0 cd_M_ones (j_T [(4, r_M_ones_4 (m_M_ones_4 F F.1))]) 24 0 [some (.int a0), none, none] [] h := rfl
theorem hc_M_ones (F : Nat × Nat) : jCok (0 + 0 * F.2) (j_C []) := jC_ok (fun _ h => absurd h List.not_mem_nil)
theorem g_M_ones_4 (F : Nat × Nat) : ∀ f, jG M_M_ones (0 + 0 * F.2) 4 (r_M_ones_4 (m_M_ones_4 F f))
  | 0 => jG.no (fun L S h => by unfold r_M_ones_4; split <;> rfl)
  | f + 1 => (jst_ok ok_M_ones (hc_M_ones F) (jrun_ok ok_M_ones (hc_M_ones F) (jT_ok (List.forall_mem_cons.mpr ⟨g_M_ones_4 F f, fun _ h => absurd h List.not_mem_nil⟩)) 24) 4).of (fun L S h out e => by unfold r_M_ones_4 at e; split at e; exact (e_M_ones_4 F f _ _ _ _).symm.trans e; cases e)
theorem k_M_ones (F : Nat × Nat) (a0 : Int32) (h : jH) (r : Option Value) (h1 : jH) (e : m_M_ones F a0 h = some (r, h1)) : jM1 (0 + 0 * F.2) 175 [.int a0] h r h1 := jM_of (M := M_M_ones) mok_M_ones (by decide +kernel) (by decide +kernel) (Or.inl ⟨rfl, rfl⟩) (fun q => nomatch q) (jrun_ok ok_M_ones (hc_M_ones F) (jT_ok (List.forall_mem_cons.mpr ⟨g_M_ones_4 F F.1, fun _ h => absurd h List.not_mem_nil⟩)) 24 0) (List.all_eq_true.mp rfl) (Nat.le_of_ble_eq_true rfl) (fun E => Nat.le_of_ble_eq_true rfl) ((e_M_ones F a0 h).symm.trans e)
theorem co_M_ones (F : Nat × Nat) : jc_ok (0 + 0 * F.2 + 1) 175 (c_M_ones F) := by
  intro as h k out e
  unfold c_M_ones at e
  split at e
  · obtain ⟨r, h1, hm, e1⟩ := js_jbI e
    exact ⟨_, _, _, Nat.le_refl _, k_M_ones F _ _ _ _ hm, ⟨fun q => absurd q (by decide +kernel), fun q => absurd q (by decide +kernel)⟩, e1⟩
  · cases e
def c_M_codeAt (F : Nat × Nat) : jc1 := fun args h k => match args with
  | [w0, .int a1] => j_rv w0 fun a0 => if j_k h a0 = 17 then (jbI (m_M_codeAt F a0 a1 h) fun r h => k (some (.int r)) h) else none
  | _ => none
set_option maxRecDepth 100000 in
theorem e_M_codeAt (F : Nat × Nat) (o : Nat) (a1 : Int32) (h : jH) : m_M_codeAt F o a1 h = jrun (j_C []) 0 cd_M_codeAt (j_T []) 18 0 [some (.ref o), some (.int a1)] [] h := rfl
theorem hc_M_codeAt (F : Nat × Nat) : jCok (0 + 0 * F.2) (j_C []) := jC_ok (fun _ h => absurd h List.not_mem_nil)
theorem k_M_codeAt (F : Nat × Nat) (o : Nat) (a1 : Int32) (h : jH) (r : Option Value) (h1 : jH) (e : m_M_codeAt F o a1 h = some (r, h1)) : jM1 (0 + 0 * F.2) 178 [.ref o, .int a1] h r h1 := jM_of (M := M_M_codeAt) mok_M_codeAt (by decide +kernel) (by decide +kernel) (Or.inl ⟨rfl, rfl⟩) (fun q => nomatch q) (jrun_ok ok_M_codeAt (hc_M_codeAt F) (jT_ok (fun _ h => absurd h List.not_mem_nil)) 18 0) (List.all_eq_true.mp rfl) (Nat.le_of_ble_eq_true rfl) (fun E => Nat.le_of_ble_eq_true rfl) ((e_M_codeAt F o a1 h).symm.trans e)
theorem co_M_codeAt (F : Nat × Nat) : jc_ok (0 + 0 * F.2 + 1) 178 (c_M_codeAt F) := by
  intro as h k out e
  unfold c_M_codeAt at e
  split at e
  · obtain ⟨a0, rfl, e1⟩ := js_rv e
    obtain ⟨hg, e2⟩ := js_if e1
    obtain ⟨r, h1, hm, e3⟩ := js_jbI e2
    exact ⟨_, _, _, Nat.le_refl _, k_M_codeAt F _ _ _ _ _ hm, ⟨fun _ => ⟨_, _, rfl, Or.inl ⟨7, by decide, hg, by decide +kernel⟩⟩, fun q => absurd q (by decide +kernel)⟩, e3⟩
  · cases e
def c_M_sign (F : Nat × Nat) : jc1 := fun args h k => match args with
  | [.int a0] => jbI (m_M_sign F a0 h) fun r h => k (some (.int r)) h
  | _ => none
set_option maxRecDepth 100000 in
theorem e_M_sign (F : Nat × Nat) (a0 : Int32) (h : jH) : m_M_sign F a0 h = jrun (j_C []) 0 cd_M_sign (j_T []) 9 0 [some (.int a0)] [] h := rfl
theorem hc_M_sign (F : Nat × Nat) : jCok (0 + 0 * F.2) (j_C []) := jC_ok (fun _ h => absurd h List.not_mem_nil)
theorem k_M_sign (F : Nat × Nat) (a0 : Int32) (h : jH) (r : Option Value) (h1 : jH) (e : m_M_sign F a0 h = some (r, h1)) : jM1 (0 + 0 * F.2) 182 [.int a0] h r h1 := jM_of (M := M_M_sign) mok_M_sign (by decide +kernel) (by decide +kernel) (Or.inl ⟨rfl, rfl⟩) (fun q => nomatch q) (jrun_ok ok_M_sign (hc_M_sign F) (jT_ok (fun _ h => absurd h List.not_mem_nil)) 9 0) (List.all_eq_true.mp rfl) (Nat.le_of_ble_eq_true rfl) (fun E => Nat.le_of_ble_eq_true rfl) ((e_M_sign F a0 h).symm.trans e)
theorem co_M_sign (F : Nat × Nat) : jc_ok (0 + 0 * F.2 + 1) 182 (c_M_sign F) := by
  intro as h k out e
  unfold c_M_sign at e
  split at e
  · obtain ⟨r, h1, hm, e1⟩ := js_jbI e
    exact ⟨_, _, _, Nat.le_refl _, k_M_sign F _ _ _ _ hm, ⟨fun q => absurd q (by decide +kernel), fun q => absurd q (by decide +kernel)⟩, e1⟩
  · cases e
def c_M_passes0 (F : Nat × Nat) : jc1 := fun args h k => match args with
  | [w0, .int a1] => j_rv w0 fun a0 => if j_k h a0 = 17 then (jbI (m_M_passes0 F a0 a1 h) fun r h => k (some (.int r)) h) else none
  | _ => none
set_option maxRecDepth 100000 in
theorem e_M_passes0 (F : Nat × Nat) (o : Nat) (a1 : Int32) (h : jH) : m_M_passes0 F o a1 h = jrun (j_C [(178, c_M_codeAt F)]) 1 cd_M_passes0 (j_T []) 25 0 [some (.ref o), some (.int a1), none] [] h := rfl
theorem hc_M_passes0 (F : Nat × Nat) : jCok (1 + 0 * F.2) (j_C [(178, c_M_codeAt F)]) := jC_ok (List.forall_mem_cons.mpr ⟨(co_M_codeAt F).up (by omega), fun _ h => absurd h List.not_mem_nil⟩)
theorem k_M_passes0 (F : Nat × Nat) (o : Nat) (a1 : Int32) (h : jH) (r : Option Value) (h1 : jH) (e : m_M_passes0 F o a1 h = some (r, h1)) : jM1 (1 + 0 * F.2) 183 [.ref o, .int a1] h r h1 := jM_of (M := M_M_passes0) mok_M_passes0 (by decide +kernel) (by decide +kernel) (Or.inr (Or.inl ⟨rfl, rfl⟩)) (fun q => nomatch q) (jrun_ok ok_M_passes0 (hc_M_passes0 F) (jT_ok (fun _ h => absurd h List.not_mem_nil)) 25 0) (List.all_eq_true.mp rfl) (Nat.le_of_ble_eq_true rfl) (fun E => Nat.le_of_ble_eq_true rfl) ((e_M_passes0 F o a1 h).symm.trans e)
theorem co_M_passes0 (F : Nat × Nat) : jc_ok (1 + 0 * F.2 + 1) 183 (c_M_passes0 F) := by
  intro as h k out e
  unfold c_M_passes0 at e
  split at e
  · obtain ⟨a0, rfl, e1⟩ := js_rv e
    obtain ⟨hg, e2⟩ := js_if e1
    obtain ⟨r, h1, hm, e3⟩ := js_jbI e2
    exact ⟨_, _, _, Nat.le_refl _, k_M_passes0 F _ _ _ _ _ hm, ⟨fun _ => ⟨_, _, rfl, Or.inl ⟨7, by decide, hg, by decide +kernel⟩⟩, fun q => absurd q (by decide +kernel)⟩, e3⟩
  · cases e
def c_M_orderValue (F : Nat × Nat) : jc1 := fun args h k => match args with
  | [w0, .int a1, .int a2] => j_rv w0 fun a0 => if j_k h a0 = 17 then (jbI (m_M_orderValue F a0 a1 a2 h) fun r h => k (some (.int r)) h) else none
  | _ => none
set_option maxRecDepth 100000 in
theorem e_M_orderValue (F : Nat × Nat) (o : Nat) (a1 : Int32) (a2 : Int32) (h : jH) : m_M_orderValue F o a1 a2 h = jrun (j_C [(169, c_M_spotOf F), (172, c_M_isWalker F), (173, c_M_sheetOf F), (175, c_M_ones F)]) 0 cd_M_orderValue (j_T []) 46 0 [some (.ref o), some (.int a1), some (.int a2)] [] h := rfl
theorem hc_M_orderValue (F : Nat × Nat) : jCok (2 + 0 * F.2) (j_C [(169, c_M_spotOf F), (172, c_M_isWalker F), (173, c_M_sheetOf F), (175, c_M_ones F)]) := jC_ok (List.forall_mem_cons.mpr ⟨(co_M_spotOf F).up (by omega), List.forall_mem_cons.mpr ⟨(co_M_isWalker F).up (by omega), List.forall_mem_cons.mpr ⟨(co_M_sheetOf F).up (by omega), List.forall_mem_cons.mpr ⟨(co_M_ones F).up (by omega), fun _ h => absurd h List.not_mem_nil⟩⟩⟩⟩)
theorem k_M_orderValue (F : Nat × Nat) (o : Nat) (a1 : Int32) (a2 : Int32) (h : jH) (r : Option Value) (h1 : jH) (e : m_M_orderValue F o a1 a2 h = some (r, h1)) : jM1 (2 + 0 * F.2) 184 [.ref o, .int a1, .int a2] h r h1 := jM_of (M := M_M_orderValue) mok_M_orderValue (by decide +kernel) (by decide +kernel) (Or.inl ⟨rfl, rfl⟩) (fun q => nomatch q) (jrun_ok ok_M_orderValue (hc_M_orderValue F) (jT_ok (fun _ h => absurd h List.not_mem_nil)) 46 0) (List.all_eq_true.mp rfl) (Nat.le_of_ble_eq_true rfl) (fun E => Nat.le_of_ble_eq_true rfl) ((e_M_orderValue F o a1 a2 h).symm.trans e)
theorem co_M_orderValue (F : Nat × Nat) : jc_ok (2 + 0 * F.2 + 1) 184 (c_M_orderValue F) := by
  intro as h k out e
  unfold c_M_orderValue at e
  split at e
  · obtain ⟨a0, rfl, e1⟩ := js_rv e
    obtain ⟨hg, e2⟩ := js_if e1
    obtain ⟨r, h1, hm, e3⟩ := js_jbI e2
    exact ⟨_, _, _, Nat.le_refl _, k_M_orderValue F _ _ _ _ _ _ hm, ⟨fun _ => ⟨_, _, rfl, Or.inl ⟨7, by decide, hg, by decide +kernel⟩⟩, fun q => absurd q (by decide +kernel)⟩, e3⟩
  · cases e
def c_M_bounded (F : Nat × Nat) : jc1 := fun args h k => match args with
  | [w0, .long a1, .int a2] => j_rv w0 fun a0 => if j_k h a0 = 17 then (jbJ (m_M_bounded F a0 a1 a2 h) fun r h => k (some (.long r)) h) else none
  | _ => none
set_option maxRecDepth 100000 in
theorem e_M_bounded (F : Nat × Nat) (o : Nat) (a1 : Int64) (a2 : Int32) (h : jH) : m_M_bounded F o a1 a2 h = jrun (j_C []) 2 cd_M_bounded (j_T []) 25 0 [some (.ref o), some (.long a1), some (.float 0), some (.int a2)] [] h := rfl
theorem hc_M_bounded (F : Nat × Nat) : jCok (0 + 0 * F.2) (j_C []) := jC_ok (fun _ h => absurd h List.not_mem_nil)
theorem k_M_bounded (F : Nat × Nat) (o : Nat) (a1 : Int64) (a2 : Int32) (h : jH) (r : Option Value) (h1 : jH) (e : m_M_bounded F o a1 a2 h = some (r, h1)) : jM1 (0 + 0 * F.2) 185 [.ref o, .long a1, .int a2] h r h1 := jM_of (M := M_M_bounded) mok_M_bounded (by decide +kernel) (by decide +kernel) (Or.inr (Or.inr (Or.inl ⟨rfl, rfl⟩))) (fun q => nomatch q) (jrun_ok ok_M_bounded (hc_M_bounded F) (jT_ok (fun _ h => absurd h List.not_mem_nil)) 25 0) (List.all_eq_true.mp rfl) (Nat.le_of_ble_eq_true rfl) (fun E => Nat.le_of_ble_eq_true rfl) ((e_M_bounded F o a1 a2 h).symm.trans e)
theorem co_M_bounded (F : Nat × Nat) : jc_ok (0 + 0 * F.2 + 1) 185 (c_M_bounded F) := by
  intro as h k out e
  unfold c_M_bounded at e
  split at e
  · obtain ⟨a0, rfl, e1⟩ := js_rv e
    obtain ⟨hg, e2⟩ := js_if e1
    obtain ⟨r, h1, hm, e3⟩ := js_jbJ e2
    exact ⟨_, _, _, Nat.le_refl _, k_M_bounded F _ _ _ _ _ _ hm, ⟨fun _ => ⟨_, _, rfl, Or.inl ⟨7, by decide, hg, by decide +kernel⟩⟩, fun q => absurd q (by decide +kernel)⟩, e3⟩
  · cases e
def r_M_partOf_100 (g : Nat → Int32 → Int32 → Int32 → jH → Option jO) : jL → List Value → jH → Option jO := fun L S h => match L, S with
  | [some (.ref v0), some (.int v1), some (.int v2), some (.int v3)], [] => g v0 v1 v2 v3 h
  | _, _ => none
def r_M_partOf_76 (g : Nat → Int32 → Int32 → jH → Option jO) : jL → List Value → jH → Option jO := fun L S h => match L, S with
  | [some (.ref v0), some (.int v1), some (.int v2), _], [] => g v0 v1 v2 h
  | _, _ => none
def r_M_termOf_121 (g : Nat → Int32 → Int64 → Int32 → Int64 → jH → Option jO) : jL → List Value → jH → Option jO := fun L S h => match L, S with
  | [some (.ref v0), some (.int v1), some (.long v2), some (.float _), some (.int v4), some (.long v5), some (.float _)], [] => g v0 v1 v2 v4 v5 h
  | _, _ => none
def r_M_termOf_54 (g : Nat → Int32 → Int64 → jH → Option jO) : jL → List Value → jH → Option jO := fun L S h => match L, S with
  | [some (.ref v0), some (.int v1), some (.long v2), some (.float _), _, _, _], [] => g v0 v1 v2 h
  | _, _ => none
def r_M_termOf_6 (g : Nat → Int32 → Int64 → jH → Option jO) : jL → List Value → jH → Option jO := fun L S h => match L, S with
  | [some (.ref v0), some (.int v1), some (.long v2), some (.float _), _, _, _], [] => g v0 v1 v2 h
  | _, _ => none
def r_M_sumOf_59 (g : Nat → Int32 → Int64 → Int32 → jH → Option jO) : jL → List Value → jH → Option jO := fun L S h => match L, S with
  | [some (.ref v0), some (.int v1), some (.long v2), some (.float _), _, _, _], [.int s0] => g v0 v1 v2 s0 h
  | _, _ => none
def r_M_sumOf_6 (g : Nat → Int32 → Int64 → jH → Option jO) : jL → List Value → jH → Option jO := fun L S h => match L, S with
  | [some (.ref v0), some (.int v1), some (.long v2), some (.float _), _, _, _], [] => g v0 v1 v2 h
  | _, _ => none
def c_M_partOf_rc (rc : Nat → List Value → jH → Option jO) : jc1 := fun args h k => match args with
  | [w0, .int a1] => j_rv w0 fun a0 => if j_k h a0 = 17 then (jbJ (rc 181 [.ref a0, .int a1] h) fun r h => k (some (.long r)) h) else none
  | _ => none
def c_M_termOf_rc (rc : Nat → List Value → jH → Option jO) : jc1 := fun args h k => match args with
  | [w0, .int a1] => j_rv w0 fun a0 => if j_k h a0 = 17 then (jbJ (rc 180 [.ref a0, .int a1] h) fun r h => k (some (.long r)) h) else none
  | _ => none
def c_M_sumOf_rc (rc : Nat → List Value → jH → Option jO) : jc1 := fun args h k => match args with
  | [w0, .int a1] => j_rv w0 fun a0 => if j_k h a0 = 17 then (jbJ (rc 179 [.ref a0, .int a1] h) fun r h => k (some (.long r)) h) else none
  | _ => none
def c_M_partOf (F : Nat × Nat) : jc1 := fun args h k => match args with
  | [w0, .int a1] => j_rv w0 fun a0 => if j_k h a0 = 17 then (jbJ (m_M_partOf F a0 a1 h) fun r h => k (some (.long r)) h) else none
  | _ => none
def c_M_termOf (F : Nat × Nat) : jc1 := fun args h k => match args with
  | [w0, .int a1] => j_rv w0 fun a0 => if j_k h a0 = 17 then (jbJ (m_M_termOf F a0 a1 h) fun r h => k (some (.long r)) h) else none
  | _ => none
def c_M_sumOf (F : Nat × Nat) : jc1 := fun args h k => match args with
  | [w0, .int a1] => j_rv w0 fun a0 => if j_k h a0 = 17 then (jbJ (m_M_sumOf F a0 a1 h) fun r h => k (some (.long r)) h) else none
  | _ => none
set_option maxRecDepth 100000 in
theorem e_M_partOf_100 (F : Nat × Nat) (rc : Nat → List Value → jH → Option jO) (v0 : Nat) (v1 : Int32) (v2 : Int32) (v3 : Int32) (h : jH) : m_M_partOf_100 F rc v0 v1 v2 v3 h = jst (j_C [(178, c_M_codeAt F), (179, c_M_sumOf_rc rc), (182, c_M_sign F), (183, c_M_passes0 F), (184, c_M_orderValue F)]) 2 (cd_M_partOf 100) [some (.ref v0), some (.int v1), some (.int v2), some (.int v3)] [] h (jrun (j_C [(178, c_M_codeAt F), (179, c_M_sumOf_rc rc), (182, c_M_sign F), (183, c_M_passes0 F), (184, c_M_orderValue F)]) 2 cd_M_partOf (j_T []) 99) := rfl
set_option maxRecDepth 100000 in
theorem e_M_partOf_76 (F : Nat × Nat) (rc : Nat → List Value → jH → Option jO) (v0 : Nat) (v1 : Int32) (v2 : Int32) (u1 : Option Value) (h : jH) : m_M_partOf_76 F rc v0 v1 v2 h = jst (j_C [(178, c_M_codeAt F), (179, c_M_sumOf_rc rc), (182, c_M_sign F), (183, c_M_passes0 F), (184, c_M_orderValue F)]) 2 (cd_M_partOf 76) [some (.ref v0), some (.int v1), some (.int v2), u1] [] h (jrun (j_C [(178, c_M_codeAt F), (179, c_M_sumOf_rc rc), (182, c_M_sign F), (183, c_M_passes0 F), (184, c_M_orderValue F)]) 2 cd_M_partOf (j_T [(100, r_M_partOf_100 (m_M_partOf_100 F rc))]) 99) := rfl
set_option maxRecDepth 100000 in
theorem e_M_partOf (F : Nat × Nat) (rc : Nat → List Value → jH → Option jO) (o : Nat) (a1 : Int32) (h : jH) : m_M_partOf_r F rc o a1 h = jrun (j_C [(178, c_M_codeAt F), (179, c_M_sumOf_rc rc), (182, c_M_sign F), (183, c_M_passes0 F), (184, c_M_orderValue F)]) 2 cd_M_partOf (j_T [(76, r_M_partOf_76 (m_M_partOf_76 F rc)), (100, r_M_partOf_100 (m_M_partOf_100 F rc))]) 99 0 [some (.ref o), some (.int a1), none, none] [] h := rfl
set_option maxRecDepth 100000 in
theorem e_M_termOf_121 (F : Nat × Nat) (rc : Nat → List Value → jH → Option jO) (k6 : Nat → Int32 → Int64 → jH → Option jO) (v0 : Nat) (v1 : Int32) (v2 : Int64) (v4 : Int32) (v5 : Int64) (w1 : UInt32) (w2 : UInt32) (h : jH) : m_M_termOf_121 F rc k6 v0 v1 v2 v4 v5 h = jst (j_C [(178, c_M_codeAt F), (181, c_M_partOf_rc rc), (182, c_M_sign F), (185, c_M_bounded F)]) 2 (cd_M_termOf 121) [some (.ref v0), some (.int v1), some (.long v2), some (.float w1), some (.int v4), some (.long v5), some (.float w2)] [] h (jrun (j_C [(178, c_M_codeAt F), (181, c_M_partOf_rc rc), (182, c_M_sign F), (185, c_M_bounded F)]) 2 cd_M_termOf (j_T [(6, r_M_termOf_6 k6)]) 91) := rfl
set_option maxRecDepth 100000 in
theorem e_M_termOf_54 (F : Nat × Nat) (rc : Nat → List Value → jH → Option jO) (k6 : Nat → Int32 → Int64 → jH → Option jO) (v0 : Nat) (v1 : Int32) (v2 : Int64) (u1 : Option Value) (u2 : Option Value) (u3 : Option Value) (w1 : UInt32) (h : jH) : m_M_termOf_54 F rc k6 v0 v1 v2 h = jst (j_C [(178, c_M_codeAt F), (181, c_M_partOf_rc rc), (182, c_M_sign F), (185, c_M_bounded F)]) 2 (cd_M_termOf 54) [some (.ref v0), some (.int v1), some (.long v2), some (.float w1), u1, u2, u3] [] h (jrun (j_C [(178, c_M_codeAt F), (181, c_M_partOf_rc rc), (182, c_M_sign F), (185, c_M_bounded F)]) 2 cd_M_termOf (j_T [(121, r_M_termOf_121 (m_M_termOf_121 F rc k6))]) 91) := rfl
set_option maxRecDepth 100000 in
theorem e_M_termOf_6 (F : Nat × Nat) (rc : Nat → List Value → jH → Option jO) (f : Nat) (v0 : Nat) (v1 : Int32) (v2 : Int64) (u1 : Option Value) (u2 : Option Value) (u3 : Option Value) (w1 : UInt32) (h : jH) : m_M_termOf_6 F rc (f + 1) v0 v1 v2 h = jst (j_C [(178, c_M_codeAt F), (181, c_M_partOf_rc rc), (182, c_M_sign F), (185, c_M_bounded F)]) 2 (cd_M_termOf 6) [some (.ref v0), some (.int v1), some (.long v2), some (.float w1), u1, u2, u3] [] h (jrun (j_C [(178, c_M_codeAt F), (181, c_M_partOf_rc rc), (182, c_M_sign F), (185, c_M_bounded F)]) 2 cd_M_termOf (j_T [(54, r_M_termOf_54 (m_M_termOf_54 F rc (m_M_termOf_6 F rc f)))]) 91) := rfl
set_option maxRecDepth 100000 in
theorem e_M_termOf (F : Nat × Nat) (rc : Nat → List Value → jH → Option jO) (o : Nat) (a1 : Int32) (h : jH) : m_M_termOf_r F rc o a1 h = jrun (j_C [(178, c_M_codeAt F), (181, c_M_partOf_rc rc), (182, c_M_sign F), (185, c_M_bounded F)]) 2 cd_M_termOf (j_T [(6, r_M_termOf_6 (m_M_termOf_6 F rc F.1))]) 91 0 [some (.ref o), some (.int a1), none, none, none, none, none] [] h := rfl
set_option maxRecDepth 100000 in
theorem e_M_sumOf_59 (F : Nat × Nat) (rc : Nat → List Value → jH → Option jO) (k6 : Nat → Int32 → Int64 → jH → Option jO) (v0 : Nat) (v1 : Int32) (v2 : Int64) (s0 : Int32) (u1 : Option Value) (u2 : Option Value) (u3 : Option Value) (w1 : UInt32) (h : jH) : m_M_sumOf_59 F rc k6 v0 v1 v2 s0 h = jst (j_C [(178, c_M_codeAt F), (180, c_M_termOf_rc rc), (182, c_M_sign F), (185, c_M_bounded F)]) 2 (cd_M_sumOf 59) [some (.ref v0), some (.int v1), some (.long v2), some (.float w1), u1, u2, u3] [.int s0] h (jrun (j_C [(178, c_M_codeAt F), (180, c_M_termOf_rc rc), (182, c_M_sign F), (185, c_M_bounded F)]) 2 cd_M_sumOf (j_T [(6, r_M_sumOf_6 k6)]) 60) := rfl
set_option maxRecDepth 100000 in
theorem e_M_sumOf_6 (F : Nat × Nat) (rc : Nat → List Value → jH → Option jO) (f : Nat) (v0 : Nat) (v1 : Int32) (v2 : Int64) (u1 : Option Value) (u2 : Option Value) (u3 : Option Value) (w1 : UInt32) (h : jH) : m_M_sumOf_6 F rc (f + 1) v0 v1 v2 h = jst (j_C [(178, c_M_codeAt F), (180, c_M_termOf_rc rc), (182, c_M_sign F), (185, c_M_bounded F)]) 2 (cd_M_sumOf 6) [some (.ref v0), some (.int v1), some (.long v2), some (.float w1), u1, u2, u3] [] h (jrun (j_C [(178, c_M_codeAt F), (180, c_M_termOf_rc rc), (182, c_M_sign F), (185, c_M_bounded F)]) 2 cd_M_sumOf (j_T [(59, r_M_sumOf_59 (m_M_sumOf_59 F rc (m_M_sumOf_6 F rc f)))]) 60) := rfl
set_option maxRecDepth 100000 in
theorem e_M_sumOf (F : Nat × Nat) (rc : Nat → List Value → jH → Option jO) (o : Nat) (a1 : Int32) (h : jH) : m_M_sumOf_r F rc o a1 h = jrun (j_C [(178, c_M_codeAt F), (180, c_M_termOf_rc rc), (182, c_M_sign F), (185, c_M_bounded F)]) 2 cd_M_sumOf (j_T [(6, r_M_sumOf_6 (m_M_sumOf_6 F rc F.1))]) 60 0 [some (.ref o), some (.int a1), none, none, none, none, none] [] h := rfl
theorem hc_M_partOf (F : Nat × Nat) (rc : Nat → List Value → jH → Option jO) {D : Nat} (hD : 3 + 0 * F.2 ≤ D) (q_M_partOf : jc_ok D 181 (c_M_partOf_rc rc)) (q_M_termOf : jc_ok D 180 (c_M_termOf_rc rc)) (q_M_sumOf : jc_ok D 179 (c_M_sumOf_rc rc)) : jCok D (j_C [(178, c_M_codeAt F), (179, c_M_sumOf_rc rc), (182, c_M_sign F), (183, c_M_passes0 F), (184, c_M_orderValue F)]) := jC_ok (List.forall_mem_cons.mpr ⟨(co_M_codeAt F).up (by omega), List.forall_mem_cons.mpr ⟨q_M_sumOf, List.forall_mem_cons.mpr ⟨(co_M_sign F).up (by omega), List.forall_mem_cons.mpr ⟨(co_M_passes0 F).up (by omega), List.forall_mem_cons.mpr ⟨(co_M_orderValue F).up (by omega), fun _ h => absurd h List.not_mem_nil⟩⟩⟩⟩⟩)
theorem g_M_partOf_100 (F : Nat × Nat) (rc : Nat → List Value → jH → Option jO) {D : Nat} (hD : 3 + 0 * F.2 ≤ D) (q_M_partOf : jc_ok D 181 (c_M_partOf_rc rc)) (q_M_termOf : jc_ok D 180 (c_M_termOf_rc rc)) (q_M_sumOf : jc_ok D 179 (c_M_sumOf_rc rc)) : jG M_M_partOf D 100 (r_M_partOf_100 (m_M_partOf_100 F rc)) := (jst_ok ok_M_partOf (hc_M_partOf F rc hD q_M_partOf q_M_termOf q_M_sumOf) (jrun_ok ok_M_partOf (hc_M_partOf F rc hD q_M_partOf q_M_termOf q_M_sumOf) (jT_ok (fun _ h => absurd h List.not_mem_nil)) 99) 100).of (fun L S h out e => by unfold r_M_partOf_100 at e; split at e; exact (e_M_partOf_100 F rc _ _ _ _ _).symm.trans e; cases e)
theorem g_M_partOf_76 (F : Nat × Nat) (rc : Nat → List Value → jH → Option jO) {D : Nat} (hD : 3 + 0 * F.2 ≤ D) (q_M_partOf : jc_ok D 181 (c_M_partOf_rc rc)) (q_M_termOf : jc_ok D 180 (c_M_termOf_rc rc)) (q_M_sumOf : jc_ok D 179 (c_M_sumOf_rc rc)) : jG M_M_partOf D 76 (r_M_partOf_76 (m_M_partOf_76 F rc)) := (jst_ok ok_M_partOf (hc_M_partOf F rc hD q_M_partOf q_M_termOf q_M_sumOf) (jrun_ok ok_M_partOf (hc_M_partOf F rc hD q_M_partOf q_M_termOf q_M_sumOf) (jT_ok (List.forall_mem_cons.mpr ⟨g_M_partOf_100 F rc hD q_M_partOf q_M_termOf q_M_sumOf, fun _ h => absurd h List.not_mem_nil⟩)) 99) 76).of (fun L S h out e => by unfold r_M_partOf_76 at e; split at e; exact (e_M_partOf_76 F rc _ _ _ _ _).symm.trans e; cases e)
theorem kr_M_partOf (F : Nat × Nat) (rc : Nat → List Value → jH → Option jO) {D : Nat} (hD : 3 + 0 * F.2 ≤ D) (q_M_partOf : jc_ok D 181 (c_M_partOf_rc rc)) (q_M_termOf : jc_ok D 180 (c_M_termOf_rc rc)) (q_M_sumOf : jc_ok D 179 (c_M_sumOf_rc rc)) (o : Nat) (a1 : Int32) (h : jH) (r : Option Value) (h1 : jH) (e : m_M_partOf_r F rc o a1 h = some (r, h1)) : jM1 D 181 [.ref o, .int a1] h r h1 := jM_of (M := M_M_partOf) mok_M_partOf (by decide +kernel) (by decide +kernel) (Or.inr (Or.inr (Or.inl ⟨rfl, rfl⟩))) (fun q => nomatch q) (jrun_ok ok_M_partOf (hc_M_partOf F rc hD q_M_partOf q_M_termOf q_M_sumOf) (jT_ok (List.forall_mem_cons.mpr ⟨g_M_partOf_76 F rc hD q_M_partOf q_M_termOf q_M_sumOf, List.forall_mem_cons.mpr ⟨g_M_partOf_100 F rc hD q_M_partOf q_M_termOf q_M_sumOf, fun _ h => absurd h List.not_mem_nil⟩⟩)) 99 0) (List.all_eq_true.mp rfl) (Nat.le_of_ble_eq_true rfl) (fun E => Nat.le_of_ble_eq_true rfl) ((e_M_partOf F rc o a1 h).symm.trans e)
theorem hc_M_termOf (F : Nat × Nat) (rc : Nat → List Value → jH → Option jO) {D : Nat} (hD : 3 + 0 * F.2 ≤ D) (q_M_partOf : jc_ok D 181 (c_M_partOf_rc rc)) (q_M_termOf : jc_ok D 180 (c_M_termOf_rc rc)) (q_M_sumOf : jc_ok D 179 (c_M_sumOf_rc rc)) : jCok D (j_C [(178, c_M_codeAt F), (181, c_M_partOf_rc rc), (182, c_M_sign F), (185, c_M_bounded F)]) := jC_ok (List.forall_mem_cons.mpr ⟨(co_M_codeAt F).up (by omega), List.forall_mem_cons.mpr ⟨q_M_partOf, List.forall_mem_cons.mpr ⟨(co_M_sign F).up (by omega), List.forall_mem_cons.mpr ⟨(co_M_bounded F).up (by omega), fun _ h => absurd h List.not_mem_nil⟩⟩⟩⟩)
theorem g_M_termOf_121 (F : Nat × Nat) (rc : Nat → List Value → jH → Option jO) {D : Nat} (hD : 3 + 0 * F.2 ≤ D) (q_M_partOf : jc_ok D 181 (c_M_partOf_rc rc)) (q_M_termOf : jc_ok D 180 (c_M_termOf_rc rc)) (q_M_sumOf : jc_ok D 179 (c_M_sumOf_rc rc)) (k6 : Nat → Int32 → Int64 → jH → Option jO) (hk6 : jG M_M_termOf D 6 (r_M_termOf_6 k6)) : jG M_M_termOf D 121 (r_M_termOf_121 (m_M_termOf_121 F rc k6)) := (jst_ok ok_M_termOf (hc_M_termOf F rc hD q_M_partOf q_M_termOf q_M_sumOf) (jrun_ok ok_M_termOf (hc_M_termOf F rc hD q_M_partOf q_M_termOf q_M_sumOf) (jT_ok (List.forall_mem_cons.mpr ⟨hk6, fun _ h => absurd h List.not_mem_nil⟩)) 91) 121).of (fun L S h out e => by unfold r_M_termOf_121 at e; split at e; exact (e_M_termOf_121 F rc k6 _ _ _ _ _ _ _ _).symm.trans e; cases e)
theorem g_M_termOf_54 (F : Nat × Nat) (rc : Nat → List Value → jH → Option jO) {D : Nat} (hD : 3 + 0 * F.2 ≤ D) (q_M_partOf : jc_ok D 181 (c_M_partOf_rc rc)) (q_M_termOf : jc_ok D 180 (c_M_termOf_rc rc)) (q_M_sumOf : jc_ok D 179 (c_M_sumOf_rc rc)) (k6 : Nat → Int32 → Int64 → jH → Option jO) (hk6 : jG M_M_termOf D 6 (r_M_termOf_6 k6)) : jG M_M_termOf D 54 (r_M_termOf_54 (m_M_termOf_54 F rc k6)) := (jst_ok ok_M_termOf (hc_M_termOf F rc hD q_M_partOf q_M_termOf q_M_sumOf) (jrun_ok ok_M_termOf (hc_M_termOf F rc hD q_M_partOf q_M_termOf q_M_sumOf) (jT_ok (List.forall_mem_cons.mpr ⟨g_M_termOf_121 F rc hD q_M_partOf q_M_termOf q_M_sumOf k6 hk6, fun _ h => absurd h List.not_mem_nil⟩)) 91) 54).of (fun L S h out e => by unfold r_M_termOf_54 at e; split at e; exact (e_M_termOf_54 F rc k6 _ _ _ _ _ _ _ _).symm.trans e; cases e)
theorem g_M_termOf_6 (F : Nat × Nat) (rc : Nat → List Value → jH → Option jO) {D : Nat} (hD : 3 + 0 * F.2 ≤ D) (q_M_partOf : jc_ok D 181 (c_M_partOf_rc rc)) (q_M_termOf : jc_ok D 180 (c_M_termOf_rc rc)) (q_M_sumOf : jc_ok D 179 (c_M_sumOf_rc rc)) : ∀ f, jG M_M_termOf D 6 (r_M_termOf_6 (m_M_termOf_6 F rc f))
  | 0 => jG.no (fun L S h => by unfold r_M_termOf_6; split <;> rfl)
  | f + 1 => (jst_ok ok_M_termOf (hc_M_termOf F rc hD q_M_partOf q_M_termOf q_M_sumOf) (jrun_ok ok_M_termOf (hc_M_termOf F rc hD q_M_partOf q_M_termOf q_M_sumOf) (jT_ok (List.forall_mem_cons.mpr ⟨g_M_termOf_54 F rc hD q_M_partOf q_M_termOf q_M_sumOf _ (g_M_termOf_6 F rc hD q_M_partOf q_M_termOf q_M_sumOf f), fun _ h => absurd h List.not_mem_nil⟩)) 91) 6).of (fun L S h out e => by unfold r_M_termOf_6 at e; split at e; exact (e_M_termOf_6 F rc f _ _ _ _ _ _ _ _).symm.trans e; cases e)
theorem kr_M_termOf (F : Nat × Nat) (rc : Nat → List Value → jH → Option jO) {D : Nat} (hD : 3 + 0 * F.2 ≤ D) (q_M_partOf : jc_ok D 181 (c_M_partOf_rc rc)) (q_M_termOf : jc_ok D 180 (c_M_termOf_rc rc)) (q_M_sumOf : jc_ok D 179 (c_M_sumOf_rc rc)) (o : Nat) (a1 : Int32) (h : jH) (r : Option Value) (h1 : jH) (e : m_M_termOf_r F rc o a1 h = some (r, h1)) : jM1 D 180 [.ref o, .int a1] h r h1 := jM_of (M := M_M_termOf) mok_M_termOf (by decide +kernel) (by decide +kernel) (Or.inr (Or.inr (Or.inl ⟨rfl, rfl⟩))) (fun q => nomatch q) (jrun_ok ok_M_termOf (hc_M_termOf F rc hD q_M_partOf q_M_termOf q_M_sumOf) (jT_ok (List.forall_mem_cons.mpr ⟨g_M_termOf_6 F rc hD q_M_partOf q_M_termOf q_M_sumOf F.1, fun _ h => absurd h List.not_mem_nil⟩)) 91 0) (List.all_eq_true.mp rfl) (Nat.le_of_ble_eq_true rfl) (fun E => Nat.le_of_ble_eq_true rfl) ((e_M_termOf F rc o a1 h).symm.trans e)
theorem hc_M_sumOf (F : Nat × Nat) (rc : Nat → List Value → jH → Option jO) {D : Nat} (hD : 3 + 0 * F.2 ≤ D) (q_M_partOf : jc_ok D 181 (c_M_partOf_rc rc)) (q_M_termOf : jc_ok D 180 (c_M_termOf_rc rc)) (q_M_sumOf : jc_ok D 179 (c_M_sumOf_rc rc)) : jCok D (j_C [(178, c_M_codeAt F), (180, c_M_termOf_rc rc), (182, c_M_sign F), (185, c_M_bounded F)]) := jC_ok (List.forall_mem_cons.mpr ⟨(co_M_codeAt F).up (by omega), List.forall_mem_cons.mpr ⟨q_M_termOf, List.forall_mem_cons.mpr ⟨(co_M_sign F).up (by omega), List.forall_mem_cons.mpr ⟨(co_M_bounded F).up (by omega), fun _ h => absurd h List.not_mem_nil⟩⟩⟩⟩)
theorem g_M_sumOf_59 (F : Nat × Nat) (rc : Nat → List Value → jH → Option jO) {D : Nat} (hD : 3 + 0 * F.2 ≤ D) (q_M_partOf : jc_ok D 181 (c_M_partOf_rc rc)) (q_M_termOf : jc_ok D 180 (c_M_termOf_rc rc)) (q_M_sumOf : jc_ok D 179 (c_M_sumOf_rc rc)) (k6 : Nat → Int32 → Int64 → jH → Option jO) (hk6 : jG M_M_sumOf D 6 (r_M_sumOf_6 k6)) : jG M_M_sumOf D 59 (r_M_sumOf_59 (m_M_sumOf_59 F rc k6)) := (jst_ok ok_M_sumOf (hc_M_sumOf F rc hD q_M_partOf q_M_termOf q_M_sumOf) (jrun_ok ok_M_sumOf (hc_M_sumOf F rc hD q_M_partOf q_M_termOf q_M_sumOf) (jT_ok (List.forall_mem_cons.mpr ⟨hk6, fun _ h => absurd h List.not_mem_nil⟩)) 60) 59).of (fun L S h out e => by unfold r_M_sumOf_59 at e; split at e; exact (e_M_sumOf_59 F rc k6 _ _ _ _ _ _ _ _ _).symm.trans e; cases e)
theorem g_M_sumOf_6 (F : Nat × Nat) (rc : Nat → List Value → jH → Option jO) {D : Nat} (hD : 3 + 0 * F.2 ≤ D) (q_M_partOf : jc_ok D 181 (c_M_partOf_rc rc)) (q_M_termOf : jc_ok D 180 (c_M_termOf_rc rc)) (q_M_sumOf : jc_ok D 179 (c_M_sumOf_rc rc)) : ∀ f, jG M_M_sumOf D 6 (r_M_sumOf_6 (m_M_sumOf_6 F rc f))
  | 0 => jG.no (fun L S h => by unfold r_M_sumOf_6; split <;> rfl)
  | f + 1 => (jst_ok ok_M_sumOf (hc_M_sumOf F rc hD q_M_partOf q_M_termOf q_M_sumOf) (jrun_ok ok_M_sumOf (hc_M_sumOf F rc hD q_M_partOf q_M_termOf q_M_sumOf) (jT_ok (List.forall_mem_cons.mpr ⟨g_M_sumOf_59 F rc hD q_M_partOf q_M_termOf q_M_sumOf _ (g_M_sumOf_6 F rc hD q_M_partOf q_M_termOf q_M_sumOf f), fun _ h => absurd h List.not_mem_nil⟩)) 60) 6).of (fun L S h out e => by unfold r_M_sumOf_6 at e; split at e; exact (e_M_sumOf_6 F rc f _ _ _ _ _ _ _ _).symm.trans e; cases e)
theorem kr_M_sumOf (F : Nat × Nat) (rc : Nat → List Value → jH → Option jO) {D : Nat} (hD : 3 + 0 * F.2 ≤ D) (q_M_partOf : jc_ok D 181 (c_M_partOf_rc rc)) (q_M_termOf : jc_ok D 180 (c_M_termOf_rc rc)) (q_M_sumOf : jc_ok D 179 (c_M_sumOf_rc rc)) (o : Nat) (a1 : Int32) (h : jH) (r : Option Value) (h1 : jH) (e : m_M_sumOf_r F rc o a1 h = some (r, h1)) : jM1 D 179 [.ref o, .int a1] h r h1 := jM_of (M := M_M_sumOf) mok_M_sumOf (by decide +kernel) (by decide +kernel) (Or.inr (Or.inr (Or.inl ⟨rfl, rfl⟩))) (fun q => nomatch q) (jrun_ok ok_M_sumOf (hc_M_sumOf F rc hD q_M_partOf q_M_termOf q_M_sumOf) (jT_ok (List.forall_mem_cons.mpr ⟨g_M_sumOf_6 F rc hD q_M_partOf q_M_termOf q_M_sumOf F.1, fun _ h => absurd h List.not_mem_nil⟩)) 60 0) (List.all_eq_true.mp rfl) (Nat.le_of_ble_eq_true rfl) (fun E => Nat.le_of_ble_eq_true rfl) ((e_M_sumOf F rc o a1 h).symm.trans e)
theorem co_M_partOf_rc {d : Nat} (rc : Nat → List Value → jH → Option jO) (hrc : ∀ c as h r h1, rc c as h = some (r, h1) → jM1 d c as h r h1) : jc_ok (d + 1) 181 (c_M_partOf_rc rc) := by
  intro as h k out e
  unfold c_M_partOf_rc at e
  split at e
  · obtain ⟨a0, rfl, e1⟩ := js_rv e
    obtain ⟨hg, e2⟩ := js_if e1
    obtain ⟨r, h1, hm, e3⟩ := js_jbJ e2
    exact ⟨_, _, _, Nat.le_refl _, hrc _ _ _ _ _ hm, ⟨fun _ => ⟨_, _, rfl, Or.inl ⟨7, by decide, hg, by decide +kernel⟩⟩, fun q => absurd q (by decide +kernel)⟩, e3⟩
  · cases e
theorem co_M_termOf_rc {d : Nat} (rc : Nat → List Value → jH → Option jO) (hrc : ∀ c as h r h1, rc c as h = some (r, h1) → jM1 d c as h r h1) : jc_ok (d + 1) 180 (c_M_termOf_rc rc) := by
  intro as h k out e
  unfold c_M_termOf_rc at e
  split at e
  · obtain ⟨a0, rfl, e1⟩ := js_rv e
    obtain ⟨hg, e2⟩ := js_if e1
    obtain ⟨r, h1, hm, e3⟩ := js_jbJ e2
    exact ⟨_, _, _, Nat.le_refl _, hrc _ _ _ _ _ hm, ⟨fun _ => ⟨_, _, rfl, Or.inl ⟨7, by decide, hg, by decide +kernel⟩⟩, fun q => absurd q (by decide +kernel)⟩, e3⟩
  · cases e
theorem co_M_sumOf_rc {d : Nat} (rc : Nat → List Value → jH → Option jO) (hrc : ∀ c as h r h1, rc c as h = some (r, h1) → jM1 d c as h r h1) : jc_ok (d + 1) 179 (c_M_sumOf_rc rc) := by
  intro as h k out e
  unfold c_M_sumOf_rc at e
  split at e
  · obtain ⟨a0, rfl, e1⟩ := js_rv e
    obtain ⟨hg, e2⟩ := js_if e1
    obtain ⟨r, h1, hm, e3⟩ := js_jbJ e2
    exact ⟨_, _, _, Nat.le_refl _, hrc _ _ _ _ _ hm, ⟨fun _ => ⟨_, _, rfl, Or.inl ⟨7, by decide, hg, by decide +kernel⟩⟩, fun q => absurd q (by decide +kernel)⟩, e3⟩
  · cases e
theorem rcok_rc2 (F : Nat × Nat) : ∀ f c as h r h1, rc2 F f c as h = some (r, h1) → jM1 (3 + 0 * F.2 + f) c as h r h1
  | 0, c, as, h, r, h1, e => nomatch (show (none : Option jO) = some (r, h1) from e)
  | f + 1, c, as, h, r, h1, e => by
    unfold rc2 at e
    split at e
    · exact kr_M_partOf F (rc2 F f) (by omega) (co_M_partOf_rc (rc2 F f) (rcok_rc2 F f)) (co_M_termOf_rc (rc2 F f) (rcok_rc2 F f)) (co_M_sumOf_rc (rc2 F f) (rcok_rc2 F f)) _ _ _ _ _ e
    · exact kr_M_termOf F (rc2 F f) (by omega) (co_M_partOf_rc (rc2 F f) (rcok_rc2 F f)) (co_M_termOf_rc (rc2 F f) (rcok_rc2 F f)) (co_M_sumOf_rc (rc2 F f) (rcok_rc2 F f)) _ _ _ _ _ e
    · exact kr_M_sumOf F (rc2 F f) (by omega) (co_M_partOf_rc (rc2 F f) (rcok_rc2 F f)) (co_M_termOf_rc (rc2 F f) (rcok_rc2 F f)) (co_M_sumOf_rc (rc2 F f) (rcok_rc2 F f)) _ _ _ _ _ e
    · cases e
theorem k_M_partOf (F : Nat × Nat) (a0 : Nat) (a1 : Int32) (h : jH) (r : Option Value) (h1 : jH) (e : m_M_partOf F a0 a1 h = some (r, h1)) : jM1 (3 + 1 * F.2) 181 [.ref a0, .int a1] h r h1 := by
  have q := rcok_rc2 F F.2 _ _ _ _ _ e
  rwa [show 3 + 0 * F.2 + F.2 = 3 + 1 * F.2 by omega] at q
theorem k_M_termOf (F : Nat × Nat) (a0 : Nat) (a1 : Int32) (h : jH) (r : Option Value) (h1 : jH) (e : m_M_termOf F a0 a1 h = some (r, h1)) : jM1 (3 + 1 * F.2) 180 [.ref a0, .int a1] h r h1 := by
  have q := rcok_rc2 F F.2 _ _ _ _ _ e
  rwa [show 3 + 0 * F.2 + F.2 = 3 + 1 * F.2 by omega] at q
theorem k_M_sumOf (F : Nat × Nat) (a0 : Nat) (a1 : Int32) (h : jH) (r : Option Value) (h1 : jH) (e : m_M_sumOf F a0 a1 h = some (r, h1)) : jM1 (3 + 1 * F.2) 179 [.ref a0, .int a1] h r h1 := by
  have q := rcok_rc2 F F.2 _ _ _ _ _ e
  rwa [show 3 + 0 * F.2 + F.2 = 3 + 1 * F.2 by omega] at q
theorem co_M_partOf (F : Nat × Nat) : jc_ok (3 + 1 * F.2 + 1) 181 (c_M_partOf F) := by
  intro as h k out e
  unfold c_M_partOf at e
  split at e
  · obtain ⟨a0, rfl, e1⟩ := js_rv e
    obtain ⟨hg, e2⟩ := js_if e1
    obtain ⟨r, h1, hm, e3⟩ := js_jbJ e2
    exact ⟨_, _, _, Nat.le_refl _, k_M_partOf F _ _ _ _ _ hm, ⟨fun _ => ⟨_, _, rfl, Or.inl ⟨7, by decide, hg, by decide +kernel⟩⟩, fun q => absurd q (by decide +kernel)⟩, e3⟩
  · cases e
theorem co_M_termOf (F : Nat × Nat) : jc_ok (3 + 1 * F.2 + 1) 180 (c_M_termOf F) := by
  intro as h k out e
  unfold c_M_termOf at e
  split at e
  · obtain ⟨a0, rfl, e1⟩ := js_rv e
    obtain ⟨hg, e2⟩ := js_if e1
    obtain ⟨r, h1, hm, e3⟩ := js_jbJ e2
    exact ⟨_, _, _, Nat.le_refl _, k_M_termOf F _ _ _ _ _ hm, ⟨fun _ => ⟨_, _, rfl, Or.inl ⟨7, by decide, hg, by decide +kernel⟩⟩, fun q => absurd q (by decide +kernel)⟩, e3⟩
  · cases e
theorem co_M_sumOf (F : Nat × Nat) : jc_ok (3 + 1 * F.2 + 1) 179 (c_M_sumOf F) := by
  intro as h k out e
  unfold c_M_sumOf at e
  split at e
  · obtain ⟨a0, rfl, e1⟩ := js_rv e
    obtain ⟨hg, e2⟩ := js_if e1
    obtain ⟨r, h1, hm, e3⟩ := js_jbJ e2
    exact ⟨_, _, _, Nat.le_refl _, k_M_sumOf F _ _ _ _ _ hm, ⟨fun _ => ⟨_, _, rfl, Or.inl ⟨7, by decide, hg, by decide +kernel⟩⟩, fun q => absurd q (by decide +kernel)⟩, e3⟩
  · cases e
def r_M_plainOf_2 (g : Nat → Int32 → Int32 → jH → Option jO) : jL → List Value → jH → Option jO := fun L S h => match L, S with
  | [some (.ref v0), some (.int v1), some (.int v2)], [] => g v0 v1 v2 h
  | _, _ => none
def r_M_bothOf_6 (g : Nat → Int32 → Int32 → jH → Option jO) : jL → List Value → jH → Option jO := fun L S h => match L, S with
  | [some (.ref v0), some (.int v1), some (.int v2), _], [] => g v0 v1 v2 h
  | _, _ => none
def r_M_testOf_6 (g : Nat → Int32 → Int32 → jH → Option jO) : jL → List Value → jH → Option jO := fun L S h => match L, S with
  | [some (.ref v0), some (.int v1), some (.int v2), _], [] => g v0 v1 v2 h
  | _, _ => none
def c_M_positiveOf_rc (rc : Nat → List Value → jH → Option jO) : jc1 := fun args h k => match args with
  | [w0, .int a1] => j_rv w0 fun a0 => if j_k h a0 = 17 then (jbI (rc 189 [.ref a0, .int a1] h) fun r h => k (some (.int r)) h) else none
  | _ => none
def c_M_plainOf_rc (rc : Nat → List Value → jH → Option jO) : jc1 := fun args h k => match args with
  | [w0, .int a1] => j_rv w0 fun a0 => if j_k h a0 = 17 then (jbI (rc 188 [.ref a0, .int a1] h) fun r h => k (some (.int r)) h) else none
  | _ => none
def c_M_bothOf_rc (rc : Nat → List Value → jH → Option jO) : jc1 := fun args h k => match args with
  | [w0, .int a1] => j_rv w0 fun a0 => if j_k h a0 = 17 then (jbI (rc 187 [.ref a0, .int a1] h) fun r h => k (some (.int r)) h) else none
  | _ => none
def c_M_testOf_rc (rc : Nat → List Value → jH → Option jO) : jc1 := fun args h k => match args with
  | [w0, .int a1] => j_rv w0 fun a0 => if j_k h a0 = 17 then (jbI (rc 186 [.ref a0, .int a1] h) fun r h => k (some (.int r)) h) else none
  | _ => none
def c_M_positiveOf (F : Nat × Nat) : jc1 := fun args h k => match args with
  | [w0, .int a1] => j_rv w0 fun a0 => if j_k h a0 = 17 then (jbI (m_M_positiveOf F a0 a1 h) fun r h => k (some (.int r)) h) else none
  | _ => none
def c_M_plainOf (F : Nat × Nat) : jc1 := fun args h k => match args with
  | [w0, .int a1] => j_rv w0 fun a0 => if j_k h a0 = 17 then (jbI (m_M_plainOf F a0 a1 h) fun r h => k (some (.int r)) h) else none
  | _ => none
def c_M_bothOf (F : Nat × Nat) : jc1 := fun args h k => match args with
  | [w0, .int a1] => j_rv w0 fun a0 => if j_k h a0 = 17 then (jbI (m_M_bothOf F a0 a1 h) fun r h => k (some (.int r)) h) else none
  | _ => none
def c_M_testOf (F : Nat × Nat) : jc1 := fun args h k => match args with
  | [w0, .int a1] => j_rv w0 fun a0 => if j_k h a0 = 17 then (jbI (m_M_testOf F a0 a1 h) fun r h => k (some (.int r)) h) else none
  | _ => none
set_option maxRecDepth 100000 in
theorem e_M_positiveOf (F : Nat × Nat) (rc : Nat → List Value → jH → Option jO) (o : Nat) (a1 : Int32) (h : jH) : m_M_positiveOf_r F rc o a1 h = jrun (j_C [(178, c_M_codeAt F), (179, c_M_sumOf F), (182, c_M_sign F), (183, c_M_passes0 F), (186, c_M_testOf_rc rc)]) 1 cd_M_positiveOf (j_T []) 72 0 [some (.ref o), some (.int a1), none, none, none, none, none] [] h := rfl
set_option maxRecDepth 100000 in
theorem e_M_plainOf_2 (F : Nat × Nat) (rc : Nat → List Value → jH → Option jO) (f : Nat) (v0 : Nat) (v1 : Int32) (v2 : Int32) (h : jH) : m_M_plainOf_2 F rc (f + 1) v0 v1 v2 h = jst (j_C [(183, c_M_passes0 F), (189, c_M_positiveOf_rc rc)]) 1 (cd_M_plainOf 2) [some (.ref v0), some (.int v1), some (.int v2)] [] h (jrun (j_C [(183, c_M_passes0 F), (189, c_M_positiveOf_rc rc)]) 1 cd_M_plainOf (j_T [(2, r_M_plainOf_2 (m_M_plainOf_2 F rc f))]) 27) := rfl
set_option maxRecDepth 100000 in
theorem e_M_plainOf (F : Nat × Nat) (rc : Nat → List Value → jH → Option jO) (o : Nat) (a1 : Int32) (h : jH) : m_M_plainOf_r F rc o a1 h = jrun (j_C [(183, c_M_passes0 F), (189, c_M_positiveOf_rc rc)]) 1 cd_M_plainOf (j_T [(2, r_M_plainOf_2 (m_M_plainOf_2 F rc F.1))]) 27 0 [some (.ref o), some (.int a1), none] [] h := rfl
set_option maxRecDepth 100000 in
theorem e_M_bothOf_6 (F : Nat × Nat) (rc : Nat → List Value → jH → Option jO) (f : Nat) (v0 : Nat) (v1 : Int32) (v2 : Int32) (u1 : Option Value) (h : jH) : m_M_bothOf_6 F rc (f + 1) v0 v1 v2 h = jst (j_C [(183, c_M_passes0 F), (188, c_M_plainOf_rc rc)]) 1 (cd_M_bothOf 6) [some (.ref v0), some (.int v1), some (.int v2), u1] [] h (jrun (j_C [(183, c_M_passes0 F), (188, c_M_plainOf_rc rc)]) 1 cd_M_bothOf (j_T [(6, r_M_bothOf_6 (m_M_bothOf_6 F rc f))]) 34) := rfl
set_option maxRecDepth 100000 in
theorem e_M_bothOf (F : Nat × Nat) (rc : Nat → List Value → jH → Option jO) (o : Nat) (a1 : Int32) (h : jH) : m_M_bothOf_r F rc o a1 h = jrun (j_C [(183, c_M_passes0 F), (188, c_M_plainOf_rc rc)]) 1 cd_M_bothOf (j_T [(6, r_M_bothOf_6 (m_M_bothOf_6 F rc F.1))]) 34 0 [some (.ref o), some (.int a1), none, none] [] h := rfl
set_option maxRecDepth 100000 in
theorem e_M_testOf_6 (F : Nat × Nat) (rc : Nat → List Value → jH → Option jO) (f : Nat) (v0 : Nat) (v1 : Int32) (v2 : Int32) (u1 : Option Value) (h : jH) : m_M_testOf_6 F rc (f + 1) v0 v1 v2 h = jst (j_C [(183, c_M_passes0 F), (187, c_M_bothOf_rc rc)]) 1 (cd_M_testOf 6) [some (.ref v0), some (.int v1), some (.int v2), u1] [] h (jrun (j_C [(183, c_M_passes0 F), (187, c_M_bothOf_rc rc)]) 1 cd_M_testOf (j_T [(6, r_M_testOf_6 (m_M_testOf_6 F rc f))]) 34) := rfl
set_option maxRecDepth 100000 in
theorem e_M_testOf (F : Nat × Nat) (rc : Nat → List Value → jH → Option jO) (o : Nat) (a1 : Int32) (h : jH) : m_M_testOf_r F rc o a1 h = jrun (j_C [(183, c_M_passes0 F), (187, c_M_bothOf_rc rc)]) 1 cd_M_testOf (j_T [(6, r_M_testOf_6 (m_M_testOf_6 F rc F.1))]) 34 0 [some (.ref o), some (.int a1), none, none] [] h := rfl
theorem hc_M_positiveOf (F : Nat × Nat) (rc : Nat → List Value → jH → Option jO) {D : Nat} (hD : 4 + 1 * F.2 ≤ D) (q_M_positiveOf : jc_ok D 189 (c_M_positiveOf_rc rc)) (q_M_plainOf : jc_ok D 188 (c_M_plainOf_rc rc)) (q_M_bothOf : jc_ok D 187 (c_M_bothOf_rc rc)) (q_M_testOf : jc_ok D 186 (c_M_testOf_rc rc)) : jCok D (j_C [(178, c_M_codeAt F), (179, c_M_sumOf F), (182, c_M_sign F), (183, c_M_passes0 F), (186, c_M_testOf_rc rc)]) := jC_ok (List.forall_mem_cons.mpr ⟨(co_M_codeAt F).up (by omega), List.forall_mem_cons.mpr ⟨(co_M_sumOf F).up (by omega), List.forall_mem_cons.mpr ⟨(co_M_sign F).up (by omega), List.forall_mem_cons.mpr ⟨(co_M_passes0 F).up (by omega), List.forall_mem_cons.mpr ⟨q_M_testOf, fun _ h => absurd h List.not_mem_nil⟩⟩⟩⟩⟩)
theorem kr_M_positiveOf (F : Nat × Nat) (rc : Nat → List Value → jH → Option jO) {D : Nat} (hD : 4 + 1 * F.2 ≤ D) (q_M_positiveOf : jc_ok D 189 (c_M_positiveOf_rc rc)) (q_M_plainOf : jc_ok D 188 (c_M_plainOf_rc rc)) (q_M_bothOf : jc_ok D 187 (c_M_bothOf_rc rc)) (q_M_testOf : jc_ok D 186 (c_M_testOf_rc rc)) (o : Nat) (a1 : Int32) (h : jH) (r : Option Value) (h1 : jH) (e : m_M_positiveOf_r F rc o a1 h = some (r, h1)) : jM1 D 189 [.ref o, .int a1] h r h1 := jM_of (M := M_M_positiveOf) mok_M_positiveOf (by decide +kernel) (by decide +kernel) (Or.inr (Or.inl ⟨rfl, rfl⟩)) (fun q => nomatch q) (jrun_ok ok_M_positiveOf (hc_M_positiveOf F rc hD q_M_positiveOf q_M_plainOf q_M_bothOf q_M_testOf) (jT_ok (fun _ h => absurd h List.not_mem_nil)) 72 0) (List.all_eq_true.mp rfl) (Nat.le_of_ble_eq_true rfl) (fun E => Nat.le_of_ble_eq_true rfl) ((e_M_positiveOf F rc o a1 h).symm.trans e)
theorem hc_M_plainOf (F : Nat × Nat) (rc : Nat → List Value → jH → Option jO) {D : Nat} (hD : 4 + 1 * F.2 ≤ D) (q_M_positiveOf : jc_ok D 189 (c_M_positiveOf_rc rc)) (q_M_plainOf : jc_ok D 188 (c_M_plainOf_rc rc)) (q_M_bothOf : jc_ok D 187 (c_M_bothOf_rc rc)) (q_M_testOf : jc_ok D 186 (c_M_testOf_rc rc)) : jCok D (j_C [(183, c_M_passes0 F), (189, c_M_positiveOf_rc rc)]) := jC_ok (List.forall_mem_cons.mpr ⟨(co_M_passes0 F).up (by omega), List.forall_mem_cons.mpr ⟨q_M_positiveOf, fun _ h => absurd h List.not_mem_nil⟩⟩)
theorem g_M_plainOf_2 (F : Nat × Nat) (rc : Nat → List Value → jH → Option jO) {D : Nat} (hD : 4 + 1 * F.2 ≤ D) (q_M_positiveOf : jc_ok D 189 (c_M_positiveOf_rc rc)) (q_M_plainOf : jc_ok D 188 (c_M_plainOf_rc rc)) (q_M_bothOf : jc_ok D 187 (c_M_bothOf_rc rc)) (q_M_testOf : jc_ok D 186 (c_M_testOf_rc rc)) : ∀ f, jG M_M_plainOf D 2 (r_M_plainOf_2 (m_M_plainOf_2 F rc f))
  | 0 => jG.no (fun L S h => by unfold r_M_plainOf_2; split <;> rfl)
  | f + 1 => (jst_ok ok_M_plainOf (hc_M_plainOf F rc hD q_M_positiveOf q_M_plainOf q_M_bothOf q_M_testOf) (jrun_ok ok_M_plainOf (hc_M_plainOf F rc hD q_M_positiveOf q_M_plainOf q_M_bothOf q_M_testOf) (jT_ok (List.forall_mem_cons.mpr ⟨g_M_plainOf_2 F rc hD q_M_positiveOf q_M_plainOf q_M_bothOf q_M_testOf f, fun _ h => absurd h List.not_mem_nil⟩)) 27) 2).of (fun L S h out e => by unfold r_M_plainOf_2 at e; split at e; exact (e_M_plainOf_2 F rc f _ _ _ _).symm.trans e; cases e)
theorem kr_M_plainOf (F : Nat × Nat) (rc : Nat → List Value → jH → Option jO) {D : Nat} (hD : 4 + 1 * F.2 ≤ D) (q_M_positiveOf : jc_ok D 189 (c_M_positiveOf_rc rc)) (q_M_plainOf : jc_ok D 188 (c_M_plainOf_rc rc)) (q_M_bothOf : jc_ok D 187 (c_M_bothOf_rc rc)) (q_M_testOf : jc_ok D 186 (c_M_testOf_rc rc)) (o : Nat) (a1 : Int32) (h : jH) (r : Option Value) (h1 : jH) (e : m_M_plainOf_r F rc o a1 h = some (r, h1)) : jM1 D 188 [.ref o, .int a1] h r h1 := jM_of (M := M_M_plainOf) mok_M_plainOf (by decide +kernel) (by decide +kernel) (Or.inr (Or.inl ⟨rfl, rfl⟩)) (fun q => nomatch q) (jrun_ok ok_M_plainOf (hc_M_plainOf F rc hD q_M_positiveOf q_M_plainOf q_M_bothOf q_M_testOf) (jT_ok (List.forall_mem_cons.mpr ⟨g_M_plainOf_2 F rc hD q_M_positiveOf q_M_plainOf q_M_bothOf q_M_testOf F.1, fun _ h => absurd h List.not_mem_nil⟩)) 27 0) (List.all_eq_true.mp rfl) (Nat.le_of_ble_eq_true rfl) (fun E => Nat.le_of_ble_eq_true rfl) ((e_M_plainOf F rc o a1 h).symm.trans e)
theorem hc_M_bothOf (F : Nat × Nat) (rc : Nat → List Value → jH → Option jO) {D : Nat} (hD : 4 + 1 * F.2 ≤ D) (q_M_positiveOf : jc_ok D 189 (c_M_positiveOf_rc rc)) (q_M_plainOf : jc_ok D 188 (c_M_plainOf_rc rc)) (q_M_bothOf : jc_ok D 187 (c_M_bothOf_rc rc)) (q_M_testOf : jc_ok D 186 (c_M_testOf_rc rc)) : jCok D (j_C [(183, c_M_passes0 F), (188, c_M_plainOf_rc rc)]) := jC_ok (List.forall_mem_cons.mpr ⟨(co_M_passes0 F).up (by omega), List.forall_mem_cons.mpr ⟨q_M_plainOf, fun _ h => absurd h List.not_mem_nil⟩⟩)
theorem g_M_bothOf_6 (F : Nat × Nat) (rc : Nat → List Value → jH → Option jO) {D : Nat} (hD : 4 + 1 * F.2 ≤ D) (q_M_positiveOf : jc_ok D 189 (c_M_positiveOf_rc rc)) (q_M_plainOf : jc_ok D 188 (c_M_plainOf_rc rc)) (q_M_bothOf : jc_ok D 187 (c_M_bothOf_rc rc)) (q_M_testOf : jc_ok D 186 (c_M_testOf_rc rc)) : ∀ f, jG M_M_bothOf D 6 (r_M_bothOf_6 (m_M_bothOf_6 F rc f))
  | 0 => jG.no (fun L S h => by unfold r_M_bothOf_6; split <;> rfl)
  | f + 1 => (jst_ok ok_M_bothOf (hc_M_bothOf F rc hD q_M_positiveOf q_M_plainOf q_M_bothOf q_M_testOf) (jrun_ok ok_M_bothOf (hc_M_bothOf F rc hD q_M_positiveOf q_M_plainOf q_M_bothOf q_M_testOf) (jT_ok (List.forall_mem_cons.mpr ⟨g_M_bothOf_6 F rc hD q_M_positiveOf q_M_plainOf q_M_bothOf q_M_testOf f, fun _ h => absurd h List.not_mem_nil⟩)) 34) 6).of (fun L S h out e => by unfold r_M_bothOf_6 at e; split at e; exact (e_M_bothOf_6 F rc f _ _ _ _ _).symm.trans e; cases e)
theorem kr_M_bothOf (F : Nat × Nat) (rc : Nat → List Value → jH → Option jO) {D : Nat} (hD : 4 + 1 * F.2 ≤ D) (q_M_positiveOf : jc_ok D 189 (c_M_positiveOf_rc rc)) (q_M_plainOf : jc_ok D 188 (c_M_plainOf_rc rc)) (q_M_bothOf : jc_ok D 187 (c_M_bothOf_rc rc)) (q_M_testOf : jc_ok D 186 (c_M_testOf_rc rc)) (o : Nat) (a1 : Int32) (h : jH) (r : Option Value) (h1 : jH) (e : m_M_bothOf_r F rc o a1 h = some (r, h1)) : jM1 D 187 [.ref o, .int a1] h r h1 := jM_of (M := M_M_bothOf) mok_M_bothOf (by decide +kernel) (by decide +kernel) (Or.inr (Or.inl ⟨rfl, rfl⟩)) (fun q => nomatch q) (jrun_ok ok_M_bothOf (hc_M_bothOf F rc hD q_M_positiveOf q_M_plainOf q_M_bothOf q_M_testOf) (jT_ok (List.forall_mem_cons.mpr ⟨g_M_bothOf_6 F rc hD q_M_positiveOf q_M_plainOf q_M_bothOf q_M_testOf F.1, fun _ h => absurd h List.not_mem_nil⟩)) 34 0) (List.all_eq_true.mp rfl) (Nat.le_of_ble_eq_true rfl) (fun E => Nat.le_of_ble_eq_true rfl) ((e_M_bothOf F rc o a1 h).symm.trans e)
theorem hc_M_testOf (F : Nat × Nat) (rc : Nat → List Value → jH → Option jO) {D : Nat} (hD : 4 + 1 * F.2 ≤ D) (q_M_positiveOf : jc_ok D 189 (c_M_positiveOf_rc rc)) (q_M_plainOf : jc_ok D 188 (c_M_plainOf_rc rc)) (q_M_bothOf : jc_ok D 187 (c_M_bothOf_rc rc)) (q_M_testOf : jc_ok D 186 (c_M_testOf_rc rc)) : jCok D (j_C [(183, c_M_passes0 F), (187, c_M_bothOf_rc rc)]) := jC_ok (List.forall_mem_cons.mpr ⟨(co_M_passes0 F).up (by omega), List.forall_mem_cons.mpr ⟨q_M_bothOf, fun _ h => absurd h List.not_mem_nil⟩⟩)
theorem g_M_testOf_6 (F : Nat × Nat) (rc : Nat → List Value → jH → Option jO) {D : Nat} (hD : 4 + 1 * F.2 ≤ D) (q_M_positiveOf : jc_ok D 189 (c_M_positiveOf_rc rc)) (q_M_plainOf : jc_ok D 188 (c_M_plainOf_rc rc)) (q_M_bothOf : jc_ok D 187 (c_M_bothOf_rc rc)) (q_M_testOf : jc_ok D 186 (c_M_testOf_rc rc)) : ∀ f, jG M_M_testOf D 6 (r_M_testOf_6 (m_M_testOf_6 F rc f))
  | 0 => jG.no (fun L S h => by unfold r_M_testOf_6; split <;> rfl)
  | f + 1 => (jst_ok ok_M_testOf (hc_M_testOf F rc hD q_M_positiveOf q_M_plainOf q_M_bothOf q_M_testOf) (jrun_ok ok_M_testOf (hc_M_testOf F rc hD q_M_positiveOf q_M_plainOf q_M_bothOf q_M_testOf) (jT_ok (List.forall_mem_cons.mpr ⟨g_M_testOf_6 F rc hD q_M_positiveOf q_M_plainOf q_M_bothOf q_M_testOf f, fun _ h => absurd h List.not_mem_nil⟩)) 34) 6).of (fun L S h out e => by unfold r_M_testOf_6 at e; split at e; exact (e_M_testOf_6 F rc f _ _ _ _ _).symm.trans e; cases e)
theorem kr_M_testOf (F : Nat × Nat) (rc : Nat → List Value → jH → Option jO) {D : Nat} (hD : 4 + 1 * F.2 ≤ D) (q_M_positiveOf : jc_ok D 189 (c_M_positiveOf_rc rc)) (q_M_plainOf : jc_ok D 188 (c_M_plainOf_rc rc)) (q_M_bothOf : jc_ok D 187 (c_M_bothOf_rc rc)) (q_M_testOf : jc_ok D 186 (c_M_testOf_rc rc)) (o : Nat) (a1 : Int32) (h : jH) (r : Option Value) (h1 : jH) (e : m_M_testOf_r F rc o a1 h = some (r, h1)) : jM1 D 186 [.ref o, .int a1] h r h1 := jM_of (M := M_M_testOf) mok_M_testOf (by decide +kernel) (by decide +kernel) (Or.inr (Or.inl ⟨rfl, rfl⟩)) (fun q => nomatch q) (jrun_ok ok_M_testOf (hc_M_testOf F rc hD q_M_positiveOf q_M_plainOf q_M_bothOf q_M_testOf) (jT_ok (List.forall_mem_cons.mpr ⟨g_M_testOf_6 F rc hD q_M_positiveOf q_M_plainOf q_M_bothOf q_M_testOf F.1, fun _ h => absurd h List.not_mem_nil⟩)) 34 0) (List.all_eq_true.mp rfl) (Nat.le_of_ble_eq_true rfl) (fun E => Nat.le_of_ble_eq_true rfl) ((e_M_testOf F rc o a1 h).symm.trans e)
theorem co_M_positiveOf_rc {d : Nat} (rc : Nat → List Value → jH → Option jO) (hrc : ∀ c as h r h1, rc c as h = some (r, h1) → jM1 d c as h r h1) : jc_ok (d + 1) 189 (c_M_positiveOf_rc rc) := by
  intro as h k out e
  unfold c_M_positiveOf_rc at e
  split at e
  · obtain ⟨a0, rfl, e1⟩ := js_rv e
    obtain ⟨hg, e2⟩ := js_if e1
    obtain ⟨r, h1, hm, e3⟩ := js_jbI e2
    exact ⟨_, _, _, Nat.le_refl _, hrc _ _ _ _ _ hm, ⟨fun _ => ⟨_, _, rfl, Or.inl ⟨7, by decide, hg, by decide +kernel⟩⟩, fun q => absurd q (by decide +kernel)⟩, e3⟩
  · cases e
theorem co_M_plainOf_rc {d : Nat} (rc : Nat → List Value → jH → Option jO) (hrc : ∀ c as h r h1, rc c as h = some (r, h1) → jM1 d c as h r h1) : jc_ok (d + 1) 188 (c_M_plainOf_rc rc) := by
  intro as h k out e
  unfold c_M_plainOf_rc at e
  split at e
  · obtain ⟨a0, rfl, e1⟩ := js_rv e
    obtain ⟨hg, e2⟩ := js_if e1
    obtain ⟨r, h1, hm, e3⟩ := js_jbI e2
    exact ⟨_, _, _, Nat.le_refl _, hrc _ _ _ _ _ hm, ⟨fun _ => ⟨_, _, rfl, Or.inl ⟨7, by decide, hg, by decide +kernel⟩⟩, fun q => absurd q (by decide +kernel)⟩, e3⟩
  · cases e
theorem co_M_bothOf_rc {d : Nat} (rc : Nat → List Value → jH → Option jO) (hrc : ∀ c as h r h1, rc c as h = some (r, h1) → jM1 d c as h r h1) : jc_ok (d + 1) 187 (c_M_bothOf_rc rc) := by
  intro as h k out e
  unfold c_M_bothOf_rc at e
  split at e
  · obtain ⟨a0, rfl, e1⟩ := js_rv e
    obtain ⟨hg, e2⟩ := js_if e1
    obtain ⟨r, h1, hm, e3⟩ := js_jbI e2
    exact ⟨_, _, _, Nat.le_refl _, hrc _ _ _ _ _ hm, ⟨fun _ => ⟨_, _, rfl, Or.inl ⟨7, by decide, hg, by decide +kernel⟩⟩, fun q => absurd q (by decide +kernel)⟩, e3⟩
  · cases e
theorem co_M_testOf_rc {d : Nat} (rc : Nat → List Value → jH → Option jO) (hrc : ∀ c as h r h1, rc c as h = some (r, h1) → jM1 d c as h r h1) : jc_ok (d + 1) 186 (c_M_testOf_rc rc) := by
  intro as h k out e
  unfold c_M_testOf_rc at e
  split at e
  · obtain ⟨a0, rfl, e1⟩ := js_rv e
    obtain ⟨hg, e2⟩ := js_if e1
    obtain ⟨r, h1, hm, e3⟩ := js_jbI e2
    exact ⟨_, _, _, Nat.le_refl _, hrc _ _ _ _ _ hm, ⟨fun _ => ⟨_, _, rfl, Or.inl ⟨7, by decide, hg, by decide +kernel⟩⟩, fun q => absurd q (by decide +kernel)⟩, e3⟩
  · cases e
theorem rcok_rc3 (F : Nat × Nat) : ∀ f c as h r h1, rc3 F f c as h = some (r, h1) → jM1 (4 + 1 * F.2 + f) c as h r h1
  | 0, c, as, h, r, h1, e => nomatch (show (none : Option jO) = some (r, h1) from e)
  | f + 1, c, as, h, r, h1, e => by
    unfold rc3 at e
    split at e
    · exact kr_M_positiveOf F (rc3 F f) (by omega) (co_M_positiveOf_rc (rc3 F f) (rcok_rc3 F f)) (co_M_plainOf_rc (rc3 F f) (rcok_rc3 F f)) (co_M_bothOf_rc (rc3 F f) (rcok_rc3 F f)) (co_M_testOf_rc (rc3 F f) (rcok_rc3 F f)) _ _ _ _ _ e
    · exact kr_M_plainOf F (rc3 F f) (by omega) (co_M_positiveOf_rc (rc3 F f) (rcok_rc3 F f)) (co_M_plainOf_rc (rc3 F f) (rcok_rc3 F f)) (co_M_bothOf_rc (rc3 F f) (rcok_rc3 F f)) (co_M_testOf_rc (rc3 F f) (rcok_rc3 F f)) _ _ _ _ _ e
    · exact kr_M_bothOf F (rc3 F f) (by omega) (co_M_positiveOf_rc (rc3 F f) (rcok_rc3 F f)) (co_M_plainOf_rc (rc3 F f) (rcok_rc3 F f)) (co_M_bothOf_rc (rc3 F f) (rcok_rc3 F f)) (co_M_testOf_rc (rc3 F f) (rcok_rc3 F f)) _ _ _ _ _ e
    · exact kr_M_testOf F (rc3 F f) (by omega) (co_M_positiveOf_rc (rc3 F f) (rcok_rc3 F f)) (co_M_plainOf_rc (rc3 F f) (rcok_rc3 F f)) (co_M_bothOf_rc (rc3 F f) (rcok_rc3 F f)) (co_M_testOf_rc (rc3 F f) (rcok_rc3 F f)) _ _ _ _ _ e
    · cases e
theorem k_M_positiveOf (F : Nat × Nat) (a0 : Nat) (a1 : Int32) (h : jH) (r : Option Value) (h1 : jH) (e : m_M_positiveOf F a0 a1 h = some (r, h1)) : jM1 (4 + 2 * F.2) 189 [.ref a0, .int a1] h r h1 := by
  have q := rcok_rc3 F F.2 _ _ _ _ _ e
  rwa [show 4 + 1 * F.2 + F.2 = 4 + 2 * F.2 by omega] at q
theorem k_M_plainOf (F : Nat × Nat) (a0 : Nat) (a1 : Int32) (h : jH) (r : Option Value) (h1 : jH) (e : m_M_plainOf F a0 a1 h = some (r, h1)) : jM1 (4 + 2 * F.2) 188 [.ref a0, .int a1] h r h1 := by
  have q := rcok_rc3 F F.2 _ _ _ _ _ e
  rwa [show 4 + 1 * F.2 + F.2 = 4 + 2 * F.2 by omega] at q
theorem k_M_bothOf (F : Nat × Nat) (a0 : Nat) (a1 : Int32) (h : jH) (r : Option Value) (h1 : jH) (e : m_M_bothOf F a0 a1 h = some (r, h1)) : jM1 (4 + 2 * F.2) 187 [.ref a0, .int a1] h r h1 := by
  have q := rcok_rc3 F F.2 _ _ _ _ _ e
  rwa [show 4 + 1 * F.2 + F.2 = 4 + 2 * F.2 by omega] at q
theorem k_M_testOf (F : Nat × Nat) (a0 : Nat) (a1 : Int32) (h : jH) (r : Option Value) (h1 : jH) (e : m_M_testOf F a0 a1 h = some (r, h1)) : jM1 (4 + 2 * F.2) 186 [.ref a0, .int a1] h r h1 := by
  have q := rcok_rc3 F F.2 _ _ _ _ _ e
  rwa [show 4 + 1 * F.2 + F.2 = 4 + 2 * F.2 by omega] at q
theorem co_M_positiveOf (F : Nat × Nat) : jc_ok (4 + 2 * F.2 + 1) 189 (c_M_positiveOf F) := by
  intro as h k out e
  unfold c_M_positiveOf at e
  split at e
  · obtain ⟨a0, rfl, e1⟩ := js_rv e
    obtain ⟨hg, e2⟩ := js_if e1
    obtain ⟨r, h1, hm, e3⟩ := js_jbI e2
    exact ⟨_, _, _, Nat.le_refl _, k_M_positiveOf F _ _ _ _ _ hm, ⟨fun _ => ⟨_, _, rfl, Or.inl ⟨7, by decide, hg, by decide +kernel⟩⟩, fun q => absurd q (by decide +kernel)⟩, e3⟩
  · cases e
theorem co_M_plainOf (F : Nat × Nat) : jc_ok (4 + 2 * F.2 + 1) 188 (c_M_plainOf F) := by
  intro as h k out e
  unfold c_M_plainOf at e
  split at e
  · obtain ⟨a0, rfl, e1⟩ := js_rv e
    obtain ⟨hg, e2⟩ := js_if e1
    obtain ⟨r, h1, hm, e3⟩ := js_jbI e2
    exact ⟨_, _, _, Nat.le_refl _, k_M_plainOf F _ _ _ _ _ hm, ⟨fun _ => ⟨_, _, rfl, Or.inl ⟨7, by decide, hg, by decide +kernel⟩⟩, fun q => absurd q (by decide +kernel)⟩, e3⟩
  · cases e
theorem co_M_bothOf (F : Nat × Nat) : jc_ok (4 + 2 * F.2 + 1) 187 (c_M_bothOf F) := by
  intro as h k out e
  unfold c_M_bothOf at e
  split at e
  · obtain ⟨a0, rfl, e1⟩ := js_rv e
    obtain ⟨hg, e2⟩ := js_if e1
    obtain ⟨r, h1, hm, e3⟩ := js_jbI e2
    exact ⟨_, _, _, Nat.le_refl _, k_M_bothOf F _ _ _ _ _ hm, ⟨fun _ => ⟨_, _, rfl, Or.inl ⟨7, by decide, hg, by decide +kernel⟩⟩, fun q => absurd q (by decide +kernel)⟩, e3⟩
  · cases e
theorem co_M_testOf (F : Nat × Nat) : jc_ok (4 + 2 * F.2 + 1) 186 (c_M_testOf F) := by
  intro as h k out e
  unfold c_M_testOf at e
  split at e
  · obtain ⟨a0, rfl, e1⟩ := js_rv e
    obtain ⟨hg, e2⟩ := js_if e1
    obtain ⟨r, h1, hm, e3⟩ := js_jbI e2
    exact ⟨_, _, _, Nat.le_refl _, k_M_testOf F _ _ _ _ _ hm, ⟨fun _ => ⟨_, _, rfl, Or.inl ⟨7, by decide, hg, by decide +kernel⟩⟩, fun q => absurd q (by decide +kernel)⟩, e3⟩
  · cases e
