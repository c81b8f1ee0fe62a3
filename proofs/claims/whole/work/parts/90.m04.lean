def c_F_trySmear (F : Nat × Nat) : jc1 := fun args h k => match args with
  | [w0, .int a1, .int a2] => j_rv w0 fun a0 => if j_k h a0 = 10 then (jbI (m_F_trySmear F a0 a1 a2 h) fun r h => k (some (.int r)) h) else none
  | _ => none
set_option maxRecDepth 100000 in
theorem e_F_trySmear (F : Nat × Nat) (o : Nat) (a1 : Int32) (a2 : Int32) (h : jH) : m_F_trySmear F o a1 a2 h = jrun (j_C [(9, c_F_isCell F), (19, c_L_hasWalker F), (20, c_Ji_bitCount F), (26, c_L_knows F), (86, c_D_add F), (91, c_L_blank F)]) 0 cd_F_trySmear (j_T []) 45 0 [some (.ref o), some (.int a1), some (.int a2)] [] h := rfl
theorem hc_F_trySmear (F : Nat × Nat) : jCok (2 + 0 * F.2) (j_C [(9, c_F_isCell F), (19, c_L_hasWalker F), (20, c_Ji_bitCount F), (26, c_L_knows F), (86, c_D_add F), (91, c_L_blank F)]) := jC_ok (List.forall_mem_cons.mpr ⟨(co_F_isCell F).up (by omega), List.forall_mem_cons.mpr ⟨(co_L_hasWalker F).up (by omega), List.forall_mem_cons.mpr ⟨(co_Ji_bitCount F).up (by omega), List.forall_mem_cons.mpr ⟨(co_L_knows F).up (by omega), List.forall_mem_cons.mpr ⟨(co_D_add F).up (by omega), List.forall_mem_cons.mpr ⟨(co_L_blank F).up (by omega), fun _ h => absurd h List.not_mem_nil⟩⟩⟩⟩⟩⟩)
theorem k_F_trySmear (F : Nat × Nat) (o : Nat) (a1 : Int32) (a2 : Int32) (h : jH) (r : Option Value) (h1 : jH) (e : m_F_trySmear F o a1 a2 h = some (r, h1)) : jM1 (2 + 0 * F.2) 94 [.ref o, .int a1, .int a2] h r h1 := jM_of (M := M_F_trySmear) mok_F_trySmear (by decide +kernel) (by decide +kernel) (Or.inl ⟨rfl, rfl⟩) (fun q => nomatch q) (jrun_ok ok_F_trySmear (hc_F_trySmear F) (jT_ok (fun _ h => absurd h List.not_mem_nil)) 45 0) (List.all_eq_true.mp rfl) (Nat.le_of_ble_eq_true rfl) (fun E => Nat.le_of_ble_eq_true rfl) ((e_F_trySmear F o a1 a2 h).symm.trans e)
theorem co_F_trySmear (F : Nat × Nat) : jc_ok (2 + 0 * F.2 + 1) 94 (c_F_trySmear F) := by
  intro as h k out e
  unfold c_F_trySmear at e
  split at e
  · obtain ⟨a0, rfl, e1⟩ := js_rv e
    obtain ⟨hg, e2⟩ := js_if e1
    obtain ⟨r, h1, hm, e3⟩ := js_jbI e2
    exact ⟨_, _, _, Nat.le_refl _, k_F_trySmear F _ _ _ _ _ _ hm, ⟨fun _ => ⟨_, _, rfl, Or.inl ⟨0, by decide, hg, by decide +kernel⟩⟩, fun q => absurd q (by decide +kernel)⟩, e3⟩
  · cases e
def c_F_tryPass (F : Nat × Nat) : jc1 := fun args h k => match args with
  | [w0] => j_rv w0 fun a0 => if j_k h a0 = 10 then (jbI (m_F_tryPass F a0 h) fun r h => k (some (.int r)) h) else none
  | _ => none
set_option maxRecDepth 100000 in
theorem e_F_tryPass (F : Nat × Nat) (o : Nat) (h : jH) : m_F_tryPass F o h = jrun (j_C [(86, c_D_add F)]) 0 cd_F_tryPass (j_T []) 39 0 [some (.ref o)] [] h := rfl
theorem hc_F_tryPass (F : Nat × Nat) : jCok (2 + 0 * F.2) (j_C [(86, c_D_add F)]) := jC_ok (List.forall_mem_cons.mpr ⟨(co_D_add F).up (by omega), fun _ h => absurd h List.not_mem_nil⟩)
theorem k_F_tryPass (F : Nat × Nat) (o : Nat) (h : jH) (r : Option Value) (h1 : jH) (e : m_F_tryPass F o h = some (r, h1)) : jM1 (2 + 0 * F.2) 95 [.ref o] h r h1 := jM_of (M := M_F_tryPass) mok_F_tryPass (by decide +kernel) (by decide +kernel) (Or.inl ⟨rfl, rfl⟩) (fun q => nomatch q) (jrun_ok ok_F_tryPass (hc_F_tryPass F) (jT_ok (fun _ h => absurd h List.not_mem_nil)) 39 0) (List.all_eq_true.mp rfl) (Nat.le_of_ble_eq_true rfl) (fun E => Nat.le_of_ble_eq_true rfl) ((e_F_tryPass F o h).symm.trans e)
theorem co_F_tryPass (F : Nat × Nat) : jc_ok (2 + 0 * F.2 + 1) 95 (c_F_tryPass F) := by
  intro as h k out e
  unfold c_F_tryPass at e
  split at e
  · obtain ⟨a0, rfl, e1⟩ := js_rv e
    obtain ⟨hg, e2⟩ := js_if e1
    obtain ⟨r, h1, hm, e3⟩ := js_jbI e2
    exact ⟨_, _, _, Nat.le_refl _, k_F_tryPass F _ _ _ _ hm, ⟨fun _ => ⟨_, _, rfl, Or.inl ⟨0, by decide, hg, by decide +kernel⟩⟩, fun q => absurd q (by decide +kernel)⟩, e3⟩
  · cases e
def r_F_runOnce_176 (g : Nat → Nat → Int32 → Int32 → jH → Option jO) : jL → List Value → jH → Option jO := fun L S h => match L, S with
  | [some (.ref v0), some (.ref v1), some (.int v2), _, _, _, _, some (.int v7)], [] => g v0 v1 v2 v7 h
  | _, _ => none
def c_F_runOnce (F : Nat × Nat) : jc1 := fun args h k => match args with
  | [w0, w1, .int a2] => j_rv w0 fun a0 => j_rv w1 fun a1 => if j_k h a0 = 10 then (jbI (m_F_runOnce F a0 a1 a2 h) fun r h => k (some (.int r)) h) else none
  | _ => none
set_option maxRecDepth 100000 in
theorem e_F_runOnce_176 (F : Nat × Nat) (v0 : Nat) (v1 : Nat) (v2 : Int32) (v7 : Int32) (u1 : Option Value) (u2 : Option Value) (u3 : Option Value) (u4 : Option Value) (h : jH) : m_F_runOnce_176 F v0 v1 v2 v7 h = jst (j_C [(28, c_U_worth F), (84, c_L_tellOrderWords F), (85, c_F_tryStep F), (92, c_F_tryJoin F), (94, c_F_trySmear F), (95, c_F_tryPass F)]) 1 (cd_F_runOnce 176) [some (.ref v0), some (.ref v1), some (.int v2), u1, u2, u3, u4, some (.int v7)] [] h (jrun (j_C [(28, c_U_worth F), (84, c_L_tellOrderWords F), (85, c_F_tryStep F), (92, c_F_tryJoin F), (94, c_F_trySmear F), (95, c_F_tryPass F)]) 1 cd_F_runOnce (j_T []) 115) := rfl
set_option maxRecDepth 100000 in
theorem e_F_runOnce (F : Nat × Nat) (o : Nat) (a1 : Nat) (a2 : Int32) (h : jH) : m_F_runOnce F o a1 a2 h = jrun (j_C [(28, c_U_worth F), (84, c_L_tellOrderWords F), (85, c_F_tryStep F), (92, c_F_tryJoin F), (94, c_F_trySmear F), (95, c_F_tryPass F)]) 1 cd_F_runOnce (j_T [(176, r_F_runOnce_176 (m_F_runOnce_176 F))]) 115 0 [some (.ref o), some (.ref a1), some (.int a2), none, none, none, none, none] [] h := rfl
theorem hc_F_runOnce (F : Nat × Nat) : jCok (5 + 0 * F.2) (j_C [(28, c_U_worth F), (84, c_L_tellOrderWords F), (85, c_F_tryStep F), (92, c_F_tryJoin F), (94, c_F_trySmear F), (95, c_F_tryPass F)]) := jC_ok (List.forall_mem_cons.mpr ⟨(co_U_worth F).up (by omega), List.forall_mem_cons.mpr ⟨(co_L_tellOrderWords F).up (by omega), List.forall_mem_cons.mpr ⟨(co_F_tryStep F).up (by omega), List.forall_mem_cons.mpr ⟨(co_F_tryJoin F).up (by omega), List.forall_mem_cons.mpr ⟨(co_F_trySmear F).up (by omega), List.forall_mem_cons.mpr ⟨(co_F_tryPass F).up (by omega), fun _ h => absurd h List.not_mem_nil⟩⟩⟩⟩⟩⟩)
theorem g_F_runOnce_176 (F : Nat × Nat) : jG M_F_runOnce (5 + 0 * F.2) 176 (r_F_runOnce_176 (m_F_runOnce_176 F)) := (jst_ok ok_F_runOnce (hc_F_runOnce F) (jrun_ok ok_F_runOnce (hc_F_runOnce F) (jT_ok (fun _ h => absurd h List.not_mem_nil)) 115) 176).of (fun L S h out e => by unfold r_F_runOnce_176 at e; split at e; exact (e_F_runOnce_176 F _ _ _ _ _ _ _ _ _).symm.trans e; cases e)
theorem k_F_runOnce (F : Nat × Nat) (o : Nat) (a1 : Nat) (a2 : Int32) (h : jH) (r : Option Value) (h1 : jH) (e : m_F_runOnce F o a1 a2 h = some (r, h1)) : jM1 (5 + 0 * F.2) 83 [.ref o, .ref a1, .int a2] h r h1 := jM_of (M := M_F_runOnce) mok_F_runOnce (by decide +kernel) (by decide +kernel) (Or.inr (Or.inl ⟨rfl, rfl⟩)) (fun q => nomatch q) (jrun_ok ok_F_runOnce (hc_F_runOnce F) (jT_ok (List.forall_mem_cons.mpr ⟨g_F_runOnce_176 F, fun _ h => absurd h List.not_mem_nil⟩)) 115 0) (List.all_eq_true.mp rfl) (Nat.le_of_ble_eq_true rfl) (fun E => Nat.le_of_ble_eq_true rfl) ((e_F_runOnce F o a1 a2 h).symm.trans e)
theorem co_F_runOnce (F : Nat × Nat) : jc_ok (5 + 0 * F.2 + 1) 83 (c_F_runOnce F) := by
  intro as h k out e
  unfold c_F_runOnce at e
  split at e
  · obtain ⟨a0, rfl, e1⟩ := js_rv e
    obtain ⟨a1, rfl, e2⟩ := js_rv e1
    obtain ⟨hg, e3⟩ := js_if e2
    obtain ⟨r, h1, hm, e4⟩ := js_jbI e3
    exact ⟨_, _, _, Nat.le_refl _, k_F_runOnce F _ _ _ _ _ _ hm, ⟨fun _ => ⟨_, _, rfl, Or.inl ⟨0, by decide, hg, by decide +kernel⟩⟩, fun q => absurd q (by decide +kernel)⟩, e4⟩
  · cases e
def r_F_orders_81 (g : Nat → Value → Int32 → Int32 → jH → Option jO) : jL → List Value → jH → Option jO := fun L S h => match L, S with
  | [some (.ref v0), some v1, some (.int v2), some (.int v3)], [] => g v0 v1 v2 v3 h
  | _, _ => none
def r_F_orders_71 (g : Nat → Value → Int32 → jH → Option jO) : jL → List Value → jH → Option jO := fun L S h => match L, S with
  | [some (.ref v0), some v1, some (.int v2), _], [] => g v0 v1 v2 h
  | _, _ => none
def c_F_orders (F : Nat × Nat) : jc1 := fun args h k => match args with
  | [w0] => j_rv w0 fun a0 => if j_k h a0 = 10 then (jbI (m_F_orders F a0 h) fun r h => k (some (.int r)) h) else none
  | _ => none
set_option maxRecDepth 100000 in
theorem e_F_orders_81 (F : Nat × Nat) (k71 : Nat → Value → Int32 → jH → Option jO) (f : Nat) (v0 : Nat) (v1 : Value) (v2 : Int32) (v3 : Int32) (h : jH) : m_F_orders_81 F k71 (f + 1) v0 v1 v2 v3 h = jst (j_C [(10, c_F_refuse F), (12, c_F_accept F), (48, c_P_reads F), (81, c_L_copyFrom F), (82, c_D_copyFrom F), (83, c_F_runOnce F)]) 0 (cd_F_orders 81) [some (.ref v0), some v1, some (.int v2), some (.int v3)] [] h (jrun (j_C [(10, c_F_refuse F), (12, c_F_accept F), (48, c_P_reads F), (81, c_L_copyFrom F), (82, c_D_copyFrom F), (83, c_F_runOnce F)]) 0 cd_F_orders (j_T [(71, r_F_orders_71 k71), (81, r_F_orders_81 (m_F_orders_81 F k71 f))]) 89) := rfl
set_option maxRecDepth 100000 in
theorem e_F_orders_71 (F : Nat × Nat) (f : Nat) (v0 : Nat) (v1 : Value) (v2 : Int32) (u1 : Option Value) (h : jH) : m_F_orders_71 F (f + 1) v0 v1 v2 h = jst (j_C [(10, c_F_refuse F), (12, c_F_accept F), (48, c_P_reads F), (81, c_L_copyFrom F), (82, c_D_copyFrom F), (83, c_F_runOnce F)]) 0 (cd_F_orders 71) [some (.ref v0), some v1, some (.int v2), u1] [] h (jrun (j_C [(10, c_F_refuse F), (12, c_F_accept F), (48, c_P_reads F), (81, c_L_copyFrom F), (82, c_D_copyFrom F), (83, c_F_runOnce F)]) 0 cd_F_orders (j_T [(81, r_F_orders_81 (m_F_orders_81 F (m_F_orders_71 F f) F.1))]) 89) := rfl
set_option maxRecDepth 100000 in
theorem e_F_orders (F : Nat × Nat) (o : Nat) (h : jH) : m_F_orders F o h = jrun (j_C [(10, c_F_refuse F), (12, c_F_accept F), (48, c_P_reads F), (81, c_L_copyFrom F), (82, c_D_copyFrom F), (83, c_F_runOnce F)]) 0 cd_F_orders (j_T [(71, r_F_orders_71 (m_F_orders_71 F F.1))]) 89 0 [some (.ref o), none, none, none] [] h := rfl
theorem hc_F_orders (F : Nat × Nat) : jCok (11 + 2 * F.2) (j_C [(10, c_F_refuse F), (12, c_F_accept F), (48, c_P_reads F), (81, c_L_copyFrom F), (82, c_D_copyFrom F), (83, c_F_runOnce F)]) := jC_ok (List.forall_mem_cons.mpr ⟨(co_F_refuse F).up (by omega), List.forall_mem_cons.mpr ⟨(co_F_accept F).up (by omega), List.forall_mem_cons.mpr ⟨(co_P_reads F).up (by omega), List.forall_mem_cons.mpr ⟨(co_L_copyFrom F).up (by omega), List.forall_mem_cons.mpr ⟨(co_D_copyFrom F).up (by omega), List.forall_mem_cons.mpr ⟨(co_F_runOnce F).up (by omega), fun _ h => absurd h List.not_mem_nil⟩⟩⟩⟩⟩⟩)
theorem g_F_orders_81 (F : Nat × Nat) (k71 : Nat → Value → Int32 → jH → Option jO) (hk71 : jG M_F_orders (11 + 2 * F.2) 71 (r_F_orders_71 k71)) : ∀ f, jG M_F_orders (11 + 2 * F.2) 81 (r_F_orders_81 (m_F_orders_81 F k71 f))
  | 0 => jG.no (fun L S h => by unfold r_F_orders_81; split <;> rfl)
  | f + 1 => (jst_ok ok_F_orders (hc_F_orders F) (jrun_ok ok_F_orders (hc_F_orders F) (jT_ok (List.forall_mem_cons.mpr ⟨hk71, List.forall_mem_cons.mpr ⟨g_F_orders_81 F k71 hk71 f, fun _ h => absurd h List.not_mem_nil⟩⟩)) 89) 81).of (fun L S h out e => by unfold r_F_orders_81 at e; split at e; exact (e_F_orders_81 F k71 f _ _ _ _ _).symm.trans e; cases e)
theorem g_F_orders_71 (F : Nat × Nat) : ∀ f, jG M_F_orders (11 + 2 * F.2) 71 (r_F_orders_71 (m_F_orders_71 F f))
  | 0 => jG.no (fun L S h => by unfold r_F_orders_71; split <;> rfl)
  | f + 1 => (jst_ok ok_F_orders (hc_F_orders F) (jrun_ok ok_F_orders (hc_F_orders F) (jT_ok (List.forall_mem_cons.mpr ⟨g_F_orders_81 F _ (g_F_orders_71 F f) F.1, fun _ h => absurd h List.not_mem_nil⟩)) 89) 71).of (fun L S h out e => by unfold r_F_orders_71 at e; split at e; exact (e_F_orders_71 F f _ _ _ _ _).symm.trans e; cases e)
theorem k_F_orders (F : Nat × Nat) (o : Nat) (h : jH) (r : Option Value) (h1 : jH) (e : m_F_orders F o h = some (r, h1)) : jM1 (11 + 2 * F.2) 80 [.ref o] h r h1 := jM_of (M := M_F_orders) mok_F_orders (by decide +kernel) (by decide +kernel) (Or.inl ⟨rfl, rfl⟩) (fun q => nomatch q) (jrun_ok ok_F_orders (hc_F_orders F) (jT_ok (List.forall_mem_cons.mpr ⟨g_F_orders_71 F F.1, fun _ h => absurd h List.not_mem_nil⟩)) 89 0) (List.all_eq_true.mp rfl) (Nat.le_of_ble_eq_true rfl) (fun E => Nat.le_of_ble_eq_true rfl) ((e_F_orders F o h).symm.trans e)
theorem co_F_orders (F : Nat × Nat) : jc_ok (11 + 2 * F.2 + 1) 80 (c_F_orders F) := by
  intro as h k out e
  unfold c_F_orders at e
  split at e
  · obtain ⟨a0, rfl, e1⟩ := js_rv e
    obtain ⟨hg, e2⟩ := js_if e1
    obtain ⟨r, h1, hm, e3⟩ := js_jbI e2
    exact ⟨_, _, _, Nat.le_refl _, k_F_orders F _ _ _ _ hm, ⟨fun _ => ⟨_, _, rfl, Or.inl ⟨0, by decide, hg, by decide +kernel⟩⟩, fun q => absurd q (by decide +kernel)⟩, e3⟩
  · cases e
def c_F_fault (F : Nat × Nat) : jc1 := fun args h k => match args with
  | [w0] => j_rv w0 fun a0 => if j_k h a0 = 10 then (jbI (m_F_fault F a0 h) fun r h => k (some (.int r)) h) else none
  | _ => none
set_option maxRecDepth 100000 in
theorem e_F_fault (F : Nat × Nat) (o : Nat) (h : jH) : m_F_fault F o h = jrun (j_C []) 0 cd_F_fault (j_T []) 9 0 [some (.ref o)] [] h := rfl
theorem hc_F_fault (F : Nat × Nat) : jCok (0 + 0 * F.2) (j_C []) := jC_ok (fun _ h => absurd h List.not_mem_nil)
theorem k_F_fault (F : Nat × Nat) (o : Nat) (h : jH) (r : Option Value) (h1 : jH) (e : m_F_fault F o h = some (r, h1)) : jM1 (0 + 0 * F.2) 96 [.ref o] h r h1 := jM_of (M := M_F_fault) mok_F_fault (by decide +kernel) (by decide +kernel) (Or.inl ⟨rfl, rfl⟩) (fun q => nomatch q) (jrun_ok ok_F_fault (hc_F_fault F) (jT_ok (fun _ h => absurd h List.not_mem_nil)) 9 0) (List.all_eq_true.mp rfl) (Nat.le_of_ble_eq_true rfl) (fun E => Nat.le_of_ble_eq_true rfl) ((e_F_fault F o h).symm.trans e)
theorem co_F_fault (F : Nat × Nat) : jc_ok (0 + 0 * F.2 + 1) 96 (c_F_fault F) := by
  intro as h k out e
  unfold c_F_fault at e
  split at e
  · obtain ⟨a0, rfl, e1⟩ := js_rv e
    obtain ⟨hg, e2⟩ := js_if e1
    obtain ⟨r, h1, hm, e3⟩ := js_jbI e2
    exact ⟨_, _, _, Nat.le_refl _, k_F_fault F _ _ _ _ hm, ⟨fun _ => ⟨_, _, rfl, Or.inl ⟨0, by decide, hg, by decide +kernel⟩⟩, fun q => absurd q (by decide +kernel)⟩, e3⟩
  · cases e
def c_F_stopped (F : Nat × Nat) : jc1 := fun args h k => match args with
  | [w0] => j_rv w0 fun a0 => if j_k h a0 = 10 then (jbI (m_F_stopped F a0 h) fun r h => k (some (.int r)) h) else none
  | _ => none
set_option maxRecDepth 100000 in
theorem e_F_stopped (F : Nat × Nat) (o : Nat) (h : jH) : m_F_stopped F o h = jrun (j_C []) 0 cd_F_stopped (j_T []) 8 0 [some (.ref o)] [] h := rfl
theorem hc_F_stopped (F : Nat × Nat) : jCok (0 + 0 * F.2) (j_C []) := jC_ok (fun _ h => absurd h List.not_mem_nil)
theorem k_F_stopped (F : Nat × Nat) (o : Nat) (h : jH) (r : Option Value) (h1 : jH) (e : m_F_stopped F o h = some (r, h1)) : jM1 (0 + 0 * F.2) 97 [.ref o] h r h1 := jM_of (M := M_F_stopped) mok_F_stopped (by decide +kernel) (by decide +kernel) (Or.inl ⟨rfl, rfl⟩) (fun q => nomatch q) (jrun_ok ok_F_stopped (hc_F_stopped F) (jT_ok (fun _ h => absurd h List.not_mem_nil)) 8 0) (List.all_eq_true.mp rfl) (Nat.le_of_ble_eq_true rfl) (fun E => Nat.le_of_ble_eq_true rfl) ((e_F_stopped F o h).symm.trans e)
theorem co_F_stopped (F : Nat × Nat) : jc_ok (0 + 0 * F.2 + 1) 97 (c_F_stopped F) := by
  intro as h k out e
  unfold c_F_stopped at e
  split at e
  · obtain ⟨a0, rfl, e1⟩ := js_rv e
    obtain ⟨hg, e2⟩ := js_if e1
    obtain ⟨r, h1, hm, e3⟩ := js_jbI e2
    exact ⟨_, _, _, Nat.le_refl _, k_F_stopped F _ _ _ _ hm, ⟨fun _ => ⟨_, _, rfl, Or.inl ⟨0, by decide, hg, by decide +kernel⟩⟩, fun q => absurd q (by decide +kernel)⟩, e3⟩
  · cases e
def c_F_force (F : Nat × Nat) : jc1 := fun args h k => match args with
  | [w0, .int a1] => j_rv w0 fun a0 => if j_k h a0 = 10 then (jbI (m_F_force F a0 a1 h) fun r h => k (some (.int r)) h) else none
  | _ => none
set_option maxRecDepth 100000 in
theorem e_F_force (F : Nat × Nat) (o : Nat) (a1 : Int32) (h : jH) : m_F_force F o a1 h = jrun (j_C [(10, c_F_refuse F), (12, c_F_accept F), (23, c_L_hasLaw F)]) 0 cd_F_force (j_T []) 29 0 [some (.ref o), some (.int a1), none] [] h := rfl
theorem hc_F_force (F : Nat × Nat) : jCok (1 + 0 * F.2) (j_C [(10, c_F_refuse F), (12, c_F_accept F), (23, c_L_hasLaw F)]) := jC_ok (List.forall_mem_cons.mpr ⟨(co_F_refuse F).up (by omega), List.forall_mem_cons.mpr ⟨(co_F_accept F).up (by omega), List.forall_mem_cons.mpr ⟨(co_L_hasLaw F).up (by omega), fun _ h => absurd h List.not_mem_nil⟩⟩⟩)
theorem k_F_force (F : Nat × Nat) (o : Nat) (a1 : Int32) (h : jH) (r : Option Value) (h1 : jH) (e : m_F_force F o a1 h = some (r, h1)) : jM1 (1 + 0 * F.2) 98 [.ref o, .int a1] h r h1 := jM_of (M := M_F_force) mok_F_force (by decide +kernel) (by decide +kernel) (Or.inl ⟨rfl, rfl⟩) (fun q => nomatch q) (jrun_ok ok_F_force (hc_F_force F) (jT_ok (fun _ h => absurd h List.not_mem_nil)) 29 0) (List.all_eq_true.mp rfl) (Nat.le_of_ble_eq_true rfl) (fun E => Nat.le_of_ble_eq_true rfl) ((e_F_force F o a1 h).symm.trans e)
theorem co_F_force (F : Nat × Nat) : jc_ok (1 + 0 * F.2 + 1) 98 (c_F_force F) := by
  intro as h k out e
  unfold c_F_force at e
  split at e
  · obtain ⟨a0, rfl, e1⟩ := js_rv e
    obtain ⟨hg, e2⟩ := js_if e1
    obtain ⟨r, h1, hm, e3⟩ := js_jbI e2
    exact ⟨_, _, _, Nat.le_refl _, k_F_force F _ _ _ _ _ hm, ⟨fun _ => ⟨_, _, rfl, Or.inl ⟨0, by decide, hg, by decide +kernel⟩⟩, fun q => absurd q (by decide +kernel)⟩, e3⟩
  · cases e
def c_F_settle (F : Nat × Nat) : jc1 := fun args h k => match args with
  | [w0, .int a1] => j_rv w0 fun a0 => if j_k h a0 = 10 then (jbI (m_F_settle F a0 a1 h) fun r h => k (some (.int r)) h) else none
  | _ => none
set_option maxRecDepth 100000 in
theorem e_F_settle (F : Nat × Nat) (o : Nat) (a1 : Int32) (h : jH) : m_F_settle F o a1 h = jrun (j_C [(10, c_F_refuse F), (12, c_F_accept F)]) 0 cd_F_settle (j_T []) 15 0 [some (.ref o), some (.int a1)] [] h := rfl
theorem hc_F_settle (F : Nat × Nat) : jCok (1 + 0 * F.2) (j_C [(10, c_F_refuse F), (12, c_F_accept F)]) := jC_ok (List.forall_mem_cons.mpr ⟨(co_F_refuse F).up (by omega), List.forall_mem_cons.mpr ⟨(co_F_accept F).up (by omega), fun _ h => absurd h List.not_mem_nil⟩⟩)
theorem k_F_settle (F : Nat × Nat) (o : Nat) (a1 : Int32) (h : jH) (r : Option Value) (h1 : jH) (e : m_F_settle F o a1 h = some (r, h1)) : jM1 (1 + 0 * F.2) 100 [.ref o, .int a1] h r h1 := jM_of (M := M_F_settle) mok_F_settle (by decide +kernel) (by decide +kernel) (Or.inl ⟨rfl, rfl⟩) (fun q => nomatch q) (jrun_ok ok_F_settle (hc_F_settle F) (jT_ok (fun _ h => absurd h List.not_mem_nil)) 15 0) (List.all_eq_true.mp rfl) (Nat.le_of_ble_eq_true rfl) (fun E => Nat.le_of_ble_eq_true rfl) ((e_F_settle F o a1 h).symm.trans e)
theorem co_F_settle (F : Nat × Nat) : jc_ok (1 + 0 * F.2 + 1) 100 (c_F_settle F) := by
  intro as h k out e
  unfold c_F_settle at e
  split at e
  · obtain ⟨a0, rfl, e1⟩ := js_rv e
    obtain ⟨hg, e2⟩ := js_if e1
    obtain ⟨r, h1, hm, e3⟩ := js_jbI e2
    exact ⟨_, _, _, Nat.le_refl _, k_F_settle F _ _ _ _ _ hm, ⟨fun _ => ⟨_, _, rfl, Or.inl ⟨0, by decide, hg, by decide +kernel⟩⟩, fun q => absurd q (by decide +kernel)⟩, e3⟩
  · cases e
def c_F_step (F : Nat × Nat) : jc1 := fun args h k => match args with
  | [w0, .int a1, .int a2] => j_rv w0 fun a0 => if j_k h a0 = 10 then (jbI (m_F_step F a0 a1 a2 h) fun r h => k (some (.int r)) h) else none
  | _ => none
set_option maxRecDepth 100000 in
theorem e_F_step (F : Nat × Nat) (o : Nat) (a1 : Int32) (a2 : Int32) (h : jH) : m_F_step F o a1 a2 h = jrun (j_C [(85, c_F_tryStep F), (100, c_F_settle F)]) 0 cd_F_step (j_T []) 12 0 [some (.ref o), some (.int a1), some (.int a2)] [] h := rfl
theorem hc_F_step (F : Nat × Nat) : jCok (5 + 0 * F.2) (j_C [(85, c_F_tryStep F), (100, c_F_settle F)]) := jC_ok (List.forall_mem_cons.mpr ⟨(co_F_tryStep F).up (by omega), List.forall_mem_cons.mpr ⟨(co_F_settle F).up (by omega), fun _ h => absurd h List.not_mem_nil⟩⟩)
theorem k_F_step (F : Nat × Nat) (o : Nat) (a1 : Int32) (a2 : Int32) (h : jH) (r : Option Value) (h1 : jH) (e : m_F_step F o a1 a2 h = some (r, h1)) : jM1 (5 + 0 * F.2) 99 [.ref o, .int a1, .int a2] h r h1 := jM_of (M := M_F_step) mok_F_step (by decide +kernel) (by decide +kernel) (Or.inl ⟨rfl, rfl⟩) (fun q => nomatch q) (jrun_ok ok_F_step (hc_F_step F) (jT_ok (fun _ h => absurd h List.not_mem_nil)) 12 0) (List.all_eq_true.mp rfl) (Nat.le_of_ble_eq_true rfl) (fun E => Nat.le_of_ble_eq_true rfl) ((e_F_step F o a1 a2 h).symm.trans e)
theorem co_F_step (F : Nat × Nat) : jc_ok (5 + 0 * F.2 + 1) 99 (c_F_step F) := by
  intro as h k out e
  unfold c_F_step at e
  split at e
  · obtain ⟨a0, rfl, e1⟩ := js_rv e
    obtain ⟨hg, e2⟩ := js_if e1
    obtain ⟨r, h1, hm, e3⟩ := js_jbI e2
    exact ⟨_, _, _, Nat.le_refl _, k_F_step F _ _ _ _ _ _ hm, ⟨fun _ => ⟨_, _, rfl, Or.inl ⟨0, by decide, hg, by decide +kernel⟩⟩, fun q => absurd q (by decide +kernel)⟩, e3⟩
  · cases e
def c_F_join (F : Nat × Nat) : jc1 := fun args h k => match args with
  | [w0, .int a1, .int a2] => j_rv w0 fun a0 => if j_k h a0 = 10 then (jbI (m_F_join F a0 a1 a2 h) fun r h => k (some (.int r)) h) else none
  | _ => none
set_option maxRecDepth 100000 in
theorem e_F_join (F : Nat × Nat) (o : Nat) (a1 : Int32) (a2 : Int32) (h : jH) : m_F_join F o a1 a2 h = jrun (j_C [(92, c_F_tryJoin F), (100, c_F_settle F)]) 0 cd_F_join (j_T []) 12 0 [some (.ref o), some (.int a1), some (.int a2)] [] h := rfl
theorem hc_F_join (F : Nat × Nat) : jCok (4 + 0 * F.2) (j_C [(92, c_F_tryJoin F), (100, c_F_settle F)]) := jC_ok (List.forall_mem_cons.mpr ⟨(co_F_tryJoin F).up (by omega), List.forall_mem_cons.mpr ⟨(co_F_settle F).up (by omega), fun _ h => absurd h List.not_mem_nil⟩⟩)
theorem k_F_join (F : Nat × Nat) (o : Nat) (a1 : Int32) (a2 : Int32) (h : jH) (r : Option Value) (h1 : jH) (e : m_F_join F o a1 a2 h = some (r, h1)) : jM1 (4 + 0 * F.2) 101 [.ref o, .int a1, .int a2] h r h1 := jM_of (M := M_F_join) mok_F_join (by decide +kernel) (by decide +kernel) (Or.inl ⟨rfl, rfl⟩) (fun q => nomatch q) (jrun_ok ok_F_join (hc_F_join F) (jT_ok (fun _ h => absurd h List.not_mem_nil)) 12 0) (List.all_eq_true.mp rfl) (Nat.le_of_ble_eq_true rfl) (fun E => Nat.le_of_ble_eq_true rfl) ((e_F_join F o a1 a2 h).symm.trans e)
theorem co_F_join (F : Nat × Nat) : jc_ok (4 + 0 * F.2 + 1) 101 (c_F_join F) := by
  intro as h k out e
  unfold c_F_join at e
  split at e
  · obtain ⟨a0, rfl, e1⟩ := js_rv e
    obtain ⟨hg, e2⟩ := js_if e1
    obtain ⟨r, h1, hm, e3⟩ := js_jbI e2
    exact ⟨_, _, _, Nat.le_refl _, k_F_join F _ _ _ _ _ _ hm, ⟨fun _ => ⟨_, _, rfl, Or.inl ⟨0, by decide, hg, by decide +kernel⟩⟩, fun q => absurd q (by decide +kernel)⟩, e3⟩
  · cases e
def c_F_smear (F : Nat × Nat) : jc1 := fun args h k => match args with
  | [w0, .int a1, .int a2] => j_rv w0 fun a0 => if j_k h a0 = 10 then (jbI (m_F_smear F a0 a1 a2 h) fun r h => k (some (.int r)) h) else none
  | _ => none
set_option maxRecDepth 100000 in
theorem e_F_smear (F : Nat × Nat) (o : Nat) (a1 : Int32) (a2 : Int32) (h : jH) : m_F_smear F o a1 a2 h = jrun (j_C [(94, c_F_trySmear F), (100, c_F_settle F)]) 0 cd_F_smear (j_T []) 12 0 [some (.ref o), some (.int a1), some (.int a2)] [] h := rfl
theorem hc_F_smear (F : Nat × Nat) : jCok (3 + 0 * F.2) (j_C [(94, c_F_trySmear F), (100, c_F_settle F)]) := jC_ok (List.forall_mem_cons.mpr ⟨(co_F_trySmear F).up (by omega), List.forall_mem_cons.mpr ⟨(co_F_settle F).up (by omega), fun _ h => absurd h List.not_mem_nil⟩⟩)
theorem k_F_smear (F : Nat × Nat) (o : Nat) (a1 : Int32) (a2 : Int32) (h : jH) (r : Option Value) (h1 : jH) (e : m_F_smear F o a1 a2 h = some (r, h1)) : jM1 (3 + 0 * F.2) 102 [.ref o, .int a1, .int a2] h r h1 := jM_of (M := M_F_smear) mok_F_smear (by decide +kernel) (by decide +kernel) (Or.inl ⟨rfl, rfl⟩) (fun q => nomatch q) (jrun_ok ok_F_smear (hc_F_smear F) (jT_ok (fun _ h => absurd h List.not_mem_nil)) 12 0) (List.all_eq_true.mp rfl) (Nat.le_of_ble_eq_true rfl) (fun E => Nat.le_of_ble_eq_true rfl) ((e_F_smear F o a1 a2 h).symm.trans e)
theorem co_F_smear (F : Nat × Nat) : jc_ok (3 + 0 * F.2 + 1) 102 (c_F_smear F) := by
  intro as h k out e
  unfold c_F_smear at e
  split at e
  · obtain ⟨a0, rfl, e1⟩ := js_rv e
    obtain ⟨hg, e2⟩ := js_if e1
    obtain ⟨r, h1, hm, e3⟩ := js_jbI e2
    exact ⟨_, _, _, Nat.le_refl _, k_F_smear F _ _ _ _ _ _ hm, ⟨fun _ => ⟨_, _, rfl, Or.inl ⟨0, by decide, hg, by decide +kernel⟩⟩, fun q => absurd q (by decide +kernel)⟩, e3⟩
  · cases e
def c_F_pass (F : Nat × Nat) : jc1 := fun args h k => match args with
  | [w0] => j_rv w0 fun a0 => if j_k h a0 = 10 then (jbI (m_F_pass F a0 h) fun r h => k (some (.int r)) h) else none
  | _ => none
set_option maxRecDepth 100000 in
theorem e_F_pass (F : Nat × Nat) (o : Nat) (h : jH) : m_F_pass F o h = jrun (j_C [(95, c_F_tryPass F), (100, c_F_settle F)]) 0 cd_F_pass (j_T []) 10 0 [some (.ref o)] [] h := rfl
theorem hc_F_pass (F : Nat × Nat) : jCok (3 + 0 * F.2) (j_C [(95, c_F_tryPass F), (100, c_F_settle F)]) := jC_ok (List.forall_mem_cons.mpr ⟨(co_F_tryPass F).up (by omega), List.forall_mem_cons.mpr ⟨(co_F_settle F).up (by omega), fun _ h => absurd h List.not_mem_nil⟩⟩)
theorem k_F_pass (F : Nat × Nat) (o : Nat) (h : jH) (r : Option Value) (h1 : jH) (e : m_F_pass F o h = some (r, h1)) : jM1 (3 + 0 * F.2) 103 [.ref o] h r h1 := jM_of (M := M_F_pass) mok_F_pass (by decide +kernel) (by decide +kernel) (Or.inl ⟨rfl, rfl⟩) (fun q => nomatch q) (jrun_ok ok_F_pass (hc_F_pass F) (jT_ok (fun _ h => absurd h List.not_mem_nil)) 10 0) (List.all_eq_true.mp rfl) (Nat.le_of_ble_eq_true rfl) (fun E => Nat.le_of_ble_eq_true rfl) ((e_F_pass F o h).symm.trans e)
theorem co_F_pass (F : Nat × Nat) : jc_ok (3 + 0 * F.2 + 1) 103 (c_F_pass F) := by
  intro as h k out e
  unfold c_F_pass at e
  split at e
  · obtain ⟨a0, rfl, e1⟩ := js_rv e
    obtain ⟨hg, e2⟩ := js_if e1
    obtain ⟨r, h1, hm, e3⟩ := js_jbI e2
    exact ⟨_, _, _, Nat.le_refl _, k_F_pass F _ _ _ _ hm, ⟨fun _ => ⟨_, _, rfl, Or.inl ⟨0, by decide, hg, by decide +kernel⟩⟩, fun q => absurd q (by decide +kernel)⟩, e3⟩
  · cases e
def r_D_takeBack_134 (g : Nat → Nat → jH → Option jO) : jL → List Value → jH → Option jO := fun L S h => match L, S with
  | [some (.ref v0), some (.ref v1)], [] => g v0 v1 h
  | _, _ => none
def r_D_takeBack_49 (g : Nat → Nat → jH → Option jO) : jL → List Value → jH → Option jO := fun L S h => match L, S with
  | [some (.ref v0), some (.ref v1)], [] => g v0 v1 h
  | _, _ => none
def c_D_takeBack (F : Nat × Nat) : jc1 := fun args h k => match args with
  | [w0, w1] => j_rv w0 fun a0 => j_rv w1 fun a1 => if j_k h a0 = 11 then (jbI (m_D_takeBack F a0 a1 h) fun r h => k (some (.int r)) h) else none
  | _ => none
set_option maxRecDepth 100000 in
theorem e_D_takeBack_134 (F : Nat × Nat) (v0 : Nat) (v1 : Nat) (h : jH) : m_D_takeBack_134 F v0 v1 h = jst (j_C [(19, c_L_hasWalker F)]) 0 (cd_D_takeBack 134) [some (.ref v0), some (.ref v1)] [] h (jrun (j_C [(19, c_L_hasWalker F)]) 0 cd_D_takeBack (j_T []) 123) := rfl
set_option maxRecDepth 100000 in
theorem e_D_takeBack_49 (F : Nat × Nat) (v0 : Nat) (v1 : Nat) (h : jH) : m_D_takeBack_49 F v0 v1 h = jst (j_C [(19, c_L_hasWalker F)]) 0 (cd_D_takeBack 49) [some (.ref v0), some (.ref v1)] [] h (jrun (j_C [(19, c_L_hasWalker F)]) 0 cd_D_takeBack (j_T [(134, r_D_takeBack_134 (m_D_takeBack_134 F))]) 123) := rfl
set_option maxRecDepth 100000 in
theorem e_D_takeBack (F : Nat × Nat) (o : Nat) (a1 : Nat) (h : jH) : m_D_takeBack F o a1 h = jrun (j_C [(19, c_L_hasWalker F)]) 0 cd_D_takeBack (j_T [(49, r_D_takeBack_49 (m_D_takeBack_49 F))]) 123 0 [some (.ref o), some (.ref a1)] [] h := rfl
theorem hc_D_takeBack (F : Nat × Nat) : jCok (1 + 0 * F.2) (j_C [(19, c_L_hasWalker F)]) := jC_ok (List.forall_mem_cons.mpr ⟨(co_L_hasWalker F).up (by omega), fun _ h => absurd h List.not_mem_nil⟩)
theorem g_D_takeBack_134 (F : Nat × Nat) : jG M_D_takeBack (1 + 0 * F.2) 134 (r_D_takeBack_134 (m_D_takeBack_134 F)) := (jst_ok ok_D_takeBack (hc_D_takeBack F) (jrun_ok ok_D_takeBack (hc_D_takeBack F) (jT_ok (fun _ h => absurd h List.not_mem_nil)) 123) 134).of (fun L S h out e => by unfold r_D_takeBack_134 at e; split at e; exact (e_D_takeBack_134 F _ _ _).symm.trans e; cases e)
theorem g_D_takeBack_49 (F : Nat × Nat) : jG M_D_takeBack (1 + 0 * F.2) 49 (r_D_takeBack_49 (m_D_takeBack_49 F)) := (jst_ok ok_D_takeBack (hc_D_takeBack F) (jrun_ok ok_D_takeBack (hc_D_takeBack F) (jT_ok (List.forall_mem_cons.mpr ⟨g_D_takeBack_134 F, fun _ h => absurd h List.not_mem_nil⟩)) 123) 49).of (fun L S h out e => by unfold r_D_takeBack_49 at e; split at e; exact (e_D_takeBack_49 F _ _ _).symm.trans e; cases e)
theorem k_D_takeBack (F : Nat × Nat) (o : Nat) (a1 : Nat) (h : jH) (r : Option Value) (h1 : jH) (e : m_D_takeBack F o a1 h = some (r, h1)) : jM1 (1 + 0 * F.2) 105 [.ref o, .ref a1] h r h1 := jM_of (M := M_D_takeBack) mok_D_takeBack (by decide +kernel) (by decide +kernel) (Or.inl ⟨rfl, rfl⟩) (fun q => nomatch q) (jrun_ok ok_D_takeBack (hc_D_takeBack F) (jT_ok (List.forall_mem_cons.mpr ⟨g_D_takeBack_49 F, fun _ h => absurd h List.not_mem_nil⟩)) 123 0) (List.all_eq_true.mp rfl) (Nat.le_of_ble_eq_true rfl) (fun E => Nat.le_of_ble_eq_true rfl) ((e_D_takeBack F o a1 h).symm.trans e)
theorem co_D_takeBack (F : Nat × Nat) : jc_ok (1 + 0 * F.2 + 1) 105 (c_D_takeBack F) := by
  intro as h k out e
  unfold c_D_takeBack at e
  split at e
  · obtain ⟨a0, rfl, e1⟩ := js_rv e
    obtain ⟨a1, rfl, e2⟩ := js_rv e1
    obtain ⟨hg, e3⟩ := js_if e2
    obtain ⟨r, h1, hm, e4⟩ := js_jbI e3
    exact ⟨_, _, _, Nat.le_refl _, k_D_takeBack F _ _ _ _ _ hm, ⟨fun _ => ⟨_, _, rfl, Or.inl ⟨1, by decide, hg, by decide +kernel⟩⟩, fun q => absurd q (by decide +kernel)⟩, e4⟩
  · cases e
def c_F_undo (F : Nat × Nat) : jc1 := fun args h k => match args with
  | [w0] => j_rv w0 fun a0 => if j_k h a0 = 10 then (jbI (m_F_undo F a0 h) fun r h => k (some (.int r)) h) else none
  | _ => none
set_option maxRecDepth 100000 in
theorem e_F_undo (F : Nat × Nat) (o : Nat) (h : jH) : m_F_undo F o h = jrun (j_C [(10, c_F_refuse F), (12, c_F_accept F), (105, c_D_takeBack F)]) 0 cd_F_undo (j_T []) 21 0 [some (.ref o)] [] h := rfl
theorem hc_F_undo (F : Nat × Nat) : jCok (2 + 0 * F.2) (j_C [(10, c_F_refuse F), (12, c_F_accept F), (105, c_D_takeBack F)]) := jC_ok (List.forall_mem_cons.mpr ⟨(co_F_refuse F).up (by omega), List.forall_mem_cons.mpr ⟨(co_F_accept F).up (by omega), List.forall_mem_cons.mpr ⟨(co_D_takeBack F).up (by omega), fun _ h => absurd h List.not_mem_nil⟩⟩⟩)
theorem k_F_undo (F : Nat × Nat) (o : Nat) (h : jH) (r : Option Value) (h1 : jH) (e : m_F_undo F o h = some (r, h1)) : jM1 (2 + 0 * F.2) 104 [.ref o] h r h1 := jM_of (M := M_F_undo) mok_F_undo (by decide +kernel) (by decide +kernel) (Or.inl ⟨rfl, rfl⟩) (fun q => nomatch q) (jrun_ok ok_F_undo (hc_F_undo F) (jT_ok (fun _ h => absurd h List.not_mem_nil)) 21 0) (List.all_eq_true.mp rfl) (Nat.le_of_ble_eq_true rfl) (fun E => Nat.le_of_ble_eq_true rfl) ((e_F_undo F o h).symm.trans e)
theorem co_F_undo (F : Nat × Nat) : jc_ok (2 + 0 * F.2 + 1) 104 (c_F_undo F) := by
  intro as h k out e
  unfold c_F_undo at e
  split at e
  · obtain ⟨a0, rfl, e1⟩ := js_rv e
    obtain ⟨hg, e2⟩ := js_if e1
    obtain ⟨r, h1, hm, e3⟩ := js_jbI e2
    exact ⟨_, _, _, Nat.le_refl _, k_F_undo F _ _ _ _ hm, ⟨fun _ => ⟨_, _, rfl, Or.inl ⟨0, by decide, hg, by decide +kernel⟩⟩, fun q => absurd q (by decide +kernel)⟩, e3⟩
  · cases e
def r_W_priceSteps_65 (g : Nat → Nat → Nat → Value → Int32 → Int32 → Int32 → Int32 → Int32 → Int32 → jH → Option jO) : jL → List Value → jH → Option jO := fun L S h => match L, S with
  | [some (.ref v0), some (.ref v1), some (.ref v2), some v3, some (.int v4), some (.int v5), some (.int v6), some (.int v7), some (.int v8), _], [.int s0] => g v0 v1 v2 v3 v4 v5 v6 v7 v8 s0 h
  | _, _ => none
def r_W_priceSteps_13 (g : Nat → Nat → Nat → Value → Int32 → Int32 → Int32 → Int32 → jH → Option jO) : jL → List Value → jH → Option jO := fun L S h => match L, S with
  | [some (.ref v0), some (.ref v1), some (.ref v2), some v3, some (.int v4), some (.int v5), some (.int v6), some (.int v7), _, _], [] => g v0 v1 v2 v3 v4 v5 v6 v7 h
  | _, _ => none
def r_W_priceSteps_3 (g : Nat → Nat → Nat → Value → Int32 → Int32 → Int32 → jH → Option jO) : jL → List Value → jH → Option jO := fun L S h => match L, S with
  | [some (.ref v0), some (.ref v1), some (.ref v2), some v3, some (.int v4), some (.int v5), some (.int v6), _, _, _], [] => g v0 v1 v2 v3 v4 v5 v6 h
  | _, _ => none
def c_W_priceSteps (F : Nat × Nat) : jc1 := fun args h k => match args with
  | [w0, w1, w2, w3, .int a4, .int a5] => j_rv w0 fun a0 => j_rv w1 fun a1 => j_rv w2 fun a2 => cond (j_isr w3) (if j_k h a0 = 16 then (jbV (m_W_priceSteps F a0 a1 a2 w3 a4 a5 h) fun h => k none h) else none) none
  | _ => none
set_option maxRecDepth 100000 in
theorem e_W_priceSteps_65 (F : Nat × Nat) (k3 : Nat → Nat → Nat → Value → Int32 → Int32 → Int32 → jH → Option jO) (k13 : Nat → Nat → Nat → Value → Int32 → Int32 → Int32 → Int32 → jH → Option jO) (v0 : Nat) (v1 : Nat) (v2 : Nat) (v3 : Value) (v4 : Int32) (v5 : Int32) (v6 : Int32) (v7 : Int32) (v8 : Int32) (s0 : Int32) (u1 : Option Value) (h : jH) : m_W_priceSteps_65 F k3 k13 v0 v1 v2 v3 v4 v5 v6 v7 v8 s0 h = jst (j_C [(37, c_F_neighbour F), (38, c_U_cost F), (39, c_U_bars F)]) 4 (cd_W_priceSteps 65) [some (.ref v0), some (.ref v1), some (.ref v2), some v3, some (.int v4), some (.int v5), some (.int v6), some (.int v7), some (.int v8), u1] [.int s0] h (jrun (j_C [(37, c_F_neighbour F), (38, c_U_cost F), (39, c_U_bars F)]) 4 cd_W_priceSteps (j_T [(13, r_W_priceSteps_13 k13)]) 67) := rfl
set_option maxRecDepth 100000 in
theorem e_W_priceSteps_13 (F : Nat × Nat) (k3 : Nat → Nat → Nat → Value → Int32 → Int32 → Int32 → jH → Option jO) (f : Nat) (v0 : Nat) (v1 : Nat) (v2 : Nat) (v3 : Value) (v4 : Int32) (v5 : Int32) (v6 : Int32) (v7 : Int32) (u1 : Option Value) (u2 : Option Value) (h : jH) : m_W_priceSteps_13 F k3 (f + 1) v0 v1 v2 v3 v4 v5 v6 v7 h = jst (j_C [(37, c_F_neighbour F), (38, c_U_cost F), (39, c_U_bars F)]) 4 (cd_W_priceSteps 13) [some (.ref v0), some (.ref v1), some (.ref v2), some v3, some (.int v4), some (.int v5), some (.int v6), some (.int v7), u1, u2] [] h (jrun (j_C [(37, c_F_neighbour F), (38, c_U_cost F), (39, c_U_bars F)]) 4 cd_W_priceSteps (j_T [(3, r_W_priceSteps_3 k3), (65, r_W_priceSteps_65 (m_W_priceSteps_65 F k3 (m_W_priceSteps_13 F k3 f)))]) 67) := rfl
set_option maxRecDepth 100000 in
theorem e_W_priceSteps_3 (F : Nat × Nat) (f : Nat) (v0 : Nat) (v1 : Nat) (v2 : Nat) (v3 : Value) (v4 : Int32) (v5 : Int32) (v6 : Int32) (u1 : Option Value) (u2 : Option Value) (u3 : Option Value) (h : jH) : m_W_priceSteps_3 F (f + 1) v0 v1 v2 v3 v4 v5 v6 h = jst (j_C [(37, c_F_neighbour F), (38, c_U_cost F), (39, c_U_bars F)]) 4 (cd_W_priceSteps 3) [some (.ref v0), some (.ref v1), some (.ref v2), some v3, some (.int v4), some (.int v5), some (.int v6), u1, u2, u3] [] h (jrun (j_C [(37, c_F_neighbour F), (38, c_U_cost F), (39, c_U_bars F)]) 4 cd_W_priceSteps (j_T [(13, r_W_priceSteps_13 (m_W_priceSteps_13 F (m_W_priceSteps_3 F f) F.1))]) 67) := rfl
set_option maxRecDepth 100000 in
theorem e_W_priceSteps (F : Nat × Nat) (o : Nat) (a1 : Nat) (a2 : Nat) (a3 : Value) (a4 : Int32) (a5 : Int32) (h : jH) : m_W_priceSteps F o a1 a2 a3 a4 a5 h = jrun (j_C [(37, c_F_neighbour F), (38, c_U_cost F), (39, c_U_bars F)]) 4 cd_W_priceSteps (j_T [(3, r_W_priceSteps_3 (m_W_priceSteps_3 F F.1))]) 67 0 [some (.ref o), some (.ref a1), some (.ref a2), some a3, some (.int a4), some (.int a5), none, none, none, none] [] h := rfl
theorem hc_W_priceSteps (F : Nat × Nat) : jCok (4 + 0 * F.2) (j_C [(37, c_F_neighbour F), (38, c_U_cost F), (39, c_U_bars F)]) := jC_ok (List.forall_mem_cons.mpr ⟨(co_F_neighbour F).up (by omega), List.forall_mem_cons.mpr ⟨(co_U_cost F).up (by omega), List.forall_mem_cons.mpr ⟨(co_U_bars F).up (by omega), fun _ h => absurd h List.not_mem_nil⟩⟩⟩)
theorem g_W_priceSteps_65 (F : Nat × Nat) (k3 : Nat → Nat → Nat → Value → Int32 → Int32 → Int32 → jH → Option jO) (hk3 : jG M_W_priceSteps (4 + 0 * F.2) 3 (r_W_priceSteps_3 k3)) (k13 : Nat → Nat → Nat → Value → Int32 → Int32 → Int32 → Int32 → jH → Option jO) (hk13 : jG M_W_priceSteps (4 + 0 * F.2) 13 (r_W_priceSteps_13 k13)) : jG M_W_priceSteps (4 + 0 * F.2) 65 (r_W_priceSteps_65 (m_W_priceSteps_65 F k3 k13)) := (jst_ok ok_W_priceSteps (hc_W_priceSteps F) (jrun_ok ok_W_priceSteps (hc_W_priceSteps F) (jT_ok (List.forall_mem_cons.mpr ⟨hk13, fun _ h => absurd h List.not_mem_nil⟩)) 67) 65).of (fun L S h out e => by unfold r_W_priceSteps_65 at e; split at e; exact (e_W_priceSteps_65 F k3 k13 _ _ _ _ _ _ _ _ _ _ _ _).symm.trans e; cases e)
theorem g_W_priceSteps_13 (F : Nat × Nat) (k3 : Nat → Nat → Nat → Value → Int32 → Int32 → Int32 → jH → Option jO) (hk3 : jG M_W_priceSteps (4 + 0 * F.2) 3 (r_W_priceSteps_3 k3)) : ∀ f, jG M_W_priceSteps (4 + 0 * F.2) 13 (r_W_priceSteps_13 (m_W_priceSteps_13 F k3 f))
  | 0 => jG.no (fun L S h => by unfold r_W_priceSteps_13; split <;> rfl)
  | f + 1 => (jst_ok ok_W_priceSteps (hc_W_priceSteps F) (jrun_ok ok_W_priceSteps (hc_W_priceSteps F) (jT_ok (List.forall_mem_cons.mpr ⟨hk3, List.forall_mem_cons.mpr ⟨g_W_priceSteps_65 F k3 hk3 _ (g_W_priceSteps_13 F k3 hk3 f), fun _ h => absurd h List.not_mem_nil⟩⟩)) 67) 13).of (fun L S h out e => by unfold r_W_priceSteps_13 at e; split at e; exact (e_W_priceSteps_13 F k3 f _ _ _ _ _ _ _ _ _ _ _).symm.trans e; cases e)
theorem g_W_priceSteps_3 (F : Nat × Nat) : ∀ f, jG M_W_priceSteps (4 + 0 * F.2) 3 (r_W_priceSteps_3 (m_W_priceSteps_3 F f))
  | 0 => jG.no (fun L S h => by unfold r_W_priceSteps_3; split <;> rfl)
  | f + 1 => (jst_ok ok_W_priceSteps (hc_W_priceSteps F) (jrun_ok ok_W_priceSteps (hc_W_priceSteps F) (jT_ok (List.forall_mem_cons.mpr ⟨g_W_priceSteps_13 F _ (g_W_priceSteps_3 F f) F.1, fun _ h => absurd h List.not_mem_nil⟩)) 67) 3).of (fun L S h out e => by unfold r_W_priceSteps_3 at e; split at e; exact (e_W_priceSteps_3 F f _ _ _ _ _ _ _ _ _ _ _).symm.trans e; cases e)
theorem k_W_priceSteps (F : Nat × Nat) (o : Nat) (a1 : Nat) (a2 : Nat) (a3 : Value) (a4 : Int32) (a5 : Int32) (hv_a3 : j_isr a3 = true) (h : jH) (r : Option Value) (h1 : jH) (e : m_W_priceSteps F o a1 a2 a3 a4 a5 h = some (r, h1)) : jM1 (4 + 0 * F.2) 107 [.ref o, .ref a1, .ref a2, a3, .int a4, .int a5] h r h1 := by
  cases a3 with
  | null => exact jM_of (M := M_W_priceSteps) mok_W_priceSteps (by decide +kernel) (by decide +kernel) (Or.inr (Or.inr (Or.inr (Or.inr ⟨rfl, rfl⟩)))) (fun q => nomatch q) (jrun_ok ok_W_priceSteps (hc_W_priceSteps F) (jT_ok (List.forall_mem_cons.mpr ⟨g_W_priceSteps_3 F F.1, fun _ h => absurd h List.not_mem_nil⟩)) 67 0) (List.all_eq_true.mp rfl) (Nat.le_of_ble_eq_true rfl) (fun E => Nat.le_of_ble_eq_true rfl) ((e_W_priceSteps F o a1 a2 _ a4 a5 h).symm.trans e)
  | ref _ => exact jM_of (M := M_W_priceSteps) mok_W_priceSteps (by decide +kernel) (by decide +kernel) (Or.inr (Or.inr (Or.inr (Or.inr ⟨rfl, rfl⟩)))) (fun q => nomatch q) (jrun_ok ok_W_priceSteps (hc_W_priceSteps F) (jT_ok (List.forall_mem_cons.mpr ⟨g_W_priceSteps_3 F F.1, fun _ h => absurd h List.not_mem_nil⟩)) 67 0) (List.all_eq_true.mp rfl) (Nat.le_of_ble_eq_true rfl) (fun E => Nat.le_of_ble_eq_true rfl) ((e_W_priceSteps F o a1 a2 _ a4 a5 h).symm.trans e)
  | _ => cases hv_a3
theorem co_W_priceSteps (F : Nat × Nat) : jc_ok (4 + 0 * F.2 + 1) 107 (c_W_priceSteps F) := by
  intro as h k out e
  unfold c_W_priceSteps at e
  split at e
  · obtain ⟨a0, rfl, e1⟩ := js_rv e
    obtain ⟨a1, rfl, e2⟩ := js_rv e1
    obtain ⟨a2, rfl, e3⟩ := js_rv e2
    obtain ⟨hv3, e4⟩ := js_cond e3
    obtain ⟨hg, e5⟩ := js_if e4
    obtain ⟨h1, hm, e6⟩ := js_jbV e5
    exact ⟨_, _, _, Nat.le_refl _, k_W_priceSteps F _ _ _ _ _ _ hv3 _ _ _ hm, ⟨fun _ => ⟨_, _, rfl, Or.inl ⟨6, by decide, hg, by decide +kernel⟩⟩, fun q => absurd q (by decide +kernel)⟩, e6⟩
  · cases e
def r_Ja_fill_5 (g : Nat → Int32 → Int32 → Int32 → jH → Option jO) : jL → List Value → jH → Option jO := fun L S h => match L, S with
  | [some (.ref v0), some (.int v1), some (.int v2), some (.int v3)], [] => g v0 v1 v2 v3 h
  | _, _ => none
def c_Ja_fill (F : Nat × Nat) : jc1 := fun args h k => match args with
  | [w0, .int a1] => j_rv w0 fun a0 => jbV (m_Ja_fill F a0 a1 h) fun h => k none h
  | _ => none
set_option maxRecDepth 100000 in
theorem e_Ja_fill_5 (F : Nat × Nat) (f : Nat) (v0 : Nat) (v1 : Int32) (v2 : Int32) (v3 : Int32) (h : jH) : m_Ja_fill_5 F (f + 1) v0 v1 v2 v3 h = jst (j_C []) 4 (cd_Ja_fill 5) [some (.ref v0), some (.int v1), some (.int v2), some (.int v3)] [] h (jrun (j_C []) 4 cd_Ja_fill (j_T [(5, r_Ja_fill_5 (m_Ja_fill_5 F f))]) 20) := rfl
set_option maxRecDepth 100000 in
theorem e_Ja_fill (F : Nat × Nat) (a0 : Nat) (a1 : Int32) (h : jH) : m_Ja_fill F a0 a1 h = jrun (j_C []) 4 cd_Ja_fill (j_T [(5, r_Ja_fill_5 (m_Ja_fill_5 F F.1))]) 20 0 [some (.ref a0), some (.int a1), none, none] [] h := rfl
theorem hc_Ja_fill (F : Nat × Nat) : jCok (0 + 0 * F.2) (j_C []) := jC_ok (fun _ h => absurd h List.not_mem_nil)
theorem g_Ja_fill_5 (F : Nat × Nat) : ∀ f, jG M_Ja_fill (0 + 0 * F.2) 5 (r_Ja_fill_5 (m_Ja_fill_5 F f))
  | 0 => jG.no (fun L S h => by unfold r_Ja_fill_5; split <;> rfl)
  | f + 1 => (jst_ok ok_Ja_fill (hc_Ja_fill F) (jrun_ok ok_Ja_fill (hc_Ja_fill F) (jT_ok (List.forall_mem_cons.mpr ⟨g_Ja_fill_5 F f, fun _ h => absurd h List.not_mem_nil⟩)) 20) 5).of (fun L S h out e => by unfold r_Ja_fill_5 at e; split at e; exact (e_Ja_fill_5 F f _ _ _ _ _).symm.trans e; cases e)
theorem k_Ja_fill (F : Nat × Nat) (a0 : Nat) (a1 : Int32) (h : jH) (r : Option Value) (h1 : jH) (e : m_Ja_fill F a0 a1 h = some (r, h1)) : jM1 (0 + 0 * F.2) 110 [.ref a0, .int a1] h r h1 := jM_of (M := M_Ja_fill) mok_Ja_fill (by decide +kernel) (by decide +kernel) (Or.inr (Or.inr (Or.inr (Or.inr ⟨rfl, rfl⟩)))) (fun q => nomatch q) (jrun_ok ok_Ja_fill (hc_Ja_fill F) (jT_ok (List.forall_mem_cons.mpr ⟨g_Ja_fill_5 F F.1, fun _ h => absurd h List.not_mem_nil⟩)) 20 0) (List.all_eq_true.mp rfl) (Nat.le_of_ble_eq_true rfl) (fun E => Nat.le_of_ble_eq_true rfl) ((e_Ja_fill F a0 a1 h).symm.trans e)
theorem co_Ja_fill (F : Nat × Nat) : jc_ok (0 + 0 * F.2 + 1) 110 (c_Ja_fill F) := by
  intro as h k out e
  unfold c_Ja_fill at e
  split at e
  · obtain ⟨a0, rfl, e1⟩ := js_rv e
    obtain ⟨h1, hm, e2⟩ := js_jbV e1
    exact ⟨_, _, _, Nat.le_refl _, k_Ja_fill F _ _ _ _ _ hm, ⟨fun q => absurd q (by decide +kernel), fun q => absurd q (by decide +kernel)⟩, e2⟩
  · cases e
def c_W_priceOf (F : Nat × Nat) : jc1 := fun args h k => match args with
  | [w0, .int a1, .int a2] => j_rv w0 fun a0 => if j_k h a0 = 16 then (jbI (m_W_priceOf F a0 a1 a2 h) fun r h => k (some (.int r)) h) else none
  | _ => none
set_option maxRecDepth 100000 in
theorem e_W_priceOf (F : Nat × Nat) (o : Nat) (a1 : Int32) (a2 : Int32) (h : jH) : m_W_priceOf F o a1 a2 h = jrun (j_C []) 0 cd_W_priceOf (j_T []) 16 0 [some (.ref o), some (.int a1), some (.int a2)] [] h := rfl
theorem hc_W_priceOf (F : Nat × Nat) : jCok (0 + 0 * F.2) (j_C []) := jC_ok (fun _ h => absurd h List.not_mem_nil)
theorem k_W_priceOf (F : Nat × Nat) (o : Nat) (a1 : Int32) (a2 : Int32) (h : jH) (r : Option Value) (h1 : jH) (e : m_W_priceOf F o a1 a2 h = some (r, h1)) : jM1 (0 + 0 * F.2) 111 [.ref o, .int a1, .int a2] h r h1 := jM_of (M := M_W_priceOf) mok_W_priceOf (by decide +kernel) (by decide +kernel) (Or.inl ⟨rfl, rfl⟩) (fun q => nomatch q) (jrun_ok ok_W_priceOf (hc_W_priceOf F) (jT_ok (fun _ h => absurd h List.not_mem_nil)) 16 0) (List.all_eq_true.mp rfl) (Nat.le_of_ble_eq_true rfl) (fun E => Nat.le_of_ble_eq_true rfl) ((e_W_priceOf F o a1 a2 h).symm.trans e)
theorem co_W_priceOf (F : Nat × Nat) : jc_ok (0 + 0 * F.2 + 1) 111 (c_W_priceOf F) := by
  intro as h k out e
  unfold c_W_priceOf at e
  split at e
  · obtain ⟨a0, rfl, e1⟩ := js_rv e
    obtain ⟨hg, e2⟩ := js_if e1
    obtain ⟨r, h1, hm, e3⟩ := js_jbI e2
    exact ⟨_, _, _, Nat.le_refl _, k_W_priceOf F _ _ _ _ _ _ hm, ⟨fun _ => ⟨_, _, rfl, Or.inl ⟨6, by decide, hg, by decide +kernel⟩⟩, fun q => absurd q (by decide +kernel)⟩, e3⟩
  · cases e
def r_W_countAll_103 (g : Nat → Int32 → Int32 → Int32 → Int32 → Int32 → Int32 → Int32 → jH → Option jO) : jL → List Value → jH → Option jO := fun L S h => match L, S with
  | [some (.ref v0), _, some (.int v2), some (.int v3), some (.int v4), some (.int v5), some (.int v6), _, some (.int v8), _, _], [.int s0] => g v0 v2 v3 v4 v5 v6 v8 s0 h
  | _, _ => none
def r_W_countAll_47 (g : Nat → Int32 → Int32 → Int32 → Int32 → Int32 → jH → Option jO) : jL → List Value → jH → Option jO := fun L S h => match L, S with
  | [some (.ref v0), _, some (.int v2), some (.int v3), some (.int v4), some (.int v5), some (.int v6), _, _, _, _], [] => g v0 v2 v3 v4 v5 v6 h
  | _, _ => none
def r_W_countAll_37 (g : Nat → Int32 → Int32 → Int32 → Int32 → jH → Option jO) : jL → List Value → jH → Option jO := fun L S h => match L, S with
  | [some (.ref v0), _, some (.int v2), some (.int v3), some (.int v4), some (.int v5), _, _, _, _, _], [] => g v0 v2 v3 v4 v5 h
  | _, _ => none
def r_W_countAll_21 (g : Nat → Int32 → Int32 → Int32 → jH → Option jO) : jL → List Value → jH → Option jO := fun L S h => match L, S with
  | [some (.ref v0), _, some (.int v2), some (.int v3), some (.int v4), _, _, _, _, _, _], [] => g v0 v2 v3 v4 h
  | _, _ => none
def c_W_countAll (F : Nat × Nat) : jc1 := fun args h k => match args with
  | [w0, .int a1, .int a2] => j_rv w0 fun a0 => if j_k h a0 = 16 then (jbV (m_W_countAll F a0 a1 a2 h) fun h => k none h) else none
  | _ => none
set_option maxRecDepth 100000 in
theorem e_W_countAll_103 (F : Nat × Nat) (k21 : Nat → Int32 → Int32 → Int32 → jH → Option jO) (k37 : Nat → Int32 → Int32 → Int32 → Int32 → jH → Option jO) (k47 : Nat → Int32 → Int32 → Int32 → Int32 → Int32 → jH → Option jO) (v0 : Nat) (v2 : Int32) (v3 : Int32) (v4 : Int32) (v5 : Int32) (v6 : Int32) (v8 : Int32) (s0 : Int32) (u1 : Option Value) (u2 : Option Value) (u3 : Option Value) (u4 : Option Value) (h : jH) : m_W_countAll_103 F k21 k37 k47 v0 v2 v3 v4 v5 v6 v8 s0 h = jst (j_C [(37, c_F_neighbour F), (79, c_Jm_min_II F), (110, c_Ja_fill F), (111, c_W_priceOf F)]) 4 (cd_W_countAll 103) [some (.ref v0), u1, some (.int v2), some (.int v3), some (.int v4), some (.int v5), some (.int v6), u2, some (.int v8), u3, u4] [.int s0] h (jrun (j_C [(37, c_F_neighbour F), (79, c_Jm_min_II F), (110, c_Ja_fill F), (111, c_W_priceOf F)]) 4 cd_W_countAll (j_T [(47, r_W_countAll_47 k47)]) 98) := rfl
set_option maxRecDepth 100000 in
theorem e_W_countAll_47 (F : Nat × Nat) (k21 : Nat → Int32 → Int32 → Int32 → jH → Option jO) (k37 : Nat → Int32 → Int32 → Int32 → Int32 → jH → Option jO) (f : Nat) (v0 : Nat) (v2 : Int32) (v3 : Int32) (v4 : Int32) (v5 : Int32) (v6 : Int32) (u1 : Option Value) (u2 : Option Value) (u3 : Option Value) (u4 : Option Value) (u5 : Option Value) (h : jH) : m_W_countAll_47 F k21 k37 (f + 1) v0 v2 v3 v4 v5 v6 h = jst (j_C [(37, c_F_neighbour F), (79, c_Jm_min_II F), (110, c_Ja_fill F), (111, c_W_priceOf F)]) 4 (cd_W_countAll 47) [some (.ref v0), u1, some (.int v2), some (.int v3), some (.int v4), some (.int v5), some (.int v6), u2, u3, u4, u5] [] h (jrun (j_C [(37, c_F_neighbour F), (79, c_Jm_min_II F), (110, c_Ja_fill F), (111, c_W_priceOf F)]) 4 cd_W_countAll (j_T [(37, r_W_countAll_37 k37), (47, r_W_countAll_47 (m_W_countAll_47 F k21 k37 f)), (103, r_W_countAll_103 (m_W_countAll_103 F k21 k37 (m_W_countAll_47 F k21 k37 f)))]) 98) := rfl
set_option maxRecDepth 100000 in
theorem e_W_countAll_37 (F : Nat × Nat) (k21 : Nat → Int32 → Int32 → Int32 → jH → Option jO) (f : Nat) (v0 : Nat) (v2 : Int32) (v3 : Int32) (v4 : Int32) (v5 : Int32) (u1 : Option Value) (u2 : Option Value) (u3 : Option Value) (u4 : Option Value) (u5 : Option Value) (u6 : Option Value) (h : jH) : m_W_countAll_37 F k21 (f + 1) v0 v2 v3 v4 v5 h = jst (j_C [(37, c_F_neighbour F), (79, c_Jm_min_II F), (110, c_Ja_fill F), (111, c_W_priceOf F)]) 4 (cd_W_countAll 37) [some (.ref v0), u1, some (.int v2), some (.int v3), some (.int v4), some (.int v5), u2, u3, u4, u5, u6] [] h (jrun (j_C [(37, c_F_neighbour F), (79, c_Jm_min_II F), (110, c_Ja_fill F), (111, c_W_priceOf F)]) 4 cd_W_countAll (j_T [(21, r_W_countAll_21 k21), (47, r_W_countAll_47 (m_W_countAll_47 F k21 (m_W_countAll_37 F k21 f) F.1))]) 98) := rfl
set_option maxRecDepth 100000 in
theorem e_W_countAll_21 (F : Nat × Nat) (f : Nat) (v0 : Nat) (v2 : Int32) (v3 : Int32) (v4 : Int32) (u1 : Option Value) (u2 : Option Value) (u3 : Option Value) (u4 : Option Value) (u5 : Option Value) (u6 : Option Value) (u7 : Option Value) (h : jH) : m_W_countAll_21 F (f + 1) v0 v2 v3 v4 h = jst (j_C [(37, c_F_neighbour F), (79, c_Jm_min_II F), (110, c_Ja_fill F), (111, c_W_priceOf F)]) 4 (cd_W_countAll 21) [some (.ref v0), u1, some (.int v2), some (.int v3), some (.int v4), u2, u3, u4, u5, u6, u7] [] h (jrun (j_C [(37, c_F_neighbour F), (79, c_Jm_min_II F), (110, c_Ja_fill F), (111, c_W_priceOf F)]) 4 cd_W_countAll (j_T [(37, r_W_countAll_37 (m_W_countAll_37 F (m_W_countAll_21 F f) F.1))]) 98) := rfl
set_option maxRecDepth 100000 in
theorem e_W_countAll (F : Nat × Nat) (o : Nat) (a1 : Int32) (a2 : Int32) (h : jH) : m_W_countAll F o a1 a2 h = jrun (j_C [(37, c_F_neighbour F), (79, c_Jm_min_II F), (110, c_Ja_fill F), (111, c_W_priceOf F)]) 4 cd_W_countAll (j_T [(21, r_W_countAll_21 (m_W_countAll_21 F F.1))]) 98 0 [some (.ref o), some (.int a1), some (.int a2), none, none, none, none, none, none, none, none] [] h := rfl
theorem hc_W_countAll (F : Nat × Nat) : jCok (1 + 0 * F.2) (j_C [(37, c_F_neighbour F), (79, c_Jm_min_II F), (110, c_Ja_fill F), (111, c_W_priceOf F)]) := jC_ok (List.forall_mem_cons.mpr ⟨(co_F_neighbour F).up (by omega), List.forall_mem_cons.mpr ⟨(co_Jm_min_II F).up (by omega), List.forall_mem_cons.mpr ⟨(co_Ja_fill F).up (by omega), List.forall_mem_cons.mpr ⟨(co_W_priceOf F).up (by omega), fun _ h => absurd h List.not_mem_nil⟩⟩⟩⟩)
theorem g_W_countAll_103 (F : Nat × Nat) (k21 : Nat → Int32 → Int32 → Int32 → jH → Option jO) (hk21 : jG M_W_countAll (1 + 0 * F.2) 21 (r_W_countAll_21 k21)) (k37 : Nat → Int32 → Int32 → Int32 → Int32 → jH → Option jO) (hk37 : jG M_W_countAll (1 + 0 * F.2) 37 (r_W_countAll_37 k37)) (k47 : Nat → Int32 → Int32 → Int32 → Int32 → Int32 → jH → Option jO) (hk47 : jG M_W_countAll (1 + 0 * F.2) 47 (r_W_countAll_47 k47)) : jG M_W_countAll (1 + 0 * F.2) 103 (r_W_countAll_103 (m_W_countAll_103 F k21 k37 k47)) := (jst_ok ok_W_countAll (hc_W_countAll F) (jrun_ok ok_W_countAll (hc_W_countAll F) (jT_ok (List.forall_mem_cons.mpr ⟨hk47, fun _ h => absurd h List.not_mem_nil⟩)) 98) 103).of (fun L S h out e => by unfold r_W_countAll_103 at e; split at e; exact (e_W_countAll_103 F k21 k37 k47 _ _ _ _ _ _ _ _ _ _ _ _ _).symm.trans e; cases e)
theorem g_W_countAll_47 (F : Nat × Nat) (k21 : Nat → Int32 → Int32 → Int32 → jH → Option jO) (hk21 : jG M_W_countAll (1 + 0 * F.2) 21 (r_W_countAll_21 k21)) (k37 : Nat → Int32 → Int32 → Int32 → Int32 → jH → Option jO) (hk37 : jG M_W_countAll (1 + 0 * F.2) 37 (r_W_countAll_37 k37)) : ∀ f, jG M_W_countAll (1 + 0 * F.2) 47 (r_W_countAll_47 (m_W_countAll_47 F k21 k37 f))
  | 0 => jG.no (fun L S h => by unfold r_W_countAll_47; split <;> rfl)
  | f + 1 => (jst_ok ok_W_countAll (hc_W_countAll F) (jrun_ok ok_W_countAll (hc_W_countAll F) (jT_ok (List.forall_mem_cons.mpr ⟨hk37, List.forall_mem_cons.mpr ⟨g_W_countAll_47 F k21 hk21 k37 hk37 f, List.forall_mem_cons.mpr ⟨g_W_countAll_103 F k21 hk21 k37 hk37 _ (g_W_countAll_47 F k21 hk21 k37 hk37 f), fun _ h => absurd h List.not_mem_nil⟩⟩⟩)) 98) 47).of (fun L S h out e => by unfold r_W_countAll_47 at e; split at e; exact (e_W_countAll_47 F k21 k37 f _ _ _ _ _ _ _ _ _ _ _ _).symm.trans e; cases e)
theorem g_W_countAll_37 (F : Nat × Nat) (k21 : Nat → Int32 → Int32 → Int32 → jH → Option jO) (hk21 : jG M_W_countAll (1 + 0 * F.2) 21 (r_W_countAll_21 k21)) : ∀ f, jG M_W_countAll (1 + 0 * F.2) 37 (r_W_countAll_37 (m_W_countAll_37 F k21 f))
  | 0 => jG.no (fun L S h => by unfold r_W_countAll_37; split <;> rfl)
  | f + 1 => (jst_ok ok_W_countAll (hc_W_countAll F) (jrun_ok ok_W_countAll (hc_W_countAll F) (jT_ok (List.forall_mem_cons.mpr ⟨hk21, List.forall_mem_cons.mpr ⟨g_W_countAll_47 F k21 hk21 _ (g_W_countAll_37 F k21 hk21 f) F.1, fun _ h => absurd h List.not_mem_nil⟩⟩)) 98) 37).of (fun L S h out e => by unfold r_W_countAll_37 at e; split at e; exact (e_W_countAll_37 F k21 f _ _ _ _ _ _ _ _ _ _ _ _).symm.trans e; cases e)
theorem g_W_countAll_21 (F : Nat × Nat) : ∀ f, jG M_W_countAll (1 + 0 * F.2) 21 (r_W_countAll_21 (m_W_countAll_21 F f))
  | 0 => jG.no (fun L S h => by unfold r_W_countAll_21; split <;> rfl)
  | f + 1 => (jst_ok ok_W_countAll (hc_W_countAll F) (jrun_ok ok_W_countAll (hc_W_countAll F) (jT_ok (List.forall_mem_cons.mpr ⟨g_W_countAll_37 F _ (g_W_countAll_21 F f) F.1, fun _ h => absurd h List.not_mem_nil⟩)) 98) 21).of (fun L S h out e => by unfold r_W_countAll_21 at e; split at e; exact (e_W_countAll_21 F f _ _ _ _ _ _ _ _ _ _ _ _).symm.trans e; cases e)
theorem k_W_countAll (F : Nat × Nat) (o : Nat) (a1 : Int32) (a2 : Int32) (h : jH) (r : Option Value) (h1 : jH) (e : m_W_countAll F o a1 a2 h = some (r, h1)) : jM1 (1 + 0 * F.2) 109 [.ref o, .int a1, .int a2] h r h1 := jM_of (M := M_W_countAll) mok_W_countAll (by decide +kernel) (by decide +kernel) (Or.inr (Or.inr (Or.inr (Or.inr ⟨rfl, rfl⟩)))) (fun q => nomatch q) (jrun_ok ok_W_countAll (hc_W_countAll F) (jT_ok (List.forall_mem_cons.mpr ⟨g_W_countAll_21 F F.1, fun _ h => absurd h List.not_mem_nil⟩)) 98 0) (List.all_eq_true.mp rfl) (Nat.le_of_ble_eq_true rfl) (fun E => Nat.le_of_ble_eq_true rfl) ((e_W_countAll F o a1 a2 h).symm.trans e)
theorem co_W_countAll (F : Nat × Nat) : jc_ok (1 + 0 * F.2 + 1) 109 (c_W_countAll F) := by
  intro as h k out e
  unfold c_W_countAll at e
  split at e
  · obtain ⟨a0, rfl, e1⟩ := js_rv e
    obtain ⟨hg, e2⟩ := js_if e1
    obtain ⟨h1, hm, e3⟩ := js_jbV e2
    exact ⟨_, _, _, Nat.le_refl _, k_W_countAll F _ _ _ _ _ _ hm, ⟨fun _ => ⟨_, _, rfl, Or.inl ⟨6, by decide, hg, by decide +kernel⟩⟩, fun q => absurd q (by decide +kernel)⟩, e3⟩
  · cases e
def c_W_countTo (F : Nat × Nat) : jc1 := fun args h k => match args with
  | [w0, .int a1] => j_rv w0 fun a0 => if j_k h a0 = 16 then (jbV (m_W_countTo F a0 a1 h) fun h => k none h) else none
  | _ => none
set_option maxRecDepth 100000 in
theorem e_W_countTo (F : Nat × Nat) (o : Nat) (a1 : Int32) (h : jH) : m_W_countTo F o a1 h = jrun (j_C [(109, c_W_countAll F)]) 4 cd_W_countTo (j_T []) 10 0 [some (.ref o), some (.int a1)] [] h := rfl
theorem hc_W_countTo (F : Nat × Nat) : jCok (2 + 0 * F.2) (j_C [(109, c_W_countAll F)]) := jC_ok (List.forall_mem_cons.mpr ⟨(co_W_countAll F).up (by omega), fun _ h => absurd h List.not_mem_nil⟩)
theorem k_W_countTo (F : Nat × Nat) (o : Nat) (a1 : Int32) (h : jH) (r : Option Value) (h1 : jH) (e : m_W_countTo F o a1 h = some (r, h1)) : jM1 (2 + 0 * F.2) 108 [.ref o, .int a1] h r h1 := jM_of (M := M_W_countTo) mok_W_countTo (by decide +kernel) (by decide +kernel) (Or.inr (Or.inr (Or.inr (Or.inr ⟨rfl, rfl⟩)))) (fun q => nomatch q) (jrun_ok ok_W_countTo (hc_W_countTo F) (jT_ok (fun _ h => absurd h List.not_mem_nil)) 10 0) (List.all_eq_true.mp rfl) (Nat.le_of_ble_eq_true rfl) (fun E => Nat.le_of_ble_eq_true rfl) ((e_W_countTo F o a1 h).symm.trans e)
theorem co_W_countTo (F : Nat × Nat) : jc_ok (2 + 0 * F.2 + 1) 108 (c_W_countTo F) := by
  intro as h k out e
  unfold c_W_countTo at e
  split at e
  · obtain ⟨a0, rfl, e1⟩ := js_rv e
    obtain ⟨hg, e2⟩ := js_if e1
    obtain ⟨h1, hm, e3⟩ := js_jbV e2
    exact ⟨_, _, _, Nat.le_refl _, k_W_countTo F _ _ _ _ _ hm, ⟨fun _ => ⟨_, _, rfl, Or.inl ⟨6, by decide, hg, by decide +kernel⟩⟩, fun q => absurd q (by decide +kernel)⟩, e3⟩
  · cases e
def r_W_nextOfWay_10 (g : Nat → Int32 → Nat → Int32 → Int32 → jH → Option jO) : jL → List Value → jH → Option jO := fun L S h => match L, S with
  | [some (.ref v0), some (.int v1), some (.ref v2), some (.int v3), some (.int v4), _, _, _], [] => g v0 v1 v2 v3 v4 h
  | _, _ => none
def c_W_nextOfWay (F : Nat × Nat) : jc1 := fun args h k => match args with
  | [w0, .int a1] => j_rv w0 fun a0 => if j_k h a0 = 16 then (jbI (m_W_nextOfWay F a0 a1 h) fun r h => k (some (.int r)) h) else none
  | _ => none
set_option maxRecDepth 100000 in
theorem e_W_nextOfWay_10 (F : Nat × Nat) (f : Nat) (v0 : Nat) (v1 : Int32) (v2 : Nat) (v3 : Int32) (v4 : Int32) (u1 : Option Value) (u2 : Option Value) (u3 : Option Value) (h : jH) : m_W_nextOfWay_10 F (f + 1) v0 v1 v2 v3 v4 h = jst (j_C [(37, c_F_neighbour F), (111, c_W_priceOf F)]) 0 (cd_W_nextOfWay 10) [some (.ref v0), some (.int v1), some (.ref v2), some (.int v3), some (.int v4), u1, u2, u3] [] h (jrun (j_C [(37, c_F_neighbour F), (111, c_W_priceOf F)]) 0 cd_W_nextOfWay (j_T [(10, r_W_nextOfWay_10 (m_W_nextOfWay_10 F f))]) 50) := rfl
set_option maxRecDepth 100000 in
theorem e_W_nextOfWay (F : Nat × Nat) (o : Nat) (a1 : Int32) (h : jH) : m_W_nextOfWay F o a1 h = jrun (j_C [(37, c_F_neighbour F), (111, c_W_priceOf F)]) 0 cd_W_nextOfWay (j_T [(10, r_W_nextOfWay_10 (m_W_nextOfWay_10 F F.1))]) 50 0 [some (.ref o), some (.int a1), none, none, none, none, none, none] [] h := rfl
theorem hc_W_nextOfWay (F : Nat × Nat) : jCok (1 + 0 * F.2) (j_C [(37, c_F_neighbour F), (111, c_W_priceOf F)]) := jC_ok (List.forall_mem_cons.mpr ⟨(co_F_neighbour F).up (by omega), List.forall_mem_cons.mpr ⟨(co_W_priceOf F).up (by omega), fun _ h => absurd h List.not_mem_nil⟩⟩)
theorem g_W_nextOfWay_10 (F : Nat × Nat) : ∀ f, jG M_W_nextOfWay (1 + 0 * F.2) 10 (r_W_nextOfWay_10 (m_W_nextOfWay_10 F f))
  | 0 => jG.no (fun L S h => by unfold r_W_nextOfWay_10; split <;> rfl)
  | f + 1 => (jst_ok ok_W_nextOfWay (hc_W_nextOfWay F) (jrun_ok ok_W_nextOfWay (hc_W_nextOfWay F) (jT_ok (List.forall_mem_cons.mpr ⟨g_W_nextOfWay_10 F f, fun _ h => absurd h List.not_mem_nil⟩)) 50) 10).of (fun L S h out e => by unfold r_W_nextOfWay_10 at e; split at e; exact (e_W_nextOfWay_10 F f _ _ _ _ _ _ _ _ _).symm.trans e; cases e)
theorem k_W_nextOfWay (F : Nat × Nat) (o : Nat) (a1 : Int32) (h : jH) (r : Option Value) (h1 : jH) (e : m_W_nextOfWay F o a1 h = some (r, h1)) : jM1 (1 + 0 * F.2) 113 [.ref o, .int a1] h r h1 := jM_of (M := M_W_nextOfWay) mok_W_nextOfWay (by decide +kernel) (by decide +kernel) (Or.inl ⟨rfl, rfl⟩) (fun q => nomatch q) (jrun_ok ok_W_nextOfWay (hc_W_nextOfWay F) (jT_ok (List.forall_mem_cons.mpr ⟨g_W_nextOfWay_10 F F.1, fun _ h => absurd h List.not_mem_nil⟩)) 50 0) (List.all_eq_true.mp rfl) (Nat.le_of_ble_eq_true rfl) (fun E => Nat.le_of_ble_eq_true rfl) ((e_W_nextOfWay F o a1 h).symm.trans e)
theorem co_W_nextOfWay (F : Nat × Nat) : jc_ok (1 + 0 * F.2 + 1) 113 (c_W_nextOfWay F) := by
  intro as h k out e
  unfold c_W_nextOfWay at e
  split at e
  · obtain ⟨a0, rfl, e1⟩ := js_rv e
    obtain ⟨hg, e2⟩ := js_if e1
    obtain ⟨r, h1, hm, e3⟩ := js_jbI e2
    exact ⟨_, _, _, Nat.le_refl _, k_W_nextOfWay F _ _ _ _ _ hm, ⟨fun _ => ⟨_, _, rfl, Or.inl ⟨6, by decide, hg, by decide +kernel⟩⟩, fun q => absurd q (by decide +kernel)⟩, e3⟩
  · cases e
def r_W_wayTold_30 (g : Nat → Int32 → Int32 → Int32 → jH → Option jO) : jL → List Value → jH → Option jO := fun L S h => match L, S with
  | [some (.ref v0), _, some (.int v2), some (.int v3), some (.int v4)], [] => g v0 v2 v3 v4 h
  | _, _ => none
def c_W_wayTold (F : Nat × Nat) : jc1 := fun args h k => match args with
  | [w0, .int a1, .int a2] => j_rv w0 fun a0 => if j_k h a0 = 16 then (jbI (m_W_wayTold F a0 a1 a2 h) fun r h => k (some (.int r)) h) else none
  | _ => none
set_option maxRecDepth 100000 in
theorem e_W_wayTold_30 (F : Nat × Nat) (f : Nat) (v0 : Nat) (v2 : Int32) (v3 : Int32) (v4 : Int32) (u1 : Option Value) (h : jH) : m_W_wayTold_30 F (f + 1) v0 v2 v3 v4 h = jst (j_C [(113, c_W_nextOfWay F)]) 0 (cd_W_wayTold 30) [some (.ref v0), u1, some (.int v2), some (.int v3), some (.int v4)] [] h (jrun (j_C [(113, c_W_nextOfWay F)]) 0 cd_W_wayTold (j_T [(30, r_W_wayTold_30 (m_W_wayTold_30 F f))]) 49) := rfl
set_option maxRecDepth 100000 in
theorem e_W_wayTold (F : Nat × Nat) (o : Nat) (a1 : Int32) (a2 : Int32) (h : jH) : m_W_wayTold F o a1 a2 h = jrun (j_C [(113, c_W_nextOfWay F)]) 0 cd_W_wayTold (j_T [(30, r_W_wayTold_30 (m_W_wayTold_30 F F.1))]) 49 0 [some (.ref o), some (.int a1), some (.int a2), none, none] [] h := rfl
theorem hc_W_wayTold (F : Nat × Nat) : jCok (2 + 0 * F.2) (j_C [(113, c_W_nextOfWay F)]) := jC_ok (List.forall_mem_cons.mpr ⟨(co_W_nextOfWay F).up (by omega), fun _ h => absurd h List.not_mem_nil⟩)
theorem g_W_wayTold_30 (F : Nat × Nat) : ∀ f, jG M_W_wayTold (2 + 0 * F.2) 30 (r_W_wayTold_30 (m_W_wayTold_30 F f))
  | 0 => jG.no (fun L S h => by unfold r_W_wayTold_30; split <;> rfl)
  | f + 1 => (jst_ok ok_W_wayTold (hc_W_wayTold F) (jrun_ok ok_W_wayTold (hc_W_wayTold F) (jT_ok (List.forall_mem_cons.mpr ⟨g_W_wayTold_30 F f, fun _ h => absurd h List.not_mem_nil⟩)) 49) 30).of (fun L S h out e => by unfold r_W_wayTold_30 at e; split at e; exact (e_W_wayTold_30 F f _ _ _ _ _ _).symm.trans e; cases e)
theorem k_W_wayTold (F : Nat × Nat) (o : Nat) (a1 : Int32) (a2 : Int32) (h : jH) (r : Option Value) (h1 : jH) (e : m_W_wayTold F o a1 a2 h = some (r, h1)) : jM1 (2 + 0 * F.2) 112 [.ref o, .int a1, .int a2] h r h1 := jM_of (M := M_W_wayTold) mok_W_wayTold (by decide +kernel) (by decide +kernel) (Or.inl ⟨rfl, rfl⟩) (fun q => nomatch q) (jrun_ok ok_W_wayTold (hc_W_wayTold F) (jT_ok (List.forall_mem_cons.mpr ⟨g_W_wayTold_30 F F.1, fun _ h => absurd h List.not_mem_nil⟩)) 49 0) (List.all_eq_true.mp rfl) (Nat.le_of_ble_eq_true rfl) (fun E => Nat.le_of_ble_eq_true rfl) ((e_W_wayTold F o a1 a2 h).symm.trans e)
theorem co_W_wayTold (F : Nat × Nat) : jc_ok (2 + 0 * F.2 + 1) 112 (c_W_wayTold F) := by
  intro as h k out e
  unfold c_W_wayTold at e
  split at e
  · obtain ⟨a0, rfl, e1⟩ := js_rv e
    obtain ⟨hg, e2⟩ := js_if e1
    obtain ⟨r, h1, hm, e3⟩ := js_jbI e2
    exact ⟨_, _, _, Nat.le_refl _, k_W_wayTold F _ _ _ _ _ _ hm, ⟨fun _ => ⟨_, _, rfl, Or.inl ⟨6, by decide, hg, by decide +kernel⟩⟩, fun q => absurd q (by decide +kernel)⟩, e3⟩
  · cases e
def c_F_way (F : Nat × Nat) : jc1 := fun args h k => match args with
  | [w0, .int a1, .int a2, .int a3] => j_rv w0 fun a0 => if j_k h a0 = 10 then (jbI (m_F_way F a0 a1 a2 a3 h) fun r h => k (some (.int r)) h) else none
  | _ => none
set_option maxRecDepth 100000 in
theorem e_F_way (F : Nat × Nat) (o : Nat) (a1 : Int32) (a2 : Int32) (a3 : Int32) (h : jH) : m_F_way F o a1 a2 a3 h = jrun (j_C [(9, c_F_isCell F), (19, c_L_hasWalker F), (21, c_L_lawInForce F), (107, c_W_priceSteps F), (108, c_W_countTo F), (112, c_W_wayTold F)]) 0 cd_F_way (j_T []) 41 0 [some (.ref o), some (.int a1), some (.int a2), some (.int a3)] [] h := rfl
theorem hc_F_way (F : Nat × Nat) : jCok (5 + 0 * F.2) (j_C [(9, c_F_isCell F), (19, c_L_hasWalker F), (21, c_L_lawInForce F), (107, c_W_priceSteps F), (108, c_W_countTo F), (112, c_W_wayTold F)]) := jC_ok (List.forall_mem_cons.mpr ⟨(co_F_isCell F).up (by omega), List.forall_mem_cons.mpr ⟨(co_L_hasWalker F).up (by omega), List.forall_mem_cons.mpr ⟨(co_L_lawInForce F).up (by omega), List.forall_mem_cons.mpr ⟨(co_W_priceSteps F).up (by omega), List.forall_mem_cons.mpr ⟨(co_W_countTo F).up (by omega), List.forall_mem_cons.mpr ⟨(co_W_wayTold F).up (by omega), fun _ h => absurd h List.not_mem_nil⟩⟩⟩⟩⟩⟩)
theorem k_F_way (F : Nat × Nat) (o : Nat) (a1 : Int32) (a2 : Int32) (a3 : Int32) (h : jH) (r : Option Value) (h1 : jH) (e : m_F_way F o a1 a2 a3 h = some (r, h1)) : jM1 (5 + 0 * F.2) 106 [.ref o, .int a1, .int a2, .int a3] h r h1 := jM_of (M := M_F_way) mok_F_way (by decide +kernel) (by decide +kernel) (Or.inl ⟨rfl, rfl⟩) (fun q => nomatch q) (jrun_ok ok_F_way (hc_F_way F) (jT_ok (fun _ h => absurd h List.not_mem_nil)) 41 0) (List.all_eq_true.mp rfl) (Nat.le_of_ble_eq_true rfl) (fun E => Nat.le_of_ble_eq_true rfl) ((e_F_way F o a1 a2 a3 h).symm.trans e)
theorem co_F_way (F : Nat × Nat) : jc_ok (5 + 0 * F.2 + 1) 106 (c_F_way F) := by
  intro as h k out e
  unfold c_F_way at e
  split at e
  · obtain ⟨a0, rfl, e1⟩ := js_rv e
    obtain ⟨hg, e2⟩ := js_if e1
    obtain ⟨r, h1, hm, e3⟩ := js_jbI e2
    exact ⟨_, _, _, Nat.le_refl _, k_F_way F _ _ _ _ _ _ _ hm, ⟨fun _ => ⟨_, _, rfl, Or.inl ⟨0, by decide, hg, by decide +kernel⟩⟩, fun q => absurd q (by decide +kernel)⟩, e3⟩
  · cases e
def c_F_sure (F : Nat × Nat) : jc1 := fun args h k => match args with
  | [w0, .int a1, .int a2, .int a3] => j_rv w0 fun a0 => if j_k h a0 = 10 then (jbI (m_F_sure F a0 a1 a2 a3 h) fun r h => k (some (.int r)) h) else none
  | _ => none
set_option maxRecDepth 100000 in
theorem e_F_sure (F : Nat × Nat) (o : Nat) (a1 : Int32) (a2 : Int32) (a3 : Int32) (h : jH) : m_F_sure F o a1 a2 a3 h = jrun (j_C [(9, c_F_isCell F), (19, c_L_hasWalker F), (21, c_L_lawInForce F), (107, c_W_priceSteps F), (108, c_W_countTo F), (112, c_W_wayTold F)]) 0 cd_F_sure (j_T []) 45 0 [some (.ref o), some (.int a1), some (.int a2), some (.int a3)] [] h := rfl
theorem hc_F_sure (F : Nat × Nat) : jCok (5 + 0 * F.2) (j_C [(9, c_F_isCell F), (19, c_L_hasWalker F), (21, c_L_lawInForce F), (107, c_W_priceSteps F), (108, c_W_countTo F), (112, c_W_wayTold F)]) := jC_ok (List.forall_mem_cons.mpr ⟨(co_F_isCell F).up (by omega), List.forall_mem_cons.mpr ⟨(co_L_hasWalker F).up (by omega), List.forall_mem_cons.mpr ⟨(co_L_lawInForce F).up (by omega), List.forall_mem_cons.mpr ⟨(co_W_priceSteps F).up (by omega), List.forall_mem_cons.mpr ⟨(co_W_countTo F).up (by omega), List.forall_mem_cons.mpr ⟨(co_W_wayTold F).up (by omega), fun _ h => absurd h List.not_mem_nil⟩⟩⟩⟩⟩⟩)
theorem k_F_sure (F : Nat × Nat) (o : Nat) (a1 : Int32) (a2 : Int32) (a3 : Int32) (h : jH) (r : Option Value) (h1 : jH) (e : m_F_sure F o a1 a2 a3 h = some (r, h1)) : jM1 (5 + 0 * F.2) 114 [.ref o, .int a1, .int a2, .int a3] h r h1 := jM_of (M := M_F_sure) mok_F_sure (by decide +kernel) (by decide +kernel) (Or.inl ⟨rfl, rfl⟩) (fun q => nomatch q) (jrun_ok ok_F_sure (hc_F_sure F) (jT_ok (fun _ h => absurd h List.not_mem_nil)) 45 0) (List.all_eq_true.mp rfl) (Nat.le_of_ble_eq_true rfl) (fun E => Nat.le_of_ble_eq_true rfl) ((e_F_sure F o a1 a2 a3 h).symm.trans e)
theorem co_F_sure (F : Nat × Nat) : jc_ok (5 + 0 * F.2 + 1) 114 (c_F_sure F) := by
  intro as h k out e
  unfold c_F_sure at e
  split at e
  · obtain ⟨a0, rfl, e1⟩ := js_rv e
    obtain ⟨hg, e2⟩ := js_if e1
    obtain ⟨r, h1, hm, e3⟩ := js_jbI e2
    exact ⟨_, _, _, Nat.le_refl _, k_F_sure F _ _ _ _ _ _ _ hm, ⟨fun _ => ⟨_, _, rfl, Or.inl ⟨0, by decide, hg, by decide +kernel⟩⟩, fun q => absurd q (by decide +kernel)⟩, e3⟩
  · cases e
def r_W_pickedOut_7 (g : Int32 → Int32 → Int32 → Int32 → Int32 → jH → Option jO) : jL → List Value → jH → Option jO := fun L S h => match L, S with
  | [some (.int v0), some (.int v1), some (.int v2), some (.int v3), some (.int v4)], [] => g v0 v1 v2 v3 v4 h
  | _, _ => none
def c_W_pickedOut (F : Nat × Nat) : jc1 := fun args h k => match args with
  | [.int a0, .int a1] => jbI (m_W_pickedOut F a0 a1 h) fun r h => k (some (.int r)) h
  | _ => none
set_option maxRecDepth 100000 in
theorem e_W_pickedOut_7 (F : Nat × Nat) (f : Nat) (v0 : Int32) (v1 : Int32) (v2 : Int32) (v3 : Int32) (v4 : Int32) (h : jH) : m_W_pickedOut_7 F (f + 1) v0 v1 v2 v3 v4 h = jst (j_C []) 0 (cd_W_pickedOut 7) [some (.int v0), some (.int v1), some (.int v2), some (.int v3), some (.int v4)] [] h (jrun (j_C []) 0 cd_W_pickedOut (j_T [(7, r_W_pickedOut_7 (m_W_pickedOut_7 F f))]) 36) := rfl
set_option maxRecDepth 100000 in
theorem e_W_pickedOut (F : Nat × Nat) (a0 : Int32) (a1 : Int32) (h : jH) : m_W_pickedOut F a0 a1 h = jrun (j_C []) 0 cd_W_pickedOut (j_T [(7, r_W_pickedOut_7 (m_W_pickedOut_7 F F.1))]) 36 0 [some (.int a0), some (.int a1), none, none, none] [] h := rfl
theorem hc_W_pickedOut (F : Nat × Nat) : jCok (0 + 0 * F.2) (j_C []) := jC_ok (fun _ h => absurd h List.not_mem_nil)
theorem g_W_pickedOut_7 (F : Nat × Nat) : ∀ f, jG M_W_pickedOut (0 + 0 * F.2) 7 (r_W_pickedOut_7 (m_W_pickedOut_7 F f))
  | 0 => jG.no (fun L S h => by unfold r_W_pickedOut_7; split <;> rfl)
  | f + 1 => (jst_ok ok_W_pickedOut (hc_W_pickedOut F) (jrun_ok ok_W_pickedOut (hc_W_pickedOut F) (jT_ok (List.forall_mem_cons.mpr ⟨g_W_pickedOut_7 F f, fun _ h => absurd h List.not_mem_nil⟩)) 36) 7).of (fun L S h out e => by unfold r_W_pickedOut_7 at e; split at e; exact (e_W_pickedOut_7 F f _ _ _ _ _ _).symm.trans e; cases e)
theorem k_W_pickedOut (F : Nat × Nat) (a0 : Int32) (a1 : Int32) (h : jH) (r : Option Value) (h1 : jH) (e : m_W_pickedOut F a0 a1 h = some (r, h1)) : jM1 (0 + 0 * F.2) 117 [.int a0, .int a1] h r h1 := jM_of (M := M_W_pickedOut) mok_W_pickedOut (by decide +kernel) (by decide +kernel) (Or.inl ⟨rfl, rfl⟩) (fun q => nomatch q) (jrun_ok ok_W_pickedOut (hc_W_pickedOut F) (jT_ok (List.forall_mem_cons.mpr ⟨g_W_pickedOut_7 F F.1, fun _ h => absurd h List.not_mem_nil⟩)) 36 0) (List.all_eq_true.mp rfl) (Nat.le_of_ble_eq_true rfl) (fun E => Nat.le_of_ble_eq_true rfl) ((e_W_pickedOut F a0 a1 h).symm.trans e)
theorem co_W_pickedOut (F : Nat × Nat) : jc_ok (0 + 0 * F.2 + 1) 117 (c_W_pickedOut F) := by
  intro as h k out e
  unfold c_W_pickedOut at e
  split at e
  · obtain ⟨r, h1, hm, e1⟩ := js_jbI e
    exact ⟨_, _, _, Nat.le_refl _, k_W_pickedOut F _ _ _ _ _ hm, ⟨fun q => absurd q (by decide +kernel), fun q => absurd q (by decide +kernel)⟩, e1⟩
  · cases e
def r_W_seeWanted_22 (g : Nat → Nat → Nat → Value → Int32 → Int32 → Int32 → jH → Option jO) : jL → List Value → jH → Option jO := fun L S h => match L, S with
  | [some (.ref v0), some (.ref v1), some (.ref v2), some v3, some (.int v4), some (.int v5), some (.int v6), _], [] => g v0 v1 v2 v3 v4 v5 v6 h
  | _, _ => none
def c_W_seeWanted (F : Nat × Nat) : jc1 := fun args h k => match args with
  | [w0, w1, w2, w3, .int a4] => j_rv w0 fun a0 => j_rv w1 fun a1 => j_rv w2 fun a2 => cond (j_isr w3) (if j_k h a0 = 16 then (jbI (m_W_seeWanted F a0 a1 a2 w3 a4 h) fun r h => k (some (.int r)) h) else none) none
  | _ => none
set_option maxRecDepth 100000 in
theorem e_W_seeWanted_22 (F : Nat × Nat) (f : Nat) (v0 : Nat) (v1 : Nat) (v2 : Nat) (v3 : Value) (v4 : Int32) (v5 : Int32) (v6 : Int32) (u1 : Option Value) (h : jH) : m_W_seeWanted_22 F (f + 1) v0 v1 v2 v3 v4 v5 v6 h = jst (j_C [(24, c_U_sight F), (88, c_F_cellsInSight F), (117, c_W_pickedOut F)]) 0 (cd_W_seeWanted 22) [some (.ref v0), some (.ref v1), some (.ref v2), some v3, some (.int v4), some (.int v5), some (.int v6), u1] [] h (jrun (j_C [(24, c_U_sight F), (88, c_F_cellsInSight F), (117, c_W_pickedOut F)]) 0 cd_W_seeWanted (j_T [(22, r_W_seeWanted_22 (m_W_seeWanted_22 F f))]) 44) := rfl
set_option maxRecDepth 100000 in
theorem e_W_seeWanted (F : Nat × Nat) (o : Nat) (a1 : Nat) (a2 : Nat) (a3 : Value) (a4 : Int32) (h : jH) : m_W_seeWanted F o a1 a2 a3 a4 h = jrun (j_C [(24, c_U_sight F), (88, c_F_cellsInSight F), (117, c_W_pickedOut F)]) 0 cd_W_seeWanted (j_T [(22, r_W_seeWanted_22 (m_W_seeWanted_22 F F.1))]) 44 0 [some (.ref o), some (.ref a1), some (.ref a2), some a3, some (.int a4), none, none, none] [] h := rfl
theorem hc_W_seeWanted (F : Nat × Nat) : jCok (4 + 0 * F.2) (j_C [(24, c_U_sight F), (88, c_F_cellsInSight F), (117, c_W_pickedOut F)]) := jC_ok (List.forall_mem_cons.mpr ⟨(co_U_sight F).up (by omega), List.forall_mem_cons.mpr ⟨(co_F_cellsInSight F).up (by omega), List.forall_mem_cons.mpr ⟨(co_W_pickedOut F).up (by omega), fun _ h => absurd h List.not_mem_nil⟩⟩⟩)
theorem g_W_seeWanted_22 (F : Nat × Nat) : ∀ f, jG M_W_seeWanted (4 + 0 * F.2) 22 (r_W_seeWanted_22 (m_W_seeWanted_22 F f))
  | 0 => jG.no (fun L S h => by unfold r_W_seeWanted_22; split <;> rfl)
  | f + 1 => (jst_ok ok_W_seeWanted (hc_W_seeWanted F) (jrun_ok ok_W_seeWanted (hc_W_seeWanted F) (jT_ok (List.forall_mem_cons.mpr ⟨g_W_seeWanted_22 F f, fun _ h => absurd h List.not_mem_nil⟩)) 44) 22).of (fun L S h out e => by unfold r_W_seeWanted_22 at e; split at e; exact (e_W_seeWanted_22 F f _ _ _ _ _ _ _ _ _).symm.trans e; cases e)
theorem k_W_seeWanted (F : Nat × Nat) (o : Nat) (a1 : Nat) (a2 : Nat) (a3 : Value) (a4 : Int32) (hv_a3 : j_isr a3 = true) (h : jH) (r : Option Value) (h1 : jH) (e : m_W_seeWanted F o a1 a2 a3 a4 h = some (r, h1)) : jM1 (4 + 0 * F.2) 116 [.ref o, .ref a1, .ref a2, a3, .int a4] h r h1 := by
  cases a3 with
  | null => exact jM_of (M := M_W_seeWanted) mok_W_seeWanted (by decide +kernel) (by decide +kernel) (Or.inl ⟨rfl, rfl⟩) (fun q => nomatch q) (jrun_ok ok_W_seeWanted (hc_W_seeWanted F) (jT_ok (List.forall_mem_cons.mpr ⟨g_W_seeWanted_22 F F.1, fun _ h => absurd h List.not_mem_nil⟩)) 44 0) (List.all_eq_true.mp rfl) (Nat.le_of_ble_eq_true rfl) (fun E => Nat.le_of_ble_eq_true rfl) ((e_W_seeWanted F o a1 a2 _ a4 h).symm.trans e)
  | ref _ => exact jM_of (M := M_W_seeWanted) mok_W_seeWanted (by decide +kernel) (by decide +kernel) (Or.inl ⟨rfl, rfl⟩) (fun q => nomatch q) (jrun_ok ok_W_seeWanted (hc_W_seeWanted F) (jT_ok (List.forall_mem_cons.mpr ⟨g_W_seeWanted_22 F F.1, fun _ h => absurd h List.not_mem_nil⟩)) 44 0) (List.all_eq_true.mp rfl) (Nat.le_of_ble_eq_true rfl) (fun E => Nat.le_of_ble_eq_true rfl) ((e_W_seeWanted F o a1 a2 _ a4 h).symm.trans e)
  | _ => cases hv_a3
theorem co_W_seeWanted (F : Nat × Nat) : jc_ok (4 + 0 * F.2 + 1) 116 (c_W_seeWanted F) := by
  intro as h k out e
  unfold c_W_seeWanted at e
  split at e
  · obtain ⟨a0, rfl, e1⟩ := js_rv e
    obtain ⟨a1, rfl, e2⟩ := js_rv e1
    obtain ⟨a2, rfl, e3⟩ := js_rv e2
    obtain ⟨hv3, e4⟩ := js_cond e3
    obtain ⟨hg, e5⟩ := js_if e4
    obtain ⟨r, h1, hm, e6⟩ := js_jbI e5
    exact ⟨_, _, _, Nat.le_refl _, k_W_seeWanted F _ _ _ _ _ hv3 _ _ _ hm, ⟨fun _ => ⟨_, _, rfl, Or.inl ⟨6, by decide, hg, by decide +kernel⟩⟩, fun q => absurd q (by decide +kernel)⟩, e6⟩
  · cases e
