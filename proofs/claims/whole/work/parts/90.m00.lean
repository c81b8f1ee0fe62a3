def c_L_new (F : Nat × Nat) : jc1 := fun args h k => match args with
  | [w0] => j_rv w0 fun a0 => jbV (m_L_new F a0 h) fun h => k none h
  | _ => none
set_option maxRecDepth 100000 in
theorem e_L_new (F : Nat × Nat) (o : Nat) (h : jH) : m_L_new F o h = jrun (j_C []) 4 cd_L_new (j_T []) 69 0 [some (.ref o)] [] h := rfl
theorem hc_L_new (F : Nat × Nat) : jCok (0 + 0 * F.2) (j_C []) := jC_ok (fun _ h => absurd h List.not_mem_nil)
theorem k_L_new (F : Nat × Nat) (o : Nat) (h : jH) (r : Option Value) (h1 : jH) (e : m_L_new F o h = some (r, h1)) : jM1 (0 + 0 * F.2) 1 [.ref o] h r h1 := jM_of (M := M_L_new) mok_L_new (by decide +kernel) (by decide +kernel) (Or.inr (Or.inr (Or.inr (Or.inr ⟨rfl, rfl⟩)))) (fun _ => by decide +kernel) (jrun_ok ok_L_new (hc_L_new F) (jT_ok (fun _ h => absurd h List.not_mem_nil)) 69 0) (List.all_eq_true.mp rfl) (Nat.le_of_ble_eq_true rfl) (fun E => Nat.le_of_ble_eq_true rfl) ((e_L_new F o h).symm.trans e)
theorem co_L_new (F : Nat × Nat) : jc_ok (0 + 0 * F.2 + 1) 1 (c_L_new F) := by
  intro as h k out e
  unfold c_L_new at e
  split at e
  · obtain ⟨a0, rfl, e1⟩ := js_rv e
    obtain ⟨h1, hm, e2⟩ := js_jbV e1
    exact ⟨_, _, _, Nat.le_refl _, k_L_new F _ _ _ _ hm, ⟨fun q => absurd q (by decide +kernel), fun _ => ⟨_, _, rfl⟩⟩, e2⟩
  · cases e
def c_D_new (F : Nat × Nat) : jc1 := fun args h k => match args with
  | [w0] => j_rv w0 fun a0 => jbV (m_D_new F a0 h) fun h => k none h
  | _ => none
set_option maxRecDepth 100000 in
theorem e_D_new (F : Nat × Nat) (o : Nat) (h : jH) : m_D_new F o h = jrun (j_C []) 4 cd_D_new (j_T []) 46 0 [some (.ref o)] [] h := rfl
theorem hc_D_new (F : Nat × Nat) : jCok (0 + 0 * F.2) (j_C []) := jC_ok (fun _ h => absurd h List.not_mem_nil)
theorem k_D_new (F : Nat × Nat) (o : Nat) (h : jH) (r : Option Value) (h1 : jH) (e : m_D_new F o h = some (r, h1)) : jM1 (0 + 0 * F.2) 2 [.ref o] h r h1 := jM_of (M := M_D_new) mok_D_new (by decide +kernel) (by decide +kernel) (Or.inr (Or.inr (Or.inr (Or.inr ⟨rfl, rfl⟩)))) (fun _ => by decide +kernel) (jrun_ok ok_D_new (hc_D_new F) (jT_ok (fun _ h => absurd h List.not_mem_nil)) 46 0) (List.all_eq_true.mp rfl) (Nat.le_of_ble_eq_true rfl) (fun E => Nat.le_of_ble_eq_true rfl) ((e_D_new F o h).symm.trans e)
theorem co_D_new (F : Nat × Nat) : jc_ok (0 + 0 * F.2 + 1) 2 (c_D_new F) := by
  intro as h k out e
  unfold c_D_new at e
  split at e
  · obtain ⟨a0, rfl, e1⟩ := js_rv e
    obtain ⟨h1, hm, e2⟩ := js_jbV e1
    exact ⟨_, _, _, Nat.le_refl _, k_D_new F _ _ _ _ hm, ⟨fun q => absurd q (by decide +kernel), fun _ => ⟨_, _, rfl⟩⟩, e2⟩
  · cases e
def c_T_new (F : Nat × Nat) : jc1 := fun args h k => match args with
  | [w0] => j_rv w0 fun a0 => jbV (m_T_new F a0 h) fun h => k none h
  | _ => none
set_option maxRecDepth 100000 in
theorem e_T_new (F : Nat × Nat) (o : Nat) (h : jH) : m_T_new F o h = jrun (j_C []) 4 cd_T_new (j_T []) 38 0 [some (.ref o)] [] h := rfl
theorem hc_T_new (F : Nat × Nat) : jCok (0 + 0 * F.2) (j_C []) := jC_ok (fun _ h => absurd h List.not_mem_nil)
theorem k_T_new (F : Nat × Nat) (o : Nat) (h : jH) (r : Option Value) (h1 : jH) (e : m_T_new F o h = some (r, h1)) : jM1 (0 + 0 * F.2) 4 [.ref o] h r h1 := jM_of (M := M_T_new) mok_T_new (by decide +kernel) (by decide +kernel) (Or.inr (Or.inr (Or.inr (Or.inr ⟨rfl, rfl⟩)))) (fun _ => by decide +kernel) (jrun_ok ok_T_new (hc_T_new F) (jT_ok (fun _ h => absurd h List.not_mem_nil)) 38 0) (List.all_eq_true.mp rfl) (Nat.le_of_ble_eq_true rfl) (fun E => Nat.le_of_ble_eq_true rfl) ((e_T_new F o h).symm.trans e)
theorem co_T_new (F : Nat × Nat) : jc_ok (0 + 0 * F.2 + 1) 4 (c_T_new F) := by
  intro as h k out e
  unfold c_T_new at e
  split at e
  · obtain ⟨a0, rfl, e1⟩ := js_rv e
    obtain ⟨h1, hm, e2⟩ := js_jbV e1
    exact ⟨_, _, _, Nat.le_refl _, k_T_new F _ _ _ _ hm, ⟨fun q => absurd q (by decide +kernel), fun _ => ⟨_, _, rfl⟩⟩, e2⟩
  · cases e
def c_P_new (F : Nat × Nat) : jc1 := fun args h k => match args with
  | [w0] => j_rv w0 fun a0 => jbV (m_P_new F a0 h) fun h => k none h
  | _ => none
set_option maxRecDepth 100000 in
theorem e_P_new (F : Nat × Nat) (o : Nat) (h : jH) : m_P_new F o h = jrun (j_C [(4, c_T_new F)]) 4 cd_P_new (j_T []) 50 0 [some (.ref o)] [] h := rfl
theorem hc_P_new (F : Nat × Nat) : jCok (1 + 0 * F.2) (j_C [(4, c_T_new F)]) := jC_ok (List.forall_mem_cons.mpr ⟨(co_T_new F).up (by omega), fun _ h => absurd h List.not_mem_nil⟩)
theorem k_P_new (F : Nat × Nat) (o : Nat) (h : jH) (r : Option Value) (h1 : jH) (e : m_P_new F o h = some (r, h1)) : jM1 (1 + 0 * F.2) 3 [.ref o] h r h1 := jM_of (M := M_P_new) mok_P_new (by decide +kernel) (by decide +kernel) (Or.inr (Or.inr (Or.inr (Or.inr ⟨rfl, rfl⟩)))) (fun _ => by decide +kernel) (jrun_ok ok_P_new (hc_P_new F) (jT_ok (fun _ h => absurd h List.not_mem_nil)) 50 0) (List.all_eq_true.mp rfl) (Nat.le_of_ble_eq_true rfl) (fun E => Nat.le_of_ble_eq_true rfl) ((e_P_new F o h).symm.trans e)
theorem co_P_new (F : Nat × Nat) : jc_ok (1 + 0 * F.2 + 1) 3 (c_P_new F) := by
  intro as h k out e
  unfold c_P_new at e
  split at e
  · obtain ⟨a0, rfl, e1⟩ := js_rv e
    obtain ⟨h1, hm, e2⟩ := js_jbV e1
    exact ⟨_, _, _, Nat.le_refl _, k_P_new F _ _ _ _ hm, ⟨fun q => absurd q (by decide +kernel), fun _ => ⟨_, _, rfl⟩⟩, e2⟩
  · cases e
def c_U_new (F : Nat × Nat) : jc1 := fun args h k => match args with
  | [w0] => j_rv w0 fun a0 => jbV (m_U_new F a0 h) fun h => k none h
  | _ => none
set_option maxRecDepth 100000 in
theorem e_U_new (F : Nat × Nat) (o : Nat) (h : jH) : m_U_new F o h = jrun (j_C []) 4 cd_U_new (j_T []) 16 0 [some (.ref o)] [] h := rfl
theorem hc_U_new (F : Nat × Nat) : jCok (0 + 0 * F.2) (j_C []) := jC_ok (fun _ h => absurd h List.not_mem_nil)
theorem k_U_new (F : Nat × Nat) (o : Nat) (h : jH) (r : Option Value) (h1 : jH) (e : m_U_new F o h = some (r, h1)) : jM1 (0 + 0 * F.2) 5 [.ref o] h r h1 := jM_of (M := M_U_new) mok_U_new (by decide +kernel) (by decide +kernel) (Or.inr (Or.inr (Or.inr (Or.inr ⟨rfl, rfl⟩)))) (fun _ => by decide +kernel) (jrun_ok ok_U_new (hc_U_new F) (jT_ok (fun _ h => absurd h List.not_mem_nil)) 16 0) (List.all_eq_true.mp rfl) (Nat.le_of_ble_eq_true rfl) (fun E => Nat.le_of_ble_eq_true rfl) ((e_U_new F o h).symm.trans e)
theorem co_U_new (F : Nat × Nat) : jc_ok (0 + 0 * F.2 + 1) 5 (c_U_new F) := by
  intro as h k out e
  unfold c_U_new at e
  split at e
  · obtain ⟨a0, rfl, e1⟩ := js_rv e
    obtain ⟨h1, hm, e2⟩ := js_jbV e1
    exact ⟨_, _, _, Nat.le_refl _, k_U_new F _ _ _ _ hm, ⟨fun q => absurd q (by decide +kernel), fun _ => ⟨_, _, rfl⟩⟩, e2⟩
  · cases e
def c_W_new (F : Nat × Nat) : jc1 := fun args h k => match args with
  | [w0] => j_rv w0 fun a0 => jbV (m_W_new F a0 h) fun h => k none h
  | _ => none
set_option maxRecDepth 100000 in
theorem e_W_new (F : Nat × Nat) (o : Nat) (h : jH) : m_W_new F o h = jrun (j_C []) 4 cd_W_new (j_T []) 28 0 [some (.ref o)] [] h := rfl
theorem hc_W_new (F : Nat × Nat) : jCok (0 + 0 * F.2) (j_C []) := jC_ok (fun _ h => absurd h List.not_mem_nil)
theorem k_W_new (F : Nat × Nat) (o : Nat) (h : jH) (r : Option Value) (h1 : jH) (e : m_W_new F o h = some (r, h1)) : jM1 (0 + 0 * F.2) 6 [.ref o] h r h1 := jM_of (M := M_W_new) mok_W_new (by decide +kernel) (by decide +kernel) (Or.inr (Or.inr (Or.inr (Or.inr ⟨rfl, rfl⟩)))) (fun _ => by decide +kernel) (jrun_ok ok_W_new (hc_W_new F) (jT_ok (fun _ h => absurd h List.not_mem_nil)) 28 0) (List.all_eq_true.mp rfl) (Nat.le_of_ble_eq_true rfl) (fun E => Nat.le_of_ble_eq_true rfl) ((e_W_new F o h).symm.trans e)
theorem co_W_new (F : Nat × Nat) : jc_ok (0 + 0 * F.2 + 1) 6 (c_W_new F) := by
  intro as h k out e
  unfold c_W_new at e
  split at e
  · obtain ⟨a0, rfl, e1⟩ := js_rv e
    obtain ⟨h1, hm, e2⟩ := js_jbV e1
    exact ⟨_, _, _, Nat.le_refl _, k_W_new F _ _ _ _ hm, ⟨fun q => absurd q (by decide +kernel), fun _ => ⟨_, _, rfl⟩⟩, e2⟩
  · cases e
def c_F_new (F : Nat × Nat) : jc1 := fun args h k => match args with
  | [w0] => j_rv w0 fun a0 => jbV (m_F_new F a0 h) fun h => k none h
  | _ => none
set_option maxRecDepth 100000 in
theorem e_F_new (F : Nat × Nat) (o : Nat) (h : jH) : m_F_new F o h = jrun (j_C [(1, c_L_new F), (2, c_D_new F), (3, c_P_new F), (5, c_U_new F), (6, c_W_new F)]) 4 cd_F_new (j_T []) 77 0 [some (.ref o)] [] h := rfl
theorem hc_F_new (F : Nat × Nat) : jCok (2 + 0 * F.2) (j_C [(1, c_L_new F), (2, c_D_new F), (3, c_P_new F), (5, c_U_new F), (6, c_W_new F)]) := jC_ok (List.forall_mem_cons.mpr ⟨(co_L_new F).up (by omega), List.forall_mem_cons.mpr ⟨(co_D_new F).up (by omega), List.forall_mem_cons.mpr ⟨(co_P_new F).up (by omega), List.forall_mem_cons.mpr ⟨(co_U_new F).up (by omega), List.forall_mem_cons.mpr ⟨(co_W_new F).up (by omega), fun _ h => absurd h List.not_mem_nil⟩⟩⟩⟩⟩)
theorem k_F_new (F : Nat × Nat) (o : Nat) (h : jH) (r : Option Value) (h1 : jH) (e : m_F_new F o h = some (r, h1)) : jM1 (2 + 0 * F.2) 0 [.ref o] h r h1 := jM_of (M := M_F_new) mok_F_new (by decide +kernel) (by decide +kernel) (Or.inr (Or.inr (Or.inr (Or.inr ⟨rfl, rfl⟩)))) (fun _ => by decide +kernel) (jrun_ok ok_F_new (hc_F_new F) (jT_ok (fun _ h => absurd h List.not_mem_nil)) 77 0) (List.all_eq_true.mp rfl) (Nat.le_of_ble_eq_true rfl) (fun E => Nat.le_of_ble_eq_true rfl) ((e_F_new F o h).symm.trans e)
theorem co_F_new (F : Nat × Nat) : jc_ok (2 + 0 * F.2 + 1) 0 (c_F_new F) := by
  intro as h k out e
  unfold c_F_new at e
  split at e
  · obtain ⟨a0, rfl, e1⟩ := js_rv e
    obtain ⟨h1, hm, e2⟩ := js_jbV e1
    exact ⟨_, _, _, Nat.le_refl _, k_F_new F _ _ _ _ hm, ⟨fun q => absurd q (by decide +kernel), fun _ => ⟨_, _, rfl⟩⟩, e2⟩
  · cases e
def c_F_isCell (F : Nat × Nat) : jc1 := fun args h k => match args with
  | [.int a0] => jbI (m_F_isCell F a0 h) fun r h => k (some (.int r)) h
  | _ => none
set_option maxRecDepth 100000 in
theorem e_F_isCell (F : Nat × Nat) (a0 : Int32) (h : jH) : m_F_isCell F a0 h = jrun (j_C []) 1 cd_F_isCell (j_T []) 14 0 [some (.int a0)] [] h := rfl
theorem hc_F_isCell (F : Nat × Nat) : jCok (0 + 0 * F.2) (j_C []) := jC_ok (fun _ h => absurd h List.not_mem_nil)
theorem k_F_isCell (F : Nat × Nat) (a0 : Int32) (h : jH) (r : Option Value) (h1 : jH) (e : m_F_isCell F a0 h = some (r, h1)) : jM1 (0 + 0 * F.2) 9 [.int a0] h r h1 := jM_of (M := M_F_isCell) mok_F_isCell (by decide +kernel) (by decide +kernel) (Or.inr (Or.inl ⟨rfl, rfl⟩)) (fun q => nomatch q) (jrun_ok ok_F_isCell (hc_F_isCell F) (jT_ok (fun _ h => absurd h List.not_mem_nil)) 14 0) (List.all_eq_true.mp rfl) (Nat.le_of_ble_eq_true rfl) (fun E => Nat.le_of_ble_eq_true rfl) ((e_F_isCell F a0 h).symm.trans e)
theorem co_F_isCell (F : Nat × Nat) : jc_ok (0 + 0 * F.2 + 1) 9 (c_F_isCell F) := by
  intro as h k out e
  unfold c_F_isCell at e
  split at e
  · obtain ⟨r, h1, hm, e1⟩ := js_jbI e
    exact ⟨_, _, _, Nat.le_refl _, k_F_isCell F _ _ _ _ hm, ⟨fun q => absurd q (by decide +kernel), fun q => absurd q (by decide +kernel)⟩, e1⟩
  · cases e
def c_F_canLie (F : Nat × Nat) : jc1 := fun args h k => match args with
  | [.int a0, .int a1, .int a2] => jbI (m_F_canLie F a0 a1 a2 h) fun r h => k (some (.int r)) h
  | _ => none
set_option maxRecDepth 100000 in
theorem e_F_canLie (F : Nat × Nat) (a0 : Int32) (a1 : Int32) (a2 : Int32) (h : jH) : m_F_canLie F a0 a1 a2 h = jrun (j_C [(9, c_F_isCell F)]) 1 cd_F_canLie (j_T []) 22 0 [some (.int a0), some (.int a1), some (.int a2)] [] h := rfl
theorem hc_F_canLie (F : Nat × Nat) : jCok (1 + 0 * F.2) (j_C [(9, c_F_isCell F)]) := jC_ok (List.forall_mem_cons.mpr ⟨(co_F_isCell F).up (by omega), fun _ h => absurd h List.not_mem_nil⟩)
theorem k_F_canLie (F : Nat × Nat) (a0 : Int32) (a1 : Int32) (a2 : Int32) (h : jH) (r : Option Value) (h1 : jH) (e : m_F_canLie F a0 a1 a2 h = some (r, h1)) : jM1 (1 + 0 * F.2) 8 [.int a0, .int a1, .int a2] h r h1 := jM_of (M := M_F_canLie) mok_F_canLie (by decide +kernel) (by decide +kernel) (Or.inr (Or.inl ⟨rfl, rfl⟩)) (fun q => nomatch q) (jrun_ok ok_F_canLie (hc_F_canLie F) (jT_ok (fun _ h => absurd h List.not_mem_nil)) 22 0) (List.all_eq_true.mp rfl) (Nat.le_of_ble_eq_true rfl) (fun E => Nat.le_of_ble_eq_true rfl) ((e_F_canLie F a0 a1 a2 h).symm.trans e)
theorem co_F_canLie (F : Nat × Nat) : jc_ok (1 + 0 * F.2 + 1) 8 (c_F_canLie F) := by
  intro as h k out e
  unfold c_F_canLie at e
  split at e
  · obtain ⟨r, h1, hm, e1⟩ := js_jbI e
    exact ⟨_, _, _, Nat.le_refl _, k_F_canLie F _ _ _ _ _ _ hm, ⟨fun q => absurd q (by decide +kernel), fun q => absurd q (by decide +kernel)⟩, e1⟩
  · cases e
def c_F_refuse (F : Nat × Nat) : jc1 := fun args h k => match args with
  | [w0, .int a1] => j_rv w0 fun a0 => if j_k h a0 = 10 then (jbI (m_F_refuse F a0 a1 h) fun r h => k (some (.int r)) h) else none
  | _ => none
set_option maxRecDepth 100000 in
theorem e_F_refuse (F : Nat × Nat) (o : Nat) (a1 : Int32) (h : jH) : m_F_refuse F o a1 h = jrun (j_C []) 0 cd_F_refuse (j_T []) 19 0 [some (.ref o), some (.int a1)] [] h := rfl
theorem hc_F_refuse (F : Nat × Nat) : jCok (0 + 0 * F.2) (j_C []) := jC_ok (fun _ h => absurd h List.not_mem_nil)
theorem k_F_refuse (F : Nat × Nat) (o : Nat) (a1 : Int32) (h : jH) (r : Option Value) (h1 : jH) (e : m_F_refuse F o a1 h = some (r, h1)) : jM1 (0 + 0 * F.2) 10 [.ref o, .int a1] h r h1 := jM_of (M := M_F_refuse) mok_F_refuse (by decide +kernel) (by decide +kernel) (Or.inl ⟨rfl, rfl⟩) (fun q => nomatch q) (jrun_ok ok_F_refuse (hc_F_refuse F) (jT_ok (fun _ h => absurd h List.not_mem_nil)) 19 0) (List.all_eq_true.mp rfl) (Nat.le_of_ble_eq_true rfl) (fun E => Nat.le_of_ble_eq_true rfl) ((e_F_refuse F o a1 h).symm.trans e)
theorem co_F_refuse (F : Nat × Nat) : jc_ok (0 + 0 * F.2 + 1) 10 (c_F_refuse F) := by
  intro as h k out e
  unfold c_F_refuse at e
  split at e
  · obtain ⟨a0, rfl, e1⟩ := js_rv e
    obtain ⟨hg, e2⟩ := js_if e1
    obtain ⟨r, h1, hm, e3⟩ := js_jbI e2
    exact ⟨_, _, _, Nat.le_refl _, k_F_refuse F _ _ _ _ _ hm, ⟨fun _ => ⟨_, _, rfl, Or.inl ⟨0, by decide, hg, by decide +kernel⟩⟩, fun q => absurd q (by decide +kernel)⟩, e3⟩
  · cases e
def c_L_lay (F : Nat × Nat) : jc1 := fun args h k => match args with
  | [w0, .int a1, .int a2, .int a3] => j_rv w0 fun a0 => if j_k h a0 = 12 then (jbV (m_L_lay F a0 a1 a2 a3 h) fun h => k none h) else none
  | _ => none
set_option maxRecDepth 100000 in
theorem e_L_lay (F : Nat × Nat) (o : Nat) (a1 : Int32) (a2 : Int32) (a3 : Int32) (h : jH) : m_L_lay F o a1 a2 a3 h = jrun (j_C []) 4 cd_L_lay (j_T []) 16 0 [some (.ref o), some (.int a1), some (.int a2), some (.int a3)] [] h := rfl
theorem hc_L_lay (F : Nat × Nat) : jCok (0 + 0 * F.2) (j_C []) := jC_ok (fun _ h => absurd h List.not_mem_nil)
theorem k_L_lay (F : Nat × Nat) (o : Nat) (a1 : Int32) (a2 : Int32) (a3 : Int32) (h : jH) (r : Option Value) (h1 : jH) (e : m_L_lay F o a1 a2 a3 h = some (r, h1)) : jM1 (0 + 0 * F.2) 11 [.ref o, .int a1, .int a2, .int a3] h r h1 := jM_of (M := M_L_lay) mok_L_lay (by decide +kernel) (by decide +kernel) (Or.inr (Or.inr (Or.inr (Or.inr ⟨rfl, rfl⟩)))) (fun q => nomatch q) (jrun_ok ok_L_lay (hc_L_lay F) (jT_ok (fun _ h => absurd h List.not_mem_nil)) 16 0) (List.all_eq_true.mp rfl) (Nat.le_of_ble_eq_true rfl) (fun E => Nat.le_of_ble_eq_true rfl) ((e_L_lay F o a1 a2 a3 h).symm.trans e)
theorem co_L_lay (F : Nat × Nat) : jc_ok (0 + 0 * F.2 + 1) 11 (c_L_lay F) := by
  intro as h k out e
  unfold c_L_lay at e
  split at e
  · obtain ⟨a0, rfl, e1⟩ := js_rv e
    obtain ⟨hg, e2⟩ := js_if e1
    obtain ⟨h1, hm, e3⟩ := js_jbV e2
    exact ⟨_, _, _, Nat.le_refl _, k_L_lay F _ _ _ _ _ _ _ hm, ⟨fun _ => ⟨_, _, rfl, Or.inl ⟨2, by decide, hg, by decide +kernel⟩⟩, fun q => absurd q (by decide +kernel)⟩, e3⟩
  · cases e
def c_F_accept (F : Nat × Nat) : jc1 := fun args h k => match args with
  | [w0, .int a1] => j_rv w0 fun a0 => if j_k h a0 = 10 then (jbI (m_F_accept F a0 a1 h) fun r h => k (some (.int r)) h) else none
  | _ => none
set_option maxRecDepth 100000 in
theorem e_F_accept (F : Nat × Nat) (o : Nat) (a1 : Int32) (h : jH) : m_F_accept F o a1 h = jrun (j_C []) 0 cd_F_accept (j_T []) 10 0 [some (.ref o), some (.int a1)] [] h := rfl
theorem hc_F_accept (F : Nat × Nat) : jCok (0 + 0 * F.2) (j_C []) := jC_ok (fun _ h => absurd h List.not_mem_nil)
theorem k_F_accept (F : Nat × Nat) (o : Nat) (a1 : Int32) (h : jH) (r : Option Value) (h1 : jH) (e : m_F_accept F o a1 h = some (r, h1)) : jM1 (0 + 0 * F.2) 12 [.ref o, .int a1] h r h1 := jM_of (M := M_F_accept) mok_F_accept (by decide +kernel) (by decide +kernel) (Or.inl ⟨rfl, rfl⟩) (fun q => nomatch q) (jrun_ok ok_F_accept (hc_F_accept F) (jT_ok (fun _ h => absurd h List.not_mem_nil)) 10 0) (List.all_eq_true.mp rfl) (Nat.le_of_ble_eq_true rfl) (fun E => Nat.le_of_ble_eq_true rfl) ((e_F_accept F o a1 h).symm.trans e)
theorem co_F_accept (F : Nat × Nat) : jc_ok (0 + 0 * F.2 + 1) 12 (c_F_accept F) := by
  intro as h k out e
  unfold c_F_accept at e
  split at e
  · obtain ⟨a0, rfl, e1⟩ := js_rv e
    obtain ⟨hg, e2⟩ := js_if e1
    obtain ⟨r, h1, hm, e3⟩ := js_jbI e2
    exact ⟨_, _, _, Nat.le_refl _, k_F_accept F _ _ _ _ _ hm, ⟨fun _ => ⟨_, _, rfl, Or.inl ⟨0, by decide, hg, by decide +kernel⟩⟩, fun q => absurd q (by decide +kernel)⟩, e3⟩
  · cases e
def c_F_cell (F : Nat × Nat) : jc1 := fun args h k => match args with
  | [w0, .int a1, .int a2, .int a3] => j_rv w0 fun a0 => if j_k h a0 = 10 then (jbI (m_F_cell F a0 a1 a2 a3 h) fun r h => k (some (.int r)) h) else none
  | _ => none
set_option maxRecDepth 100000 in
theorem e_F_cell (F : Nat × Nat) (o : Nat) (a1 : Int32) (a2 : Int32) (a3 : Int32) (h : jH) : m_F_cell F o a1 a2 a3 h = jrun (j_C [(8, c_F_canLie F), (10, c_F_refuse F), (11, c_L_lay F), (12, c_F_accept F)]) 0 cd_F_cell (j_T []) 30 0 [some (.ref o), some (.int a1), some (.int a2), some (.int a3), none] [] h := rfl
theorem hc_F_cell (F : Nat × Nat) : jCok (2 + 0 * F.2) (j_C [(8, c_F_canLie F), (10, c_F_refuse F), (11, c_L_lay F), (12, c_F_accept F)]) := jC_ok (List.forall_mem_cons.mpr ⟨(co_F_canLie F).up (by omega), List.forall_mem_cons.mpr ⟨(co_F_refuse F).up (by omega), List.forall_mem_cons.mpr ⟨(co_L_lay F).up (by omega), List.forall_mem_cons.mpr ⟨(co_F_accept F).up (by omega), fun _ h => absurd h List.not_mem_nil⟩⟩⟩⟩)
theorem k_F_cell (F : Nat × Nat) (o : Nat) (a1 : Int32) (a2 : Int32) (a3 : Int32) (h : jH) (r : Option Value) (h1 : jH) (e : m_F_cell F o a1 a2 a3 h = some (r, h1)) : jM1 (2 + 0 * F.2) 7 [.ref o, .int a1, .int a2, .int a3] h r h1 := jM_of (M := M_F_cell) mok_F_cell (by decide +kernel) (by decide +kernel) (Or.inl ⟨rfl, rfl⟩) (fun q => nomatch q) (jrun_ok ok_F_cell (hc_F_cell F) (jT_ok (fun _ h => absurd h List.not_mem_nil)) 30 0) (List.all_eq_true.mp rfl) (Nat.le_of_ble_eq_true rfl) (fun E => Nat.le_of_ble_eq_true rfl) ((e_F_cell F o a1 a2 a3 h).symm.trans e)
theorem co_F_cell (F : Nat × Nat) : jc_ok (2 + 0 * F.2 + 1) 7 (c_F_cell F) := by
  intro as h k out e
  unfold c_F_cell at e
  split at e
  · obtain ⟨a0, rfl, e1⟩ := js_rv e
    obtain ⟨hg, e2⟩ := js_if e1
    obtain ⟨r, h1, hm, e3⟩ := js_jbI e2
    exact ⟨_, _, _, Nat.le_refl _, k_F_cell F _ _ _ _ _ _ _ hm, ⟨fun _ => ⟨_, _, rfl, Or.inl ⟨0, by decide, hg, by decide +kernel⟩⟩, fun q => absurd q (by decide +kernel)⟩, e3⟩
  · cases e
def r_L_whoIsIn_4 (g : Nat → Int32 → Int32 → Int32 → jH → Option jO) : jL → List Value → jH → Option jO := fun L S h => match L, S with
  | [some (.ref v0), some (.int v1), some (.int v2), some (.int v3)], [] => g v0 v1 v2 v3 h
  | _, _ => none
def c_L_whoIsIn (F : Nat × Nat) : jc1 := fun args h k => match args with
  | [w0, .int a1] => j_rv w0 fun a0 => if j_k h a0 = 12 then (jbI (m_L_whoIsIn F a0 a1 h) fun r h => k (some (.int r)) h) else none
  | _ => none
set_option maxRecDepth 100000 in
theorem e_L_whoIsIn_4 (F : Nat × Nat) (f : Nat) (v0 : Nat) (v1 : Int32) (v2 : Int32) (v3 : Int32) (h : jH) : m_L_whoIsIn_4 F (f + 1) v0 v1 v2 v3 h = jst (j_C []) 0 (cd_L_whoIsIn 4) [some (.ref v0), some (.int v1), some (.int v2), some (.int v3)] [] h (jrun (j_C []) 0 cd_L_whoIsIn (j_T [(4, r_L_whoIsIn_4 (m_L_whoIsIn_4 F f))]) 29) := rfl
set_option maxRecDepth 100000 in
theorem e_L_whoIsIn (F : Nat × Nat) (o : Nat) (a1 : Int32) (h : jH) : m_L_whoIsIn F o a1 h = jrun (j_C []) 0 cd_L_whoIsIn (j_T [(4, r_L_whoIsIn_4 (m_L_whoIsIn_4 F F.1))]) 29 0 [some (.ref o), some (.int a1), none, none] [] h := rfl
theorem hc_L_whoIsIn (F : Nat × Nat) : jCok (0 + 0 * F.2) (j_C []) := jC_ok (fun _ h => absurd h List.not_mem_nil)
theorem g_L_whoIsIn_4 (F : Nat × Nat) : ∀ f, jG M_L_whoIsIn (0 + 0 * F.2) 4 (r_L_whoIsIn_4 (m_L_whoIsIn_4 F f))
  | 0 => jG.no (fun L S h => by unfold r_L_whoIsIn_4; split <;> rfl)
  | f + 1 => (jst_ok ok_L_whoIsIn (hc_L_whoIsIn F) (jrun_ok ok_L_whoIsIn (hc_L_whoIsIn F) (jT_ok (List.forall_mem_cons.mpr ⟨g_L_whoIsIn_4 F f, fun _ h => absurd h List.not_mem_nil⟩)) 29) 4).of (fun L S h out e => by unfold r_L_whoIsIn_4 at e; split at e; exact (e_L_whoIsIn_4 F f _ _ _ _ _).symm.trans e; cases e)
theorem k_L_whoIsIn (F : Nat × Nat) (o : Nat) (a1 : Int32) (h : jH) (r : Option Value) (h1 : jH) (e : m_L_whoIsIn F o a1 h = some (r, h1)) : jM1 (0 + 0 * F.2) 14 [.ref o, .int a1] h r h1 := jM_of (M := M_L_whoIsIn) mok_L_whoIsIn (by decide +kernel) (by decide +kernel) (Or.inl ⟨rfl, rfl⟩) (fun q => nomatch q) (jrun_ok ok_L_whoIsIn (hc_L_whoIsIn F) (jT_ok (List.forall_mem_cons.mpr ⟨g_L_whoIsIn_4 F F.1, fun _ h => absurd h List.not_mem_nil⟩)) 29 0) (List.all_eq_true.mp rfl) (Nat.le_of_ble_eq_true rfl) (fun E => Nat.le_of_ble_eq_true rfl) ((e_L_whoIsIn F o a1 h).symm.trans e)
theorem co_L_whoIsIn (F : Nat × Nat) : jc_ok (0 + 0 * F.2 + 1) 14 (c_L_whoIsIn F) := by
  intro as h k out e
  unfold c_L_whoIsIn at e
  split at e
  · obtain ⟨a0, rfl, e1⟩ := js_rv e
    obtain ⟨hg, e2⟩ := js_if e1
    obtain ⟨r, h1, hm, e3⟩ := js_jbI e2
    exact ⟨_, _, _, Nat.le_refl _, k_L_whoIsIn F _ _ _ _ _ hm, ⟨fun _ => ⟨_, _, rfl, Or.inl ⟨2, by decide, hg, by decide +kernel⟩⟩, fun q => absurd q (by decide +kernel)⟩, e3⟩
  · cases e
def c_F_land (F : Nat × Nat) : jc1 := fun args h k => match args with
  | [w0, .int a1, .int a2] => j_rv w0 fun a0 => if j_k h a0 = 10 then (jbI (m_F_land F a0 a1 a2 h) fun r h => k (some (.int r)) h) else none
  | _ => none
set_option maxRecDepth 100000 in
theorem e_F_land (F : Nat × Nat) (o : Nat) (a1 : Int32) (a2 : Int32) (h : jH) : m_F_land F o a1 a2 h = jrun (j_C [(9, c_F_isCell F), (14, c_L_whoIsIn F)]) 0 cd_F_land (j_T []) 31 0 [some (.ref o), some (.int a1), some (.int a2)] [] h := rfl
theorem hc_F_land (F : Nat × Nat) : jCok (1 + 0 * F.2) (j_C [(9, c_F_isCell F), (14, c_L_whoIsIn F)]) := jC_ok (List.forall_mem_cons.mpr ⟨(co_F_isCell F).up (by omega), List.forall_mem_cons.mpr ⟨(co_L_whoIsIn F).up (by omega), fun _ h => absurd h List.not_mem_nil⟩⟩)
theorem k_F_land (F : Nat × Nat) (o : Nat) (a1 : Int32) (a2 : Int32) (h : jH) (r : Option Value) (h1 : jH) (e : m_F_land F o a1 a2 h = some (r, h1)) : jM1 (1 + 0 * F.2) 13 [.ref o, .int a1, .int a2] h r h1 := jM_of (M := M_F_land) mok_F_land (by decide +kernel) (by decide +kernel) (Or.inl ⟨rfl, rfl⟩) (fun q => nomatch q) (jrun_ok ok_F_land (hc_F_land F) (jT_ok (fun _ h => absurd h List.not_mem_nil)) 31 0) (List.all_eq_true.mp rfl) (Nat.le_of_ble_eq_true rfl) (fun E => Nat.le_of_ble_eq_true rfl) ((e_F_land F o a1 a2 h).symm.trans e)
theorem co_F_land (F : Nat × Nat) : jc_ok (1 + 0 * F.2 + 1) 13 (c_F_land F) := by
  intro as h k out e
  unfold c_F_land at e
  split at e
  · obtain ⟨a0, rfl, e1⟩ := js_rv e
    obtain ⟨hg, e2⟩ := js_if e1
    obtain ⟨r, h1, hm, e3⟩ := js_jbI e2
    exact ⟨_, _, _, Nat.le_refl _, k_F_land F _ _ _ _ _ _ hm, ⟨fun _ => ⟨_, _, rfl, Or.inl ⟨0, by decide, hg, by decide +kernel⟩⟩, fun q => absurd q (by decide +kernel)⟩, e3⟩
  · cases e
def c_L_addWalker (F : Nat × Nat) : jc1 := fun args h k => match args with
  | [w0, .int a1, .int a2] => j_rv w0 fun a0 => if j_k h a0 = 12 then (jbV (m_L_addWalker F a0 a1 a2 h) fun h => k none h) else none
  | _ => none
set_option maxRecDepth 100000 in
theorem e_L_addWalker (F : Nat × Nat) (o : Nat) (a1 : Int32) (a2 : Int32) (h : jH) : m_L_addWalker F o a1 a2 h = jrun (j_C []) 4 cd_L_addWalker (j_T []) 42 0 [some (.ref o), some (.int a1), some (.int a2)] [] h := rfl
theorem hc_L_addWalker (F : Nat × Nat) : jCok (0 + 0 * F.2) (j_C []) := jC_ok (fun _ h => absurd h List.not_mem_nil)
theorem k_L_addWalker (F : Nat × Nat) (o : Nat) (a1 : Int32) (a2 : Int32) (h : jH) (r : Option Value) (h1 : jH) (e : m_L_addWalker F o a1 a2 h = some (r, h1)) : jM1 (0 + 0 * F.2) 16 [.ref o, .int a1, .int a2] h r h1 := jM_of (M := M_L_addWalker) mok_L_addWalker (by decide +kernel) (by decide +kernel) (Or.inr (Or.inr (Or.inr (Or.inr ⟨rfl, rfl⟩)))) (fun q => nomatch q) (jrun_ok ok_L_addWalker (hc_L_addWalker F) (jT_ok (fun _ h => absurd h List.not_mem_nil)) 42 0) (List.all_eq_true.mp rfl) (Nat.le_of_ble_eq_true rfl) (fun E => Nat.le_of_ble_eq_true rfl) ((e_L_addWalker F o a1 a2 h).symm.trans e)
theorem co_L_addWalker (F : Nat × Nat) : jc_ok (0 + 0 * F.2 + 1) 16 (c_L_addWalker F) := by
  intro as h k out e
  unfold c_L_addWalker at e
  split at e
  · obtain ⟨a0, rfl, e1⟩ := js_rv e
    obtain ⟨hg, e2⟩ := js_if e1
    obtain ⟨h1, hm, e3⟩ := js_jbV e2
    exact ⟨_, _, _, Nat.le_refl _, k_L_addWalker F _ _ _ _ _ _ hm, ⟨fun _ => ⟨_, _, rfl, Or.inl ⟨2, by decide, hg, by decide +kernel⟩⟩, fun q => absurd q (by decide +kernel)⟩, e3⟩
  · cases e
def c_D_clear (F : Nat × Nat) : jc1 := fun args h k => match args with
  | [w0] => j_rv w0 fun a0 => if j_k h a0 = 11 then (jbV (m_D_clear F a0 h) fun h => k none h) else none
  | _ => none
set_option maxRecDepth 100000 in
theorem e_D_clear (F : Nat × Nat) (o : Nat) (h : jH) : m_D_clear F o h = jrun (j_C []) 4 cd_D_clear (j_T []) 9 0 [some (.ref o)] [] h := rfl
theorem hc_D_clear (F : Nat × Nat) : jCok (0 + 0 * F.2) (j_C []) := jC_ok (fun _ h => absurd h List.not_mem_nil)
theorem k_D_clear (F : Nat × Nat) (o : Nat) (h : jH) (r : Option Value) (h1 : jH) (e : m_D_clear F o h = some (r, h1)) : jM1 (0 + 0 * F.2) 17 [.ref o] h r h1 := jM_of (M := M_D_clear) mok_D_clear (by decide +kernel) (by decide +kernel) (Or.inr (Or.inr (Or.inr (Or.inr ⟨rfl, rfl⟩)))) (fun q => nomatch q) (jrun_ok ok_D_clear (hc_D_clear F) (jT_ok (fun _ h => absurd h List.not_mem_nil)) 9 0) (List.all_eq_true.mp rfl) (Nat.le_of_ble_eq_true rfl) (fun E => Nat.le_of_ble_eq_true rfl) ((e_D_clear F o h).symm.trans e)
theorem co_D_clear (F : Nat × Nat) : jc_ok (0 + 0 * F.2 + 1) 17 (c_D_clear F) := by
  intro as h k out e
  unfold c_D_clear at e
  split at e
  · obtain ⟨a0, rfl, e1⟩ := js_rv e
    obtain ⟨hg, e2⟩ := js_if e1
    obtain ⟨h1, hm, e3⟩ := js_jbV e2
    exact ⟨_, _, _, Nat.le_refl _, k_D_clear F _ _ _ _ hm, ⟨fun _ => ⟨_, _, rfl, Or.inl ⟨1, by decide, hg, by decide +kernel⟩⟩, fun q => absurd q (by decide +kernel)⟩, e3⟩
  · cases e
def c_F_walker (F : Nat × Nat) : jc1 := fun args h k => match args with
  | [w0, .int a1, .int a2] => j_rv w0 fun a0 => if j_k h a0 = 10 then (jbI (m_F_walker F a0 a1 a2 h) fun r h => k (some (.int r)) h) else none
  | _ => none
set_option maxRecDepth 100000 in
theorem e_F_walker (F : Nat × Nat) (o : Nat) (a1 : Int32) (a2 : Int32) (h : jH) : m_F_walker F o a1 a2 h = jrun (j_C [(9, c_F_isCell F), (10, c_F_refuse F), (12, c_F_accept F), (16, c_L_addWalker F), (17, c_D_clear F)]) 0 cd_F_walker (j_T []) 43 0 [some (.ref o), some (.int a1), some (.int a2), none] [] h := rfl
theorem hc_F_walker (F : Nat × Nat) : jCok (1 + 0 * F.2) (j_C [(9, c_F_isCell F), (10, c_F_refuse F), (12, c_F_accept F), (16, c_L_addWalker F), (17, c_D_clear F)]) := jC_ok (List.forall_mem_cons.mpr ⟨(co_F_isCell F).up (by omega), List.forall_mem_cons.mpr ⟨(co_F_refuse F).up (by omega), List.forall_mem_cons.mpr ⟨(co_F_accept F).up (by omega), List.forall_mem_cons.mpr ⟨(co_L_addWalker F).up (by omega), List.forall_mem_cons.mpr ⟨(co_D_clear F).up (by omega), fun _ h => absurd h List.not_mem_nil⟩⟩⟩⟩⟩)
theorem k_F_walker (F : Nat × Nat) (o : Nat) (a1 : Int32) (a2 : Int32) (h : jH) (r : Option Value) (h1 : jH) (e : m_F_walker F o a1 a2 h = some (r, h1)) : jM1 (1 + 0 * F.2) 15 [.ref o, .int a1, .int a2] h r h1 := jM_of (M := M_F_walker) mok_F_walker (by decide +kernel) (by decide +kernel) (Or.inl ⟨rfl, rfl⟩) (fun q => nomatch q) (jrun_ok ok_F_walker (hc_F_walker F) (jT_ok (fun _ h => absurd h List.not_mem_nil)) 43 0) (List.all_eq_true.mp rfl) (Nat.le_of_ble_eq_true rfl) (fun E => Nat.le_of_ble_eq_true rfl) ((e_F_walker F o a1 a2 h).symm.trans e)
theorem co_F_walker (F : Nat × Nat) : jc_ok (1 + 0 * F.2 + 1) 15 (c_F_walker F) := by
  intro as h k out e
  unfold c_F_walker at e
  split at e
  · obtain ⟨a0, rfl, e1⟩ := js_rv e
    obtain ⟨hg, e2⟩ := js_if e1
    obtain ⟨r, h1, hm, e3⟩ := js_jbI e2
    exact ⟨_, _, _, Nat.le_refl _, k_F_walker F _ _ _ _ _ _ hm, ⟨fun _ => ⟨_, _, rfl, Or.inl ⟨0, by decide, hg, by decide +kernel⟩⟩, fun q => absurd q (by decide +kernel)⟩, e3⟩
  · cases e
def c_L_hasWalker (F : Nat × Nat) : jc1 := fun args h k => match args with
  | [w0, .int a1] => j_rv w0 fun a0 => if j_k h a0 = 12 then (jbI (m_L_hasWalker F a0 a1 h) fun r h => k (some (.int r)) h) else none
  | _ => none
set_option maxRecDepth 100000 in
theorem e_L_hasWalker (F : Nat × Nat) (o : Nat) (a1 : Int32) (h : jH) : m_L_hasWalker F o a1 h = jrun (j_C []) 1 cd_L_hasWalker (j_T []) 15 0 [some (.ref o), some (.int a1)] [] h := rfl
theorem hc_L_hasWalker (F : Nat × Nat) : jCok (0 + 0 * F.2) (j_C []) := jC_ok (fun _ h => absurd h List.not_mem_nil)
theorem k_L_hasWalker (F : Nat × Nat) (o : Nat) (a1 : Int32) (h : jH) (r : Option Value) (h1 : jH) (e : m_L_hasWalker F o a1 h = some (r, h1)) : jM1 (0 + 0 * F.2) 19 [.ref o, .int a1] h r h1 := jM_of (M := M_L_hasWalker) mok_L_hasWalker (by decide +kernel) (by decide +kernel) (Or.inr (Or.inl ⟨rfl, rfl⟩)) (fun q => nomatch q) (jrun_ok ok_L_hasWalker (hc_L_hasWalker F) (jT_ok (fun _ h => absurd h List.not_mem_nil)) 15 0) (List.all_eq_true.mp rfl) (Nat.le_of_ble_eq_true rfl) (fun E => Nat.le_of_ble_eq_true rfl) ((e_L_hasWalker F o a1 h).symm.trans e)
theorem co_L_hasWalker (F : Nat × Nat) : jc_ok (0 + 0 * F.2 + 1) 19 (c_L_hasWalker F) := by
  intro as h k out e
  unfold c_L_hasWalker at e
  split at e
  · obtain ⟨a0, rfl, e1⟩ := js_rv e
    obtain ⟨hg, e2⟩ := js_if e1
    obtain ⟨r, h1, hm, e3⟩ := js_jbI e2
    exact ⟨_, _, _, Nat.le_refl _, k_L_hasWalker F _ _ _ _ _ hm, ⟨fun _ => ⟨_, _, rfl, Or.inl ⟨2, by decide, hg, by decide +kernel⟩⟩, fun q => absurd q (by decide +kernel)⟩, e3⟩
  · cases e
def c_Ji_bitCount (F : Nat × Nat) : jc1 := fun args h k => match args with
  | [.int a0] => jbI (m_Ji_bitCount F a0 h) fun r h => k (some (.int r)) h
  | _ => none
set_option maxRecDepth 100000 in
theorem e_Ji_bitCount (F : Nat × Nat) (a0 : Int32) (h : jH) : m_Ji_bitCount F a0 h = jrun (j_C []) 0 cd_Ji_bitCount (j_T []) 47 0 [some (.int a0)] [] h := rfl
theorem hc_Ji_bitCount (F : Nat × Nat) : jCok (0 + 0 * F.2) (j_C []) := jC_ok (fun _ h => absurd h List.not_mem_nil)
theorem k_Ji_bitCount (F : Nat × Nat) (a0 : Int32) (h : jH) (r : Option Value) (h1 : jH) (e : m_Ji_bitCount F a0 h = some (r, h1)) : jM1 (0 + 0 * F.2) 20 [.int a0] h r h1 := jM_of (M := M_Ji_bitCount) mok_Ji_bitCount (by decide +kernel) (by decide +kernel) (Or.inl ⟨rfl, rfl⟩) (fun q => nomatch q) (jrun_ok ok_Ji_bitCount (hc_Ji_bitCount F) (jT_ok (fun _ h => absurd h List.not_mem_nil)) 47 0) (List.all_eq_true.mp rfl) (Nat.le_of_ble_eq_true rfl) (fun E => Nat.le_of_ble_eq_true rfl) ((e_Ji_bitCount F a0 h).symm.trans e)
theorem co_Ji_bitCount (F : Nat × Nat) : jc_ok (0 + 0 * F.2 + 1) 20 (c_Ji_bitCount F) := by
  intro as h k out e
  unfold c_Ji_bitCount at e
  split at e
  · obtain ⟨r, h1, hm, e1⟩ := js_jbI e
    exact ⟨_, _, _, Nat.le_refl _, k_Ji_bitCount F _ _ _ _ hm, ⟨fun q => absurd q (by decide +kernel), fun q => absurd q (by decide +kernel)⟩, e1⟩
  · cases e
def c_L_hasLaw (F : Nat × Nat) : jc1 := fun args h k => match args with
  | [w0, .int a1] => j_rv w0 fun a0 => if j_k h a0 = 12 then (jbI (m_L_hasLaw F a0 a1 h) fun r h => k (some (.int r)) h) else none
  | _ => none
set_option maxRecDepth 100000 in
theorem e_L_hasLaw (F : Nat × Nat) (o : Nat) (a1 : Int32) (h : jH) : m_L_hasLaw F o a1 h = jrun (j_C []) 1 cd_L_hasLaw (j_T []) 15 0 [some (.ref o), some (.int a1)] [] h := rfl
theorem hc_L_hasLaw (F : Nat × Nat) : jCok (0 + 0 * F.2) (j_C []) := jC_ok (fun _ h => absurd h List.not_mem_nil)
theorem k_L_hasLaw (F : Nat × Nat) (o : Nat) (a1 : Int32) (h : jH) (r : Option Value) (h1 : jH) (e : m_L_hasLaw F o a1 h = some (r, h1)) : jM1 (0 + 0 * F.2) 23 [.ref o, .int a1] h r h1 := jM_of (M := M_L_hasLaw) mok_L_hasLaw (by decide +kernel) (by decide +kernel) (Or.inr (Or.inl ⟨rfl, rfl⟩)) (fun q => nomatch q) (jrun_ok ok_L_hasLaw (hc_L_hasLaw F) (jT_ok (fun _ h => absurd h List.not_mem_nil)) 15 0) (List.all_eq_true.mp rfl) (Nat.le_of_ble_eq_true rfl) (fun E => Nat.le_of_ble_eq_true rfl) ((e_L_hasLaw F o a1 h).symm.trans e)
theorem co_L_hasLaw (F : Nat × Nat) : jc_ok (0 + 0 * F.2 + 1) 23 (c_L_hasLaw F) := by
  intro as h k out e
  unfold c_L_hasLaw at e
  split at e
  · obtain ⟨a0, rfl, e1⟩ := js_rv e
    obtain ⟨hg, e2⟩ := js_if e1
    obtain ⟨r, h1, hm, e3⟩ := js_jbI e2
    exact ⟨_, _, _, Nat.le_refl _, k_L_hasLaw F _ _ _ _ _ hm, ⟨fun _ => ⟨_, _, rfl, Or.inl ⟨2, by decide, hg, by decide +kernel⟩⟩, fun q => absurd q (by decide +kernel)⟩, e3⟩
  · cases e
def c_L_lawNumbered (F : Nat × Nat) : jc1 := fun args h k => match args with
  | [w0, .int a1] => j_rv w0 fun a0 => if j_k h a0 = 12 then (jbR (m_L_lawNumbered F a0 a1 h) fun r h => k (some r) h) else none
  | _ => none
set_option maxRecDepth 100000 in
theorem e_L_lawNumbered (F : Nat × Nat) (o : Nat) (a1 : Int32) (h : jH) : m_L_lawNumbered F o a1 h = jrun (j_C [(23, c_L_hasLaw F)]) 3 cd_L_lawNumbered (j_T []) 16 0 [some (.ref o), some (.int a1)] [] h := rfl
theorem hc_L_lawNumbered (F : Nat × Nat) : jCok (1 + 0 * F.2) (j_C [(23, c_L_hasLaw F)]) := jC_ok (List.forall_mem_cons.mpr ⟨(co_L_hasLaw F).up (by omega), fun _ h => absurd h List.not_mem_nil⟩)
theorem k_L_lawNumbered (F : Nat × Nat) (o : Nat) (a1 : Int32) (h : jH) (r : Option Value) (h1 : jH) (e : m_L_lawNumbered F o a1 h = some (r, h1)) : jM1 (1 + 0 * F.2) 22 [.ref o, .int a1] h r h1 := jM_of (M := M_L_lawNumbered) mok_L_lawNumbered (by decide +kernel) (by decide +kernel) (Or.inr (Or.inr (Or.inr (Or.inl ⟨rfl, Or.inl ⟨_, rfl⟩⟩)))) (fun q => nomatch q) (jrun_ok ok_L_lawNumbered (hc_L_lawNumbered F) (jT_ok (fun _ h => absurd h List.not_mem_nil)) 16 0) (List.all_eq_true.mp rfl) (Nat.le_of_ble_eq_true rfl) (fun E => Nat.le_of_ble_eq_true rfl) ((e_L_lawNumbered F o a1 h).symm.trans e)
theorem co_L_lawNumbered (F : Nat × Nat) : jc_ok (1 + 0 * F.2 + 1) 22 (c_L_lawNumbered F) := by
  intro as h k out e
  unfold c_L_lawNumbered at e
  split at e
  · obtain ⟨a0, rfl, e1⟩ := js_rv e
    obtain ⟨hg, e2⟩ := js_if e1
    obtain ⟨r, h1, hm, e3⟩ := js_jbR e2
    exact ⟨_, _, _, Nat.le_refl _, k_L_lawNumbered F _ _ _ _ _ hm, ⟨fun _ => ⟨_, _, rfl, Or.inl ⟨2, by decide, hg, by decide +kernel⟩⟩, fun q => absurd q (by decide +kernel)⟩, e3⟩
  · cases e
def c_L_lawInForce (F : Nat × Nat) : jc1 := fun args h k => match args with
  | [w0] => j_rv w0 fun a0 => if j_k h a0 = 12 then (jbR (m_L_lawInForce F a0 h) fun r h => k (some r) h) else none
  | _ => none
set_option maxRecDepth 100000 in
theorem e_L_lawInForce (F : Nat × Nat) (o : Nat) (h : jH) : m_L_lawInForce F o h = jrun (j_C [(22, c_L_lawNumbered F)]) 3 cd_L_lawInForce (j_T []) 10 0 [some (.ref o)] [] h := rfl
theorem hc_L_lawInForce (F : Nat × Nat) : jCok (2 + 0 * F.2) (j_C [(22, c_L_lawNumbered F)]) := jC_ok (List.forall_mem_cons.mpr ⟨(co_L_lawNumbered F).up (by omega), fun _ h => absurd h List.not_mem_nil⟩)
theorem k_L_lawInForce (F : Nat × Nat) (o : Nat) (h : jH) (r : Option Value) (h1 : jH) (e : m_L_lawInForce F o h = some (r, h1)) : jM1 (2 + 0 * F.2) 21 [.ref o] h r h1 := jM_of (M := M_L_lawInForce) mok_L_lawInForce (by decide +kernel) (by decide +kernel) (Or.inr (Or.inr (Or.inr (Or.inl ⟨rfl, Or.inl ⟨_, rfl⟩⟩)))) (fun q => nomatch q) (jrun_ok ok_L_lawInForce (hc_L_lawInForce F) (jT_ok (fun _ h => absurd h List.not_mem_nil)) 10 0) (List.all_eq_true.mp rfl) (Nat.le_of_ble_eq_true rfl) (fun E => Nat.le_of_ble_eq_true rfl) ((e_L_lawInForce F o h).symm.trans e)
theorem co_L_lawInForce (F : Nat × Nat) : jc_ok (2 + 0 * F.2 + 1) 21 (c_L_lawInForce F) := by
  intro as h k out e
  unfold c_L_lawInForce at e
  split at e
  · obtain ⟨a0, rfl, e1⟩ := js_rv e
    obtain ⟨hg, e2⟩ := js_if e1
    obtain ⟨r, h1, hm, e3⟩ := js_jbR e2
    exact ⟨_, _, _, Nat.le_refl _, k_L_lawInForce F _ _ _ _ hm, ⟨fun _ => ⟨_, _, rfl, Or.inl ⟨2, by decide, hg, by decide +kernel⟩⟩, fun q => absurd q (by decide +kernel)⟩, e3⟩
  · cases e
def c_L_knows (F : Nat × Nat) : jc1 := fun args h k => match args with
  | [w0, .int a1, .int a2] => j_rv w0 fun a0 => if j_k h a0 = 12 then (jbI (m_L_knows F a0 a1 a2 h) fun r h => k (some (.int r)) h) else none
  | _ => none
set_option maxRecDepth 100000 in
theorem e_L_knows (F : Nat × Nat) (o : Nat) (a1 : Int32) (a2 : Int32) (h : jH) : m_L_knows F o a1 a2 h = jrun (j_C []) 1 cd_L_knows (j_T []) 19 0 [some (.ref o), some (.int a1), some (.int a2)] [] h := rfl
theorem hc_L_knows (F : Nat × Nat) : jCok (0 + 0 * F.2) (j_C []) := jC_ok (fun _ h => absurd h List.not_mem_nil)
theorem k_L_knows (F : Nat × Nat) (o : Nat) (a1 : Int32) (a2 : Int32) (h : jH) (r : Option Value) (h1 : jH) (e : m_L_knows F o a1 a2 h = some (r, h1)) : jM1 (0 + 0 * F.2) 26 [.ref o, .int a1, .int a2] h r h1 := jM_of (M := M_L_knows) mok_L_knows (by decide +kernel) (by decide +kernel) (Or.inr (Or.inl ⟨rfl, rfl⟩)) (fun q => nomatch q) (jrun_ok ok_L_knows (hc_L_knows F) (jT_ok (fun _ h => absurd h List.not_mem_nil)) 19 0) (List.all_eq_true.mp rfl) (Nat.le_of_ble_eq_true rfl) (fun E => Nat.le_of_ble_eq_true rfl) ((e_L_knows F o a1 a2 h).symm.trans e)
theorem co_L_knows (F : Nat × Nat) : jc_ok (0 + 0 * F.2 + 1) 26 (c_L_knows F) := by
  intro as h k out e
  unfold c_L_knows at e
  split at e
  · obtain ⟨a0, rfl, e1⟩ := js_rv e
    obtain ⟨hg, e2⟩ := js_if e1
    obtain ⟨r, h1, hm, e3⟩ := js_jbI e2
    exact ⟨_, _, _, Nat.le_refl _, k_L_knows F _ _ _ _ _ _ hm, ⟨fun _ => ⟨_, _, rfl, Or.inl ⟨2, by decide, hg, by decide +kernel⟩⟩, fun q => absurd q (by decide +kernel)⟩, e3⟩
  · cases e
def r_U_tellLawWords_77 (g : Nat → Nat → Int32 → Int64 → Int32 → Value → jH → Option jO) : jL → List Value → jH → Option jO := fun L S h => match L, S with
  | [some (.ref v0), some (.ref v1), some (.int v2), _, _], [.long s0, .int s1, s2] => g v0 v1 v2 s0 s1 s2 h
  | _, _ => none
def c_U_tellLawWords (F : Nat × Nat) : jc1 := fun args h k => match args with
  | [w0, w1, .int a2, .int a3, .int a4] => j_rv w0 fun a0 => j_rv w1 fun a1 => if j_k h a0 = 14 then (jbV (m_U_tellLawWords F a0 a1 a2 a3 a4 h) fun h => k none h) else none
  | _ => none
set_option maxRecDepth 100000 in
theorem e_U_tellLawWords_77 (F : Nat × Nat) (v0 : Nat) (v1 : Nat) (v2 : Int32) (s0 : Int64) (s1 : Int32) (s2 : Value) (u1 : Option Value) (u2 : Option Value) (h : jH) : m_U_tellLawWords_77 F v0 v1 v2 s0 s1 s2 h = jst (j_C [(26, c_L_knows F)]) 4 (cd_U_tellLawWords 77) [some (.ref v0), some (.ref v1), some (.int v2), u1, u2] [.long s0, .int s1, s2] h (jrun (j_C [(26, c_L_knows F)]) 4 cd_U_tellLawWords (j_T []) 83) := rfl
set_option maxRecDepth 100000 in
theorem e_U_tellLawWords (F : Nat × Nat) (o : Nat) (a1 : Nat) (a2 : Int32) (a3 : Int32) (a4 : Int32) (h : jH) : m_U_tellLawWords F o a1 a2 a3 a4 h = jrun (j_C [(26, c_L_knows F)]) 4 cd_U_tellLawWords (j_T [(77, r_U_tellLawWords_77 (m_U_tellLawWords_77 F))]) 83 0 [some (.ref o), some (.ref a1), some (.int a2), some (.int a3), some (.int a4)] [] h := rfl
theorem hc_U_tellLawWords (F : Nat × Nat) : jCok (1 + 0 * F.2) (j_C [(26, c_L_knows F)]) := jC_ok (List.forall_mem_cons.mpr ⟨(co_L_knows F).up (by omega), fun _ h => absurd h List.not_mem_nil⟩)
theorem g_U_tellLawWords_77 (F : Nat × Nat) : jG M_U_tellLawWords (1 + 0 * F.2) 77 (r_U_tellLawWords_77 (m_U_tellLawWords_77 F)) := (jst_ok ok_U_tellLawWords (hc_U_tellLawWords F) (jrun_ok ok_U_tellLawWords (hc_U_tellLawWords F) (jT_ok (fun _ h => absurd h List.not_mem_nil)) 83) 77).of (fun L S h out e => by unfold r_U_tellLawWords_77 at e; split at e; exact (e_U_tellLawWords_77 F _ _ _ _ _ _ _ _ _).symm.trans e; cases e)
theorem k_U_tellLawWords (F : Nat × Nat) (o : Nat) (a1 : Nat) (a2 : Int32) (a3 : Int32) (a4 : Int32) (h : jH) (r : Option Value) (h1 : jH) (e : m_U_tellLawWords F o a1 a2 a3 a4 h = some (r, h1)) : jM1 (1 + 0 * F.2) 25 [.ref o, .ref a1, .int a2, .int a3, .int a4] h r h1 := jM_of (M := M_U_tellLawWords) mok_U_tellLawWords (by decide +kernel) (by decide +kernel) (Or.inr (Or.inr (Or.inr (Or.inr ⟨rfl, rfl⟩)))) (fun q => nomatch q) (jrun_ok ok_U_tellLawWords (hc_U_tellLawWords F) (jT_ok (List.forall_mem_cons.mpr ⟨g_U_tellLawWords_77 F, fun _ h => absurd h List.not_mem_nil⟩)) 83 0) (List.all_eq_true.mp rfl) (Nat.le_of_ble_eq_true rfl) (fun E => Nat.le_of_ble_eq_true rfl) ((e_U_tellLawWords F o a1 a2 a3 a4 h).symm.trans e)
theorem co_U_tellLawWords (F : Nat × Nat) : jc_ok (1 + 0 * F.2 + 1) 25 (c_U_tellLawWords F) := by
  intro as h k out e
  unfold c_U_tellLawWords at e
  split at e
  · obtain ⟨a0, rfl, e1⟩ := js_rv e
    obtain ⟨a1, rfl, e2⟩ := js_rv e1
    obtain ⟨hg, e3⟩ := js_if e2
    obtain ⟨h1, hm, e4⟩ := js_jbV e3
    exact ⟨_, _, _, Nat.le_refl _, k_U_tellLawWords F _ _ _ _ _ _ _ _ hm, ⟨fun _ => ⟨_, _, rfl, Or.inl ⟨4, by decide, hg, by decide +kernel⟩⟩, fun q => absurd q (by decide +kernel)⟩, e4⟩
  · cases e
def c_Jm_max (F : Nat × Nat) : jc1 := fun args h k => match args with
  | [.int a0, .int a1] => jbI (m_Jm_max F a0 a1 h) fun r h => k (some (.int r)) h
  | _ => none
set_option maxRecDepth 100000 in
theorem e_Jm_max (F : Nat × Nat) (a0 : Int32) (a1 : Int32) (h : jH) : m_Jm_max F a0 a1 h = jrun (j_C []) 0 cd_Jm_max (j_T []) 12 0 [some (.int a0), some (.int a1)] [] h := rfl
theorem hc_Jm_max (F : Nat × Nat) : jCok (0 + 0 * F.2) (j_C []) := jC_ok (fun _ h => absurd h List.not_mem_nil)
theorem k_Jm_max (F : Nat × Nat) (a0 : Int32) (a1 : Int32) (h : jH) (r : Option Value) (h1 : jH) (e : m_Jm_max F a0 a1 h = some (r, h1)) : jM1 (0 + 0 * F.2) 29 [.int a0, .int a1] h r h1 := jM_of (M := M_Jm_max) mok_Jm_max (by decide +kernel) (by decide +kernel) (Or.inl ⟨rfl, rfl⟩) (fun q => nomatch q) (jrun_ok ok_Jm_max (hc_Jm_max F) (jT_ok (fun _ h => absurd h List.not_mem_nil)) 12 0) (List.all_eq_true.mp rfl) (Nat.le_of_ble_eq_true rfl) (fun E => Nat.le_of_ble_eq_true rfl) ((e_Jm_max F a0 a1 h).symm.trans e)
theorem co_Jm_max (F : Nat × Nat) : jc_ok (0 + 0 * F.2 + 1) 29 (c_Jm_max F) := by
  intro as h k out e
  unfold c_Jm_max at e
  split at e
  · obtain ⟨r, h1, hm, e1⟩ := js_jbI e
    exact ⟨_, _, _, Nat.le_refl _, k_Jm_max F _ _ _ _ _ hm, ⟨fun q => absurd q (by decide +kernel), fun q => absurd q (by decide +kernel)⟩, e1⟩
  · cases e
def r_U_combined_153 (g : Int64 → jH → Option jO) : jL → List Value → jH → Option jO := fun L S h => match L, S with
  | [_, _, _, _, _, some (.long v5), some (.float _)], [] => g v5 h
  | _, _ => none
def c_U_combined (F : Nat × Nat) : jc1 := fun args h k => match args with
  | [.int a0, .long a1, .long a2] => jbJ (m_U_combined F a0 a1 a2 h) fun r h => k (some (.long r)) h
  | _ => none
set_option maxRecDepth 100000 in
theorem e_U_combined_153 (F : Nat × Nat) (v5 : Int64) (u1 : Option Value) (u2 : Option Value) (u3 : Option Value) (u4 : Option Value) (u5 : Option Value) (w1 : UInt32) (h : jH) : m_U_combined_153 F v5 h = jst (j_C []) 2 (cd_U_combined 153) [u1, u2, u3, u4, u5, some (.long v5), some (.float w1)] [] h (jrun (j_C []) 2 cd_U_combined (j_T []) 82) := rfl
set_option maxRecDepth 100000 in
theorem e_U_combined (F : Nat × Nat) (a0 : Int32) (a1 : Int64) (a2 : Int64) (h : jH) : m_U_combined F a0 a1 a2 h = jrun (j_C []) 2 cd_U_combined (j_T [(153, r_U_combined_153 (m_U_combined_153 F))]) 82 0 [some (.int a0), some (.long a1), some (.float 0), some (.long a2), some (.float 0), none, none] [] h := rfl
theorem hc_U_combined (F : Nat × Nat) : jCok (0 + 0 * F.2) (j_C []) := jC_ok (fun _ h => absurd h List.not_mem_nil)
theorem g_U_combined_153 (F : Nat × Nat) : jG M_U_combined (0 + 0 * F.2) 153 (r_U_combined_153 (m_U_combined_153 F)) := (jst_ok ok_U_combined (hc_U_combined F) (jrun_ok ok_U_combined (hc_U_combined F) (jT_ok (fun _ h => absurd h List.not_mem_nil)) 82) 153).of (fun L S h out e => by unfold r_U_combined_153 at e; split at e; exact (e_U_combined_153 F _ _ _ _ _ _ _ _).symm.trans e; cases e)
theorem k_U_combined (F : Nat × Nat) (a0 : Int32) (a1 : Int64) (a2 : Int64) (h : jH) (r : Option Value) (h1 : jH) (e : m_U_combined F a0 a1 a2 h = some (r, h1)) : jM1 (0 + 0 * F.2) 30 [.int a0, .long a1, .long a2] h r h1 := jM_of (M := M_U_combined) mok_U_combined (by decide +kernel) (by decide +kernel) (Or.inr (Or.inr (Or.inl ⟨rfl, rfl⟩))) (fun q => nomatch q) (jrun_ok ok_U_combined (hc_U_combined F) (jT_ok (List.forall_mem_cons.mpr ⟨g_U_combined_153 F, fun _ h => absurd h List.not_mem_nil⟩)) 82 0) (List.all_eq_true.mp rfl) (Nat.le_of_ble_eq_true rfl) (fun E => Nat.le_of_ble_eq_true rfl) ((e_U_combined F a0 a1 a2 h).symm.trans e)
theorem co_U_combined (F : Nat × Nat) : jc_ok (0 + 0 * F.2 + 1) 30 (c_U_combined F) := by
  intro as h k out e
  unfold c_U_combined at e
  split at e
  · obtain ⟨r, h1, hm, e1⟩ := js_jbJ e
    exact ⟨_, _, _, Nat.le_refl _, k_U_combined F _ _ _ _ _ _ hm, ⟨fun q => absurd q (by decide +kernel), fun q => absurd q (by decide +kernel)⟩, e1⟩
  · cases e
