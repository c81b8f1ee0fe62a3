def c_M_new (F : Nat × Nat) : jc1 := fun args h k => match args with
  | [w0] => j_rv w0 fun a0 => jbV (m_M_new F a0 h) fun h => k none h
  | _ => none
set_option maxRecDepth 100000 in
theorem e_M_new (F : Nat × Nat) (o : Nat) (h : jH) : m_M_new F o h = jrun (j_C []) 4 cd_M_new (j_T []) 675 0 [some (.ref o)] [] h := rfl
theorem hc_M_new (F : Nat × Nat) : jCok (0 + 0 * F.2) (j_C []) := jC_ok (fun _ h => absurd h List.not_mem_nil)
theorem k_M_new (F : Nat × Nat) (o : Nat) (h : jH) (r : Option Value) (h1 : jH) (e : m_M_new F o h = some (r, h1)) : jM1 (0 + 0 * F.2) 155 [.ref o] h r h1 := jM_of (M := M_M_new) mok_M_new (by decide +kernel) (by decide +kernel) (Or.inr (Or.inr (Or.inr (Or.inr ⟨rfl, rfl⟩)))) (fun _ => by decide +kernel) (jrun_ok ok_M_new (hc_M_new F) (jT_ok (fun _ h => absurd h List.not_mem_nil)) 675 0) (List.all_eq_true.mp rfl) (Nat.le_of_ble_eq_true rfl) (fun E => Nat.le_of_ble_eq_true rfl) ((e_M_new F o h).symm.trans e)
theorem co_M_new (F : Nat × Nat) : jc_ok (0 + 0 * F.2 + 1) 155 (c_M_new F) := by
  intro as h k out e
  unfold c_M_new at e
  split at e
  · obtain ⟨a0, rfl, e1⟩ := js_rv e
    obtain ⟨h1, hm, e2⟩ := js_jbV e1
    exact ⟨_, _, _, Nat.le_refl _, k_M_new F _ _ _ _ hm, ⟨fun q => absurd q (by decide +kernel), fun _ => ⟨_, _, rfl⟩⟩, e2⟩
  · cases e
