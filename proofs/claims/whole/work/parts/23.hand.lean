/-! results of calls -/
theorem js_jbI {o : Option jO} {f : Int32 → jH → Option jO} {out : jO} (e : jbI o f = some out) : ∃ r h, o = some (some (.int r), h) ∧ f r h = some out := by
  unfold jbI at e
  split at e
  · exact ⟨_, _, rfl, e⟩
  · cases e
theorem js_jbJ {o : Option jO} {f : Int64 → jH → Option jO} {out : jO} (e : jbJ o f = some out) : ∃ r h, o = some (some (.long r), h) ∧ f r h = some out := by
  unfold jbJ at e
  split at e
  · exact ⟨_, _, rfl, e⟩
  · cases e
theorem js_jbV {o : Option jO} {f : jH → Option jO} {out : jO} (e : jbV o f = some out) : ∃ h, o = some (none, h) ∧ f h = some out := by
  unfold jbV at e
  split at e
  · exact ⟨_, rfl, e⟩
  · cases e
theorem js_jbR {o : Option jO} {f : Value → jH → Option jO} {out : jO} (e : jbR o f = some out) : ∃ r h, o = some (some r, h) ∧ f r h = some out := by
  unfold jbR at e
  split at e
  · exact ⟨_, _, rfl, (js_cond e).2⟩
  · cases e

theorem k_Js_length (F : Nat × Nat) (o : Nat) (h : jH) (r : Option Value) (h1 : jH) (e : m_Js_length F o h = some (r, h1)) : jM1 (6 + 0 * F.2) 52 [.ref o] h r h1 := sorry
theorem k_Js_charAt (F : Nat × Nat) (o : Nat) (a : Int32) (h : jH) (r : Option Value) (h1 : jH) (e : m_Js_charAt F o a h = some (r, h1)) : jM1 (6 + 0 * F.2) 53 [.ref o, .int a] h r h1 := sorry
def c_Js_length (F : Nat × Nat) : jc1 := fun args h k => match args with
  | [w0] => j_rv w0 fun a0 => if a0 = 3 then (jbI (m_Js_length F a0 h) fun r h => k (some (.int r)) h) else none
  | _ => none
theorem co_Js_length (F : Nat × Nat) : jc_ok (6 + 0 * F.2 + 1) 52 (c_Js_length F) := by
  intro as h k out e
  unfold c_Js_length at e
  split at e
  · obtain ⟨a0, rfl, e1⟩ := js_rv e
    obtain ⟨hg, e2⟩ := js_if e1
    obtain ⟨r, h1, hm, e3⟩ := js_jbI e2
    exact ⟨_, _, _, Nat.le_refl _, k_Js_length F _ _ _ _ hm, ⟨fun _ => ⟨_, _, rfl, Or.inr ⟨hg, by decide +kernel⟩⟩, fun q => absurd q (by decide +kernel)⟩, e3⟩
  · cases e
def c_Js_charAt (F : Nat × Nat) : jc1 := fun args h k => match args with
  | [w0, .int a1] => j_rv w0 fun a0 => if a0 = 3 then (jbI (m_Js_charAt F a0 a1 h) fun r h => k (some (.int r)) h) else none
  | _ => none
theorem co_Js_charAt (F : Nat × Nat) : jc_ok (6 + 0 * F.2 + 1) 53 (c_Js_charAt F) := by
  intro as h k out e
  unfold c_Js_charAt at e
  split at e
  · obtain ⟨a0, rfl, e1⟩ := js_rv e
    obtain ⟨hg, e2⟩ := js_if e1
    obtain ⟨r, h1, hm, e3⟩ := js_jbI e2
    exact ⟨_, _, _, Nat.le_refl _, k_Js_charAt F _ _ _ _ _ hm, ⟨fun _ => ⟨_, _, rfl, Or.inr ⟨hg, by decide +kernel⟩⟩, fun q => absurd q (by decide +kernel)⟩, e3⟩
  · cases e
