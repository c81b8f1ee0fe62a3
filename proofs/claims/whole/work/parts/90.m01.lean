def r_U_worth_157 (g : Nat → Nat → Nat → Int32 → Int32 → Int32 → Int32 → jH → Option jO) : jL → List Value → jH → Option jO := fun L S h => match L, S with
  | [some (.ref v0), some (.ref v1), _, some (.ref v3), some (.int v4), some (.int v5), some (.int v6), some (.int v7), _, _], [] => g v0 v1 v3 v4 v5 v6 v7 h
  | _, _ => none
def r_U_worth_86 (g : Nat → Nat → Nat → Int32 → Int32 → Int32 → Int32 → jH → Option jO) : jL → List Value → jH → Option jO := fun L S h => match L, S with
  | [some (.ref v0), some (.ref v1), _, some (.ref v3), some (.int v4), some (.int v5), some (.int v6), some (.int v7), _, _], [] => g v0 v1 v3 v4 v5 v6 v7 h
  | _, _ => none
def r_U_worth_13 (g : Nat → Nat → Nat → Int32 → Int32 → jH → Option jO) : jL → List Value → jH → Option jO := fun L S h => match L, S with
  | [some (.ref v0), some (.ref v1), _, some (.ref v3), some (.int v4), some (.int v5), _, _, _, _], [] => g v0 v1 v3 v4 v5 h
  | _, _ => none
def c_U_worth (F : Nat × Nat) : jc1 := fun args h k => match args with
  | [w0, w1, .int a2, w3] => j_rv w0 fun a0 => j_rv w1 fun a1 => j_rv w3 fun a3 => if j_k h a0 = 14 then (jbJ (m_U_worth F a0 a1 a2 a3 h) fun r h => k (some (.long r)) h) else none
  | _ => none
set_option maxRecDepth 100000 in
theorem e_U_worth_157 (F : Nat × Nat) (k13 : Nat → Nat → Nat → Int32 → Int32 → jH → Option jO) (v0 : Nat) (v1 : Nat) (v3 : Nat) (v4 : Int32) (v5 : Int32) (v6 : Int32) (v7 : Int32) (u1 : Option Value) (u2 : Option Value) (u3 : Option Value) (h : jH) : m_U_worth_157 F k13 v0 v1 v3 v4 v5 v6 v7 h = jst (j_C [(29, c_Jm_max F), (30, c_U_combined F)]) 2 (cd_U_worth 157) [some (.ref v0), some (.ref v1), u1, some (.ref v3), some (.int v4), some (.int v5), some (.int v6), some (.int v7), u2, u3] [] h (jrun (j_C [(29, c_Jm_max F), (30, c_U_combined F)]) 2 cd_U_worth (j_T [(13, r_U_worth_13 k13)]) 170) := rfl
set_option maxRecDepth 100000 in
theorem e_U_worth_86 (F : Nat × Nat) (k13 : Nat → Nat → Nat → Int32 → Int32 → jH → Option jO) (v0 : Nat) (v1 : Nat) (v3 : Nat) (v4 : Int32) (v5 : Int32) (v6 : Int32) (v7 : Int32) (u1 : Option Value) (u2 : Option Value) (u3 : Option Value) (h : jH) : m_U_worth_86 F k13 v0 v1 v3 v4 v5 v6 v7 h = jst (j_C [(29, c_Jm_max F), (30, c_U_combined F)]) 2 (cd_U_worth 86) [some (.ref v0), some (.ref v1), u1, some (.ref v3), some (.int v4), some (.int v5), some (.int v6), some (.int v7), u2, u3] [] h (jrun (j_C [(29, c_Jm_max F), (30, c_U_combined F)]) 2 cd_U_worth (j_T [(13, r_U_worth_13 k13)]) 170) := rfl
set_option maxRecDepth 100000 in
theorem e_U_worth_13 (F : Nat × Nat) (f : Nat) (v0 : Nat) (v1 : Nat) (v3 : Nat) (v4 : Int32) (v5 : Int32) (u1 : Option Value) (u2 : Option Value) (u3 : Option Value) (u4 : Option Value) (u5 : Option Value) (h : jH) : m_U_worth_13 F (f + 1) v0 v1 v3 v4 v5 h = jst (j_C [(29, c_Jm_max F), (30, c_U_combined F)]) 2 (cd_U_worth 13) [some (.ref v0), some (.ref v1), u1, some (.ref v3), some (.int v4), some (.int v5), u2, u3, u4, u5] [] h (jrun (j_C [(29, c_Jm_max F), (30, c_U_combined F)]) 2 cd_U_worth (j_T [(13, r_U_worth_13 (m_U_worth_13 F f)), (86, r_U_worth_86 (m_U_worth_86 F (m_U_worth_13 F f))), (157, r_U_worth_157 (m_U_worth_157 F (m_U_worth_13 F f)))]) 170) := rfl
set_option maxRecDepth 100000 in
theorem e_U_worth (F : Nat × Nat) (o : Nat) (a1 : Nat) (a2 : Int32) (a3 : Nat) (h : jH) : m_U_worth F o a1 a2 a3 h = jrun (j_C [(29, c_Jm_max F), (30, c_U_combined F)]) 2 cd_U_worth (j_T [(13, r_U_worth_13 (m_U_worth_13 F F.1))]) 170 0 [some (.ref o), some (.ref a1), some (.int a2), some (.ref a3), none, none, none, none, none, none] [] h := rfl
theorem hc_U_worth (F : Nat × Nat) : jCok (1 + 0 * F.2) (j_C [(29, c_Jm_max F), (30, c_U_combined F)]) := jC_ok (List.forall_mem_cons.mpr ⟨(co_Jm_max F).up (by omega), List.forall_mem_cons.mpr ⟨(co_U_combined F).up (by omega), fun _ h => absurd h List.not_mem_nil⟩⟩)
theorem g_U_worth_157 (F : Nat × Nat) (k13 : Nat → Nat → Nat → Int32 → Int32 → jH → Option jO) (hk13 : jG M_U_worth (1 + 0 * F.2) 13 (r_U_worth_13 k13)) : jG M_U_worth (1 + 0 * F.2) 157 (r_U_worth_157 (m_U_worth_157 F k13)) := (jst_ok ok_U_worth (hc_U_worth F) (jrun_ok ok_U_worth (hc_U_worth F) (jT_ok (List.forall_mem_cons.mpr ⟨hk13, fun _ h => absurd h List.not_mem_nil⟩)) 170) 157).of (fun L S h out e => by unfold r_U_worth_157 at e; split at e; exact (e_U_worth_157 F k13 _ _ _ _ _ _ _ _ _ _ _).symm.trans e; cases e)
theorem g_U_worth_86 (F : Nat × Nat) (k13 : Nat → Nat → Nat → Int32 → Int32 → jH → Option jO) (hk13 : jG M_U_worth (1 + 0 * F.2) 13 (r_U_worth_13 k13)) : jG M_U_worth (1 + 0 * F.2) 86 (r_U_worth_86 (m_U_worth_86 F k13)) := (jst_ok ok_U_worth (hc_U_worth F) (jrun_ok ok_U_worth (hc_U_worth F) (jT_ok (List.forall_mem_cons.mpr ⟨hk13, fun _ h => absurd h List.not_mem_nil⟩)) 170) 86).of (fun L S h out e => by unfold r_U_worth_86 at e; split at e; exact (e_U_worth_86 F k13 _ _ _ _ _ _ _ _ _ _ _).symm.trans e; cases e)
theorem g_U_worth_13 (F : Nat × Nat) : ∀ f, jG M_U_worth (1 + 0 * F.2) 13 (r_U_worth_13 (m_U_worth_13 F f))
  | 0 => jG.no (fun L S h => by unfold r_U_worth_13; split <;> rfl)
  | f + 1 => (jst_ok ok_U_worth (hc_U_worth F) (jrun_ok ok_U_worth (hc_U_worth F) (jT_ok (List.forall_mem_cons.mpr ⟨g_U_worth_13 F f, List.forall_mem_cons.mpr ⟨g_U_worth_86 F _ (g_U_worth_13 F f), List.forall_mem_cons.mpr ⟨g_U_worth_157 F _ (g_U_worth_13 F f), fun _ h => absurd h List.not_mem_nil⟩⟩⟩)) 170) 13).of (fun L S h out e => by unfold r_U_worth_13 at e; split at e; exact (e_U_worth_13 F f _ _ _ _ _ _ _ _ _ _ _).symm.trans e; cases e)
theorem k_U_worth (F : Nat × Nat) (o : Nat) (a1 : Nat) (a2 : Int32) (a3 : Nat) (h : jH) (r : Option Value) (h1 : jH) (e : m_U_worth F o a1 a2 a3 h = some (r, h1)) : jM1 (1 + 0 * F.2) 28 [.ref o, .ref a1, .int a2, .ref a3] h r h1 := jM_of (M := M_U_worth) mok_U_worth (by decide +kernel) (by decide +kernel) (Or.inr (Or.inr (Or.inl ⟨rfl, rfl⟩))) (fun q => nomatch q) (jrun_ok ok_U_worth (hc_U_worth F) (jT_ok (List.forall_mem_cons.mpr ⟨g_U_worth_13 F F.1, fun _ h => absurd h List.not_mem_nil⟩)) 170 0) (List.all_eq_true.mp rfl) (Nat.le_of_ble_eq_true rfl) (fun E => Nat.le_of_ble_eq_true rfl) ((e_U_worth F o a1 a2 a3 h).symm.trans e)
theorem co_U_worth (F : Nat × Nat) : jc_ok (1 + 0 * F.2 + 1) 28 (c_U_worth F) := by
  intro as h k out e
  unfold c_U_worth at e
  split at e
  · obtain ⟨a0, rfl, e1⟩ := js_rv e
    obtain ⟨a1, rfl, e2⟩ := js_rv e1
    obtain ⟨a3, rfl, e3⟩ := js_rv e2
    obtain ⟨hg, e4⟩ := js_if e3
    obtain ⟨r, h1, hm, e5⟩ := js_jbJ e4
    exact ⟨_, _, _, Nat.le_refl _, k_U_worth F _ _ _ _ _ _ _ hm, ⟨fun _ => ⟨_, _, rfl, Or.inl ⟨4, by decide, hg, by decide +kernel⟩⟩, fun q => absurd q (by decide +kernel)⟩, e5⟩
  · cases e
def c_Jm_min (F : Nat × Nat) : jc1 := fun args h k => match args with
  | [.long a0, .long a1] => jbJ (m_Jm_min F a0 a1 h) fun r h => k (some (.long r)) h
  | _ => none
set_option maxRecDepth 100000 in
theorem e_Jm_min (F : Nat × Nat) (a0 : Int64) (a1 : Int64) (h : jH) : m_Jm_min F a0 a1 h = jrun (j_C []) 2 cd_Jm_min (j_T []) 13 0 [some (.long a0), some (.float 0), some (.long a1), some (.float 0)] [] h := rfl
theorem hc_Jm_min (F : Nat × Nat) : jCok (0 + 0 * F.2) (j_C []) := jC_ok (fun _ h => absurd h List.not_mem_nil)
theorem k_Jm_min (F : Nat × Nat) (a0 : Int64) (a1 : Int64) (h : jH) (r : Option Value) (h1 : jH) (e : m_Jm_min F a0 a1 h = some (r, h1)) : jM1 (0 + 0 * F.2) 31 [.long a0, .long a1] h r h1 := jM_of (M := M_Jm_min) mok_Jm_min (by decide +kernel) (by decide +kernel) (Or.inr (Or.inr (Or.inl ⟨rfl, rfl⟩))) (fun q => nomatch q) (jrun_ok ok_Jm_min (hc_Jm_min F) (jT_ok (fun _ h => absurd h List.not_mem_nil)) 13 0) (List.all_eq_true.mp rfl) (Nat.le_of_ble_eq_true rfl) (fun E => Nat.le_of_ble_eq_true rfl) ((e_Jm_min F a0 a1 h).symm.trans e)
theorem co_Jm_min (F : Nat × Nat) : jc_ok (0 + 0 * F.2 + 1) 31 (c_Jm_min F) := by
  intro as h k out e
  unfold c_Jm_min at e
  split at e
  · obtain ⟨r, h1, hm, e1⟩ := js_jbJ e
    exact ⟨_, _, _, Nat.le_refl _, k_Jm_min F _ _ _ _ _ hm, ⟨fun q => absurd q (by decide +kernel), fun q => absurd q (by decide +kernel)⟩, e1⟩
  · cases e
def c_Jm_max_JJ (F : Nat × Nat) : jc1 := fun args h k => match args with
  | [.long a0, .long a1] => jbJ (m_Jm_max_JJ F a0 a1 h) fun r h => k (some (.long r)) h
  | _ => none
set_option maxRecDepth 100000 in
theorem e_Jm_max_JJ (F : Nat × Nat) (a0 : Int64) (a1 : Int64) (h : jH) : m_Jm_max_JJ F a0 a1 h = jrun (j_C []) 2 cd_Jm_max_JJ (j_T []) 13 0 [some (.long a0), some (.float 0), some (.long a1), some (.float 0)] [] h := rfl
theorem hc_Jm_max_JJ (F : Nat × Nat) : jCok (0 + 0 * F.2) (j_C []) := jC_ok (fun _ h => absurd h List.not_mem_nil)
theorem k_Jm_max_JJ (F : Nat × Nat) (a0 : Int64) (a1 : Int64) (h : jH) (r : Option Value) (h1 : jH) (e : m_Jm_max_JJ F a0 a1 h = some (r, h1)) : jM1 (0 + 0 * F.2) 32 [.long a0, .long a1] h r h1 := jM_of (M := M_Jm_max_JJ) mok_Jm_max_JJ (by decide +kernel) (by decide +kernel) (Or.inr (Or.inr (Or.inl ⟨rfl, rfl⟩))) (fun q => nomatch q) (jrun_ok ok_Jm_max_JJ (hc_Jm_max_JJ F) (jT_ok (fun _ h => absurd h List.not_mem_nil)) 13 0) (List.all_eq_true.mp rfl) (Nat.le_of_ble_eq_true rfl) (fun E => Nat.le_of_ble_eq_true rfl) ((e_Jm_max_JJ F a0 a1 h).symm.trans e)
theorem co_Jm_max_JJ (F : Nat × Nat) : jc_ok (0 + 0 * F.2 + 1) 32 (c_Jm_max_JJ F) := by
  intro as h k out e
  unfold c_Jm_max_JJ at e
  split at e
  · obtain ⟨r, h1, hm, e1⟩ := js_jbJ e
    exact ⟨_, _, _, Nat.le_refl _, k_Jm_max_JJ F _ _ _ _ _ hm, ⟨fun q => absurd q (by decide +kernel), fun q => absurd q (by decide +kernel)⟩, e1⟩
  · cases e
def r_U_lastTold_8 (g : Nat → Nat → Int32 → Int32 → Int32 → Int32 → jH → Option jO) : jL → List Value → jH → Option jO := fun L S h => match L, S with
  | [some (.ref v0), some (.ref v1), some (.int v2), some (.int v3), some (.int v4), some (.int v5), _, _], [] => g v0 v1 v2 v3 v4 v5 h
  | _, _ => none
def c_U_lastTold (F : Nat × Nat) : jc1 := fun args h k => match args with
  | [w0, w1, .int a2, .int a3, .int a4] => j_rv w0 fun a0 => j_rv w1 fun a1 => if j_k h a0 = 14 then (jbI (m_U_lastTold F a0 a1 a2 a3 a4 h) fun r h => k (some (.int r)) h) else none
  | _ => none
set_option maxRecDepth 100000 in
theorem e_U_lastTold_8 (F : Nat × Nat) (f : Nat) (v0 : Nat) (v1 : Nat) (v2 : Int32) (v3 : Int32) (v4 : Int32) (v5 : Int32) (u1 : Option Value) (u2 : Option Value) (h : jH) : m_U_lastTold_8 F (f + 1) v0 v1 v2 v3 v4 v5 h = jst (j_C [(28, c_U_worth F), (31, c_Jm_min F), (32, c_Jm_max_JJ F)]) 0 (cd_U_lastTold 8) [some (.ref v0), some (.ref v1), some (.int v2), some (.int v3), some (.int v4), some (.int v5), u1, u2] [] h (jrun (j_C [(28, c_U_worth F), (31, c_Jm_min F), (32, c_Jm_max_JJ F)]) 0 cd_U_lastTold (j_T [(8, r_U_lastTold_8 (m_U_lastTold_8 F f))]) 57) := rfl
set_option maxRecDepth 100000 in
theorem e_U_lastTold (F : Nat × Nat) (o : Nat) (a1 : Nat) (a2 : Int32) (a3 : Int32) (a4 : Int32) (h : jH) : m_U_lastTold F o a1 a2 a3 a4 h = jrun (j_C [(28, c_U_worth F), (31, c_Jm_min F), (32, c_Jm_max_JJ F)]) 0 cd_U_lastTold (j_T [(8, r_U_lastTold_8 (m_U_lastTold_8 F F.1))]) 57 0 [some (.ref o), some (.ref a1), some (.int a2), some (.int a3), some (.int a4), none, none, none] [] h := rfl
theorem hc_U_lastTold (F : Nat × Nat) : jCok (2 + 0 * F.2) (j_C [(28, c_U_worth F), (31, c_Jm_min F), (32, c_Jm_max_JJ F)]) := jC_ok (List.forall_mem_cons.mpr ⟨(co_U_worth F).up (by omega), List.forall_mem_cons.mpr ⟨(co_Jm_min F).up (by omega), List.forall_mem_cons.mpr ⟨(co_Jm_max_JJ F).up (by omega), fun _ h => absurd h List.not_mem_nil⟩⟩⟩)
theorem g_U_lastTold_8 (F : Nat × Nat) : ∀ f, jG M_U_lastTold (2 + 0 * F.2) 8 (r_U_lastTold_8 (m_U_lastTold_8 F f))
  | 0 => jG.no (fun L S h => by unfold r_U_lastTold_8; split <;> rfl)
  | f + 1 => (jst_ok ok_U_lastTold (hc_U_lastTold F) (jrun_ok ok_U_lastTold (hc_U_lastTold F) (jT_ok (List.forall_mem_cons.mpr ⟨g_U_lastTold_8 F f, fun _ h => absurd h List.not_mem_nil⟩)) 57) 8).of (fun L S h out e => by unfold r_U_lastTold_8 at e; split at e; exact (e_U_lastTold_8 F f _ _ _ _ _ _ _ _ _).symm.trans e; cases e)
theorem k_U_lastTold (F : Nat × Nat) (o : Nat) (a1 : Nat) (a2 : Int32) (a3 : Int32) (a4 : Int32) (h : jH) (r : Option Value) (h1 : jH) (e : m_U_lastTold F o a1 a2 a3 a4 h = some (r, h1)) : jM1 (2 + 0 * F.2) 27 [.ref o, .ref a1, .int a2, .int a3, .int a4] h r h1 := jM_of (M := M_U_lastTold) mok_U_lastTold (by decide +kernel) (by decide +kernel) (Or.inl ⟨rfl, rfl⟩) (fun q => nomatch q) (jrun_ok ok_U_lastTold (hc_U_lastTold F) (jT_ok (List.forall_mem_cons.mpr ⟨g_U_lastTold_8 F F.1, fun _ h => absurd h List.not_mem_nil⟩)) 57 0) (List.all_eq_true.mp rfl) (Nat.le_of_ble_eq_true rfl) (fun E => Nat.le_of_ble_eq_true rfl) ((e_U_lastTold F o a1 a2 a3 a4 h).symm.trans e)
theorem co_U_lastTold (F : Nat × Nat) : jc_ok (2 + 0 * F.2 + 1) 27 (c_U_lastTold F) := by
  intro as h k out e
  unfold c_U_lastTold at e
  split at e
  · obtain ⟨a0, rfl, e1⟩ := js_rv e
    obtain ⟨a1, rfl, e2⟩ := js_rv e1
    obtain ⟨hg, e3⟩ := js_if e2
    obtain ⟨r, h1, hm, e4⟩ := js_jbI e3
    exact ⟨_, _, _, Nat.le_refl _, k_U_lastTold F _ _ _ _ _ _ _ _ hm, ⟨fun _ => ⟨_, _, rfl, Or.inl ⟨4, by decide, hg, by decide +kernel⟩⟩, fun q => absurd q (by decide +kernel)⟩, e4⟩
  · cases e
def c_U_sight (F : Nat × Nat) : jc1 := fun args h k => match args with
  | [w0, w1, w2, .int a3, .int a4] => j_rv w0 fun a0 => j_rv w1 fun a1 => cond (j_isr w2) (if j_k h a0 = 14 then (jbI (m_U_sight F a0 a1 w2 a3 a4 h) fun r h => k (some (.int r)) h) else none) none
  | _ => none
set_option maxRecDepth 100000 in
theorem e_U_sight (F : Nat × Nat) (o : Nat) (a1 : Nat) (a2 : Value) (a3 : Int32) (a4 : Int32) (h : jH) : m_U_sight F o a1 a2 a3 a4 h = jrun (j_C [(25, c_U_tellLawWords F), (27, c_U_lastTold F)]) 0 cd_U_sight (j_T []) 22 0 [some (.ref o), some (.ref a1), some a2, some (.int a3), some (.int a4)] [] h := rfl
theorem hc_U_sight (F : Nat × Nat) : jCok (3 + 0 * F.2) (j_C [(25, c_U_tellLawWords F), (27, c_U_lastTold F)]) := jC_ok (List.forall_mem_cons.mpr ⟨(co_U_tellLawWords F).up (by omega), List.forall_mem_cons.mpr ⟨(co_U_lastTold F).up (by omega), fun _ h => absurd h List.not_mem_nil⟩⟩)
theorem k_U_sight (F : Nat × Nat) (o : Nat) (a1 : Nat) (a2 : Value) (a3 : Int32) (a4 : Int32) (hv_a2 : j_isr a2 = true) (h : jH) (r : Option Value) (h1 : jH) (e : m_U_sight F o a1 a2 a3 a4 h = some (r, h1)) : jM1 (3 + 0 * F.2) 24 [.ref o, .ref a1, a2, .int a3, .int a4] h r h1 := by
  cases a2 with
  | null => exact jM_of (M := M_U_sight) mok_U_sight (by decide +kernel) (by decide +kernel) (Or.inl ⟨rfl, rfl⟩) (fun q => nomatch q) (jrun_ok ok_U_sight (hc_U_sight F) (jT_ok (fun _ h => absurd h List.not_mem_nil)) 22 0) (List.all_eq_true.mp rfl) (Nat.le_of_ble_eq_true rfl) (fun E => Nat.le_of_ble_eq_true rfl) ((e_U_sight F o a1 _ a3 a4 h).symm.trans e)
  | ref _ => exact jM_of (M := M_U_sight) mok_U_sight (by decide +kernel) (by decide +kernel) (Or.inl ⟨rfl, rfl⟩) (fun q => nomatch q) (jrun_ok ok_U_sight (hc_U_sight F) (jT_ok (fun _ h => absurd h List.not_mem_nil)) 22 0) (List.all_eq_true.mp rfl) (Nat.le_of_ble_eq_true rfl) (fun E => Nat.le_of_ble_eq_true rfl) ((e_U_sight F o a1 _ a3 a4 h).symm.trans e)
  | _ => cases hv_a2
theorem co_U_sight (F : Nat × Nat) : jc_ok (3 + 0 * F.2 + 1) 24 (c_U_sight F) := by
  intro as h k out e
  unfold c_U_sight at e
  split at e
  · obtain ⟨a0, rfl, e1⟩ := js_rv e
    obtain ⟨a1, rfl, e2⟩ := js_rv e1
    obtain ⟨hv2, e3⟩ := js_cond e2
    obtain ⟨hg, e4⟩ := js_if e3
    obtain ⟨r, h1, hm, e5⟩ := js_jbI e4
    exact ⟨_, _, _, Nat.le_refl _, k_U_sight F _ _ _ _ _ hv2 _ _ _ hm, ⟨fun _ => ⟨_, _, rfl, Or.inl ⟨4, by decide, hg, by decide +kernel⟩⟩, fun q => absurd q (by decide +kernel)⟩, e5⟩
  · cases e
def c_F_of (F : Nat × Nat) : jc1 := fun args h k => match args with
  | [w0, .int a1, .int a2] => j_rv w0 fun a0 => if j_k h a0 = 10 then (jbI (m_F_of F a0 a1 a2 h) fun r h => k (some (.int r)) h) else none
  | _ => none
set_option maxRecDepth 100000 in
theorem e_F_of (F : Nat × Nat) (o : Nat) (a1 : Int32) (a2 : Int32) (h : jH) : m_F_of F o a1 a2 h = jrun (j_C [(19, c_L_hasWalker F), (20, c_Ji_bitCount F), (21, c_L_lawInForce F), (24, c_U_sight F)]) 0 cd_F_of (j_T []) 62 0 [some (.ref o), some (.int a1), some (.int a2)] [] h := rfl
theorem hc_F_of (F : Nat × Nat) : jCok (4 + 0 * F.2) (j_C [(19, c_L_hasWalker F), (20, c_Ji_bitCount F), (21, c_L_lawInForce F), (24, c_U_sight F)]) := jC_ok (List.forall_mem_cons.mpr ⟨(co_L_hasWalker F).up (by omega), List.forall_mem_cons.mpr ⟨(co_Ji_bitCount F).up (by omega), List.forall_mem_cons.mpr ⟨(co_L_lawInForce F).up (by omega), List.forall_mem_cons.mpr ⟨(co_U_sight F).up (by omega), fun _ h => absurd h List.not_mem_nil⟩⟩⟩⟩)
theorem k_F_of (F : Nat × Nat) (o : Nat) (a1 : Int32) (a2 : Int32) (h : jH) (r : Option Value) (h1 : jH) (e : m_F_of F o a1 a2 h = some (r, h1)) : jM1 (4 + 0 * F.2) 18 [.ref o, .int a1, .int a2] h r h1 := jM_of (M := M_F_of) mok_F_of (by decide +kernel) (by decide +kernel) (Or.inl ⟨rfl, rfl⟩) (fun q => nomatch q) (jrun_ok ok_F_of (hc_F_of F) (jT_ok (fun _ h => absurd h List.not_mem_nil)) 62 0) (List.all_eq_true.mp rfl) (Nat.le_of_ble_eq_true rfl) (fun E => Nat.le_of_ble_eq_true rfl) ((e_F_of F o a1 a2 h).symm.trans e)
theorem co_F_of (F : Nat × Nat) : jc_ok (4 + 0 * F.2 + 1) 18 (c_F_of F) := by
  intro as h k out e
  unfold c_F_of at e
  split at e
  · obtain ⟨a0, rfl, e1⟩ := js_rv e
    obtain ⟨hg, e2⟩ := js_if e1
    obtain ⟨r, h1, hm, e3⟩ := js_jbI e2
    exact ⟨_, _, _, Nat.le_refl _, k_F_of F _ _ _ _ _ _ hm, ⟨fun _ => ⟨_, _, rfl, Or.inl ⟨0, by decide, hg, by decide +kernel⟩⟩, fun q => absurd q (by decide +kernel)⟩, e3⟩
  · cases e
def c_L_kindOnSheet (F : Nat × Nat) : jc1 := fun args h k => match args with
  | [w0, .int a1, .int a2] => j_rv w0 fun a0 => if j_k h a0 = 12 then (jbI (m_L_kindOnSheet F a0 a1 a2 h) fun r h => k (some (.int r)) h) else none
  | _ => none
set_option maxRecDepth 100000 in
theorem e_L_kindOnSheet (F : Nat × Nat) (o : Nat) (a1 : Int32) (a2 : Int32) (h : jH) : m_L_kindOnSheet F o a1 a2 h = jrun (j_C [(26, c_L_knows F)]) 0 cd_L_kindOnSheet (j_T []) 24 0 [some (.ref o), some (.int a1), some (.int a2)] [] h := rfl
theorem hc_L_kindOnSheet (F : Nat × Nat) : jCok (1 + 0 * F.2) (j_C [(26, c_L_knows F)]) := jC_ok (List.forall_mem_cons.mpr ⟨(co_L_knows F).up (by omega), fun _ h => absurd h List.not_mem_nil⟩)
theorem k_L_kindOnSheet (F : Nat × Nat) (o : Nat) (a1 : Int32) (a2 : Int32) (h : jH) (r : Option Value) (h1 : jH) (e : m_L_kindOnSheet F o a1 a2 h = some (r, h1)) : jM1 (1 + 0 * F.2) 34 [.ref o, .int a1, .int a2] h r h1 := jM_of (M := M_L_kindOnSheet) mok_L_kindOnSheet (by decide +kernel) (by decide +kernel) (Or.inl ⟨rfl, rfl⟩) (fun q => nomatch q) (jrun_ok ok_L_kindOnSheet (hc_L_kindOnSheet F) (jT_ok (fun _ h => absurd h List.not_mem_nil)) 24 0) (List.all_eq_true.mp rfl) (Nat.le_of_ble_eq_true rfl) (fun E => Nat.le_of_ble_eq_true rfl) ((e_L_kindOnSheet F o a1 a2 h).symm.trans e)
theorem co_L_kindOnSheet (F : Nat × Nat) : jc_ok (1 + 0 * F.2 + 1) 34 (c_L_kindOnSheet F) := by
  intro as h k out e
  unfold c_L_kindOnSheet at e
  split at e
  · obtain ⟨a0, rfl, e1⟩ := js_rv e
    obtain ⟨hg, e2⟩ := js_if e1
    obtain ⟨r, h1, hm, e3⟩ := js_jbI e2
    exact ⟨_, _, _, Nat.le_refl _, k_L_kindOnSheet F _ _ _ _ _ _ hm, ⟨fun _ => ⟨_, _, rfl, Or.inl ⟨2, by decide, hg, by decide +kernel⟩⟩, fun q => absurd q (by decide +kernel)⟩, e3⟩
  · cases e
def c_F_sheet (F : Nat × Nat) : jc1 := fun args h k => match args with
  | [w0, .int a1, .int a2] => j_rv w0 fun a0 => if j_k h a0 = 10 then (jbI (m_F_sheet F a0 a1 a2 h) fun r h => k (some (.int r)) h) else none
  | _ => none
set_option maxRecDepth 100000 in
theorem e_F_sheet (F : Nat × Nat) (o : Nat) (a1 : Int32) (a2 : Int32) (h : jH) : m_F_sheet F o a1 a2 h = jrun (j_C [(9, c_F_isCell F), (19, c_L_hasWalker F), (34, c_L_kindOnSheet F)]) 0 cd_F_sheet (j_T []) 21 0 [some (.ref o), some (.int a1), some (.int a2)] [] h := rfl
theorem hc_F_sheet (F : Nat × Nat) : jCok (2 + 0 * F.2) (j_C [(9, c_F_isCell F), (19, c_L_hasWalker F), (34, c_L_kindOnSheet F)]) := jC_ok (List.forall_mem_cons.mpr ⟨(co_F_isCell F).up (by omega), List.forall_mem_cons.mpr ⟨(co_L_hasWalker F).up (by omega), List.forall_mem_cons.mpr ⟨(co_L_kindOnSheet F).up (by omega), fun _ h => absurd h List.not_mem_nil⟩⟩⟩)
theorem k_F_sheet (F : Nat × Nat) (o : Nat) (a1 : Int32) (a2 : Int32) (h : jH) (r : Option Value) (h1 : jH) (e : m_F_sheet F o a1 a2 h = some (r, h1)) : jM1 (2 + 0 * F.2) 33 [.ref o, .int a1, .int a2] h r h1 := jM_of (M := M_F_sheet) mok_F_sheet (by decide +kernel) (by decide +kernel) (Or.inl ⟨rfl, rfl⟩) (fun q => nomatch q) (jrun_ok ok_F_sheet (hc_F_sheet F) (jT_ok (fun _ h => absurd h List.not_mem_nil)) 21 0) (List.all_eq_true.mp rfl) (Nat.le_of_ble_eq_true rfl) (fun E => Nat.le_of_ble_eq_true rfl) ((e_F_sheet F o a1 a2 h).symm.trans e)
theorem co_F_sheet (F : Nat × Nat) : jc_ok (2 + 0 * F.2 + 1) 33 (c_F_sheet F) := by
  intro as h k out e
  unfold c_F_sheet at e
  split at e
  · obtain ⟨a0, rfl, e1⟩ := js_rv e
    obtain ⟨hg, e2⟩ := js_if e1
    obtain ⟨r, h1, hm, e3⟩ := js_jbI e2
    exact ⟨_, _, _, Nat.le_refl _, k_F_sheet F _ _ _ _ _ _ hm, ⟨fun _ => ⟨_, _, rfl, Or.inl ⟨0, by decide, hg, by decide +kernel⟩⟩, fun q => absurd q (by decide +kernel)⟩, e3⟩
  · cases e
def c_F_isWayAside (F : Nat × Nat) : jc1 := fun args h k => match args with
  | [.int a0] => jbI (m_F_isWayAside F a0 h) fun r h => k (some (.int r)) h
  | _ => none
set_option maxRecDepth 100000 in
theorem e_F_isWayAside (F : Nat × Nat) (a0 : Int32) (h : jH) : m_F_isWayAside F a0 h = jrun (j_C []) 1 cd_F_isWayAside (j_T []) 15 0 [some (.int a0)] [] h := rfl
theorem hc_F_isWayAside (F : Nat × Nat) : jCok (0 + 0 * F.2) (j_C []) := jC_ok (fun _ h => absurd h List.not_mem_nil)
theorem k_F_isWayAside (F : Nat × Nat) (a0 : Int32) (h : jH) (r : Option Value) (h1 : jH) (e : m_F_isWayAside F a0 h = some (r, h1)) : jM1 (0 + 0 * F.2) 36 [.int a0] h r h1 := jM_of (M := M_F_isWayAside) mok_F_isWayAside (by decide +kernel) (by decide +kernel) (Or.inr (Or.inl ⟨rfl, rfl⟩)) (fun q => nomatch q) (jrun_ok ok_F_isWayAside (hc_F_isWayAside F) (jT_ok (fun _ h => absurd h List.not_mem_nil)) 15 0) (List.all_eq_true.mp rfl) (Nat.le_of_ble_eq_true rfl) (fun E => Nat.le_of_ble_eq_true rfl) ((e_F_isWayAside F a0 h).symm.trans e)
theorem co_F_isWayAside (F : Nat × Nat) : jc_ok (0 + 0 * F.2 + 1) 36 (c_F_isWayAside F) := by
  intro as h k out e
  unfold c_F_isWayAside at e
  split at e
  · obtain ⟨r, h1, hm, e1⟩ := js_jbI e
    exact ⟨_, _, _, Nat.le_refl _, k_F_isWayAside F _ _ _ _ hm, ⟨fun q => absurd q (by decide +kernel), fun q => absurd q (by decide +kernel)⟩, e1⟩
  · cases e
def c_F_neighbour (F : Nat × Nat) : jc1 := fun args h k => match args with
  | [.int a0, .int a1] => jbI (m_F_neighbour F a0 a1 h) fun r h => k (some (.int r)) h
  | _ => none
set_option maxRecDepth 100000 in
theorem e_F_neighbour (F : Nat × Nat) (a0 : Int32) (a1 : Int32) (h : jH) : m_F_neighbour F a0 a1 h = jrun (j_C []) 0 cd_F_neighbour (j_T []) 53 0 [some (.int a0), some (.int a1), none, none] [] h := rfl
theorem hc_F_neighbour (F : Nat × Nat) : jCok (0 + 0 * F.2) (j_C []) := jC_ok (fun _ h => absurd h List.not_mem_nil)
theorem k_F_neighbour (F : Nat × Nat) (a0 : Int32) (a1 : Int32) (h : jH) (r : Option Value) (h1 : jH) (e : m_F_neighbour F a0 a1 h = some (r, h1)) : jM1 (0 + 0 * F.2) 37 [.int a0, .int a1] h r h1 := jM_of (M := M_F_neighbour) mok_F_neighbour (by decide +kernel) (by decide +kernel) (Or.inl ⟨rfl, rfl⟩) (fun q => nomatch q) (jrun_ok ok_F_neighbour (hc_F_neighbour F) (jT_ok (fun _ h => absurd h List.not_mem_nil)) 53 0) (List.all_eq_true.mp rfl) (Nat.le_of_ble_eq_true rfl) (fun E => Nat.le_of_ble_eq_true rfl) ((e_F_neighbour F a0 a1 h).symm.trans e)
theorem co_F_neighbour (F : Nat × Nat) : jc_ok (0 + 0 * F.2 + 1) 37 (c_F_neighbour F) := by
  intro as h k out e
  unfold c_F_neighbour at e
  split at e
  · obtain ⟨r, h1, hm, e1⟩ := js_jbI e
    exact ⟨_, _, _, Nat.le_refl _, k_F_neighbour F _ _ _ _ _ hm, ⟨fun q => absurd q (by decide +kernel), fun q => absurd q (by decide +kernel)⟩, e1⟩
  · cases e
def c_U_cost (F : Nat × Nat) : jc1 := fun args h k => match args with
  | [w0, w1, w2, .int a3, .int a4, .int a5] => j_rv w0 fun a0 => j_rv w1 fun a1 => cond (j_isr w2) (if j_k h a0 = 14 then (jbI (m_U_cost F a0 a1 w2 a3 a4 a5 h) fun r h => k (some (.int r)) h) else none) none
  | _ => none
set_option maxRecDepth 100000 in
theorem e_U_cost (F : Nat × Nat) (o : Nat) (a1 : Nat) (a2 : Value) (a3 : Int32) (a4 : Int32) (a5 : Int32) (h : jH) : m_U_cost F o a1 a2 a3 a4 a5 h = jrun (j_C [(25, c_U_tellLawWords F), (27, c_U_lastTold F)]) 0 cd_U_cost (j_T []) 22 0 [some (.ref o), some (.ref a1), some a2, some (.int a3), some (.int a4), some (.int a5)] [] h := rfl
theorem hc_U_cost (F : Nat × Nat) : jCok (3 + 0 * F.2) (j_C [(25, c_U_tellLawWords F), (27, c_U_lastTold F)]) := jC_ok (List.forall_mem_cons.mpr ⟨(co_U_tellLawWords F).up (by omega), List.forall_mem_cons.mpr ⟨(co_U_lastTold F).up (by omega), fun _ h => absurd h List.not_mem_nil⟩⟩)
theorem k_U_cost (F : Nat × Nat) (o : Nat) (a1 : Nat) (a2 : Value) (a3 : Int32) (a4 : Int32) (a5 : Int32) (hv_a2 : j_isr a2 = true) (h : jH) (r : Option Value) (h1 : jH) (e : m_U_cost F o a1 a2 a3 a4 a5 h = some (r, h1)) : jM1 (3 + 0 * F.2) 38 [.ref o, .ref a1, a2, .int a3, .int a4, .int a5] h r h1 := by
  cases a2 with
  | null => exact jM_of (M := M_U_cost) mok_U_cost (by decide +kernel) (by decide +kernel) (Or.inl ⟨rfl, rfl⟩) (fun q => nomatch q) (jrun_ok ok_U_cost (hc_U_cost F) (jT_ok (fun _ h => absurd h List.not_mem_nil)) 22 0) (List.all_eq_true.mp rfl) (Nat.le_of_ble_eq_true rfl) (fun E => Nat.le_of_ble_eq_true rfl) ((e_U_cost F o a1 _ a3 a4 a5 h).symm.trans e)
  | ref _ => exact jM_of (M := M_U_cost) mok_U_cost (by decide +kernel) (by decide +kernel) (Or.inl ⟨rfl, rfl⟩) (fun q => nomatch q) (jrun_ok ok_U_cost (hc_U_cost F) (jT_ok (fun _ h => absurd h List.not_mem_nil)) 22 0) (List.all_eq_true.mp rfl) (Nat.le_of_ble_eq_true rfl) (fun E => Nat.le_of_ble_eq_true rfl) ((e_U_cost F o a1 _ a3 a4 a5 h).symm.trans e)
  | _ => cases hv_a2
theorem co_U_cost (F : Nat × Nat) : jc_ok (3 + 0 * F.2 + 1) 38 (c_U_cost F) := by
  intro as h k out e
  unfold c_U_cost at e
  split at e
  · obtain ⟨a0, rfl, e1⟩ := js_rv e
    obtain ⟨a1, rfl, e2⟩ := js_rv e1
    obtain ⟨hv2, e3⟩ := js_cond e2
    obtain ⟨hg, e4⟩ := js_if e3
    obtain ⟨r, h1, hm, e5⟩ := js_jbI e4
    exact ⟨_, _, _, Nat.le_refl _, k_U_cost F _ _ _ _ _ _ hv2 _ _ _ hm, ⟨fun _ => ⟨_, _, rfl, Or.inl ⟨4, by decide, hg, by decide +kernel⟩⟩, fun q => absurd q (by decide +kernel)⟩, e5⟩
  · cases e
def r_U_bars_19 (g : Nat → Value → Int32 → jH → Option jO) : jL → List Value → jH → Option jO := fun L S h => match L, S with
  | [some (.ref v0), _, some v2, _, _, _, some (.int v6)], [] => g v0 v2 v6 h
  | _, _ => none
def c_U_bars (F : Nat × Nat) : jc1 := fun args h k => match args with
  | [w0, w1, w2, .int a3, .int a4, .int a5] => j_rv w0 fun a0 => j_rv w1 fun a1 => cond (j_isr w2) (if j_k h a0 = 14 then (jbI (m_U_bars F a0 a1 w2 a3 a4 a5 h) fun r h => k (some (.int r)) h) else none) none
  | _ => none
set_option maxRecDepth 100000 in
theorem e_U_bars_19 (F : Nat × Nat) (f : Nat) (v0 : Nat) (v2 : Value) (v6 : Int32) (u1 : Option Value) (u2 : Option Value) (u3 : Option Value) (u4 : Option Value) (h : jH) : m_U_bars_19 F (f + 1) v0 v2 v6 h = jst (j_C [(25, c_U_tellLawWords F), (28, c_U_worth F)]) 1 (cd_U_bars 19) [some (.ref v0), u1, some v2, u2, u3, u4, some (.int v6)] [] h (jrun (j_C [(25, c_U_tellLawWords F), (28, c_U_worth F)]) 1 cd_U_bars (j_T [(19, r_U_bars_19 (m_U_bars_19 F f))]) 45) := rfl
set_option maxRecDepth 100000 in
theorem e_U_bars (F : Nat × Nat) (o : Nat) (a1 : Nat) (a2 : Value) (a3 : Int32) (a4 : Int32) (a5 : Int32) (h : jH) : m_U_bars F o a1 a2 a3 a4 a5 h = jrun (j_C [(25, c_U_tellLawWords F), (28, c_U_worth F)]) 1 cd_U_bars (j_T [(19, r_U_bars_19 (m_U_bars_19 F F.1))]) 45 0 [some (.ref o), some (.ref a1), some a2, some (.int a3), some (.int a4), some (.int a5), none] [] h := rfl
theorem hc_U_bars (F : Nat × Nat) : jCok (2 + 0 * F.2) (j_C [(25, c_U_tellLawWords F), (28, c_U_worth F)]) := jC_ok (List.forall_mem_cons.mpr ⟨(co_U_tellLawWords F).up (by omega), List.forall_mem_cons.mpr ⟨(co_U_worth F).up (by omega), fun _ h => absurd h List.not_mem_nil⟩⟩)
theorem g_U_bars_19 (F : Nat × Nat) : ∀ f, jG M_U_bars (2 + 0 * F.2) 19 (r_U_bars_19 (m_U_bars_19 F f))
  | 0 => jG.no (fun L S h => by unfold r_U_bars_19; split <;> rfl)
  | f + 1 => (jst_ok ok_U_bars (hc_U_bars F) (jrun_ok ok_U_bars (hc_U_bars F) (jT_ok (List.forall_mem_cons.mpr ⟨g_U_bars_19 F f, fun _ h => absurd h List.not_mem_nil⟩)) 45) 19).of (fun L S h out e => by unfold r_U_bars_19 at e; split at e; exact (e_U_bars_19 F f _ _ _ _ _ _ _ _).symm.trans e; cases e)
theorem k_U_bars (F : Nat × Nat) (o : Nat) (a1 : Nat) (a2 : Value) (a3 : Int32) (a4 : Int32) (a5 : Int32) (hv_a2 : j_isr a2 = true) (h : jH) (r : Option Value) (h1 : jH) (e : m_U_bars F o a1 a2 a3 a4 a5 h = some (r, h1)) : jM1 (2 + 0 * F.2) 39 [.ref o, .ref a1, a2, .int a3, .int a4, .int a5] h r h1 := by
  cases a2 with
  | null => exact jM_of (M := M_U_bars) mok_U_bars (by decide +kernel) (by decide +kernel) (Or.inr (Or.inl ⟨rfl, rfl⟩)) (fun q => nomatch q) (jrun_ok ok_U_bars (hc_U_bars F) (jT_ok (List.forall_mem_cons.mpr ⟨g_U_bars_19 F F.1, fun _ h => absurd h List.not_mem_nil⟩)) 45 0) (List.all_eq_true.mp rfl) (Nat.le_of_ble_eq_true rfl) (fun E => Nat.le_of_ble_eq_true rfl) ((e_U_bars F o a1 _ a3 a4 a5 h).symm.trans e)
  | ref _ => exact jM_of (M := M_U_bars) mok_U_bars (by decide +kernel) (by decide +kernel) (Or.inr (Or.inl ⟨rfl, rfl⟩)) (fun q => nomatch q) (jrun_ok ok_U_bars (hc_U_bars F) (jT_ok (List.forall_mem_cons.mpr ⟨g_U_bars_19 F F.1, fun _ h => absurd h List.not_mem_nil⟩)) 45 0) (List.all_eq_true.mp rfl) (Nat.le_of_ble_eq_true rfl) (fun E => Nat.le_of_ble_eq_true rfl) ((e_U_bars F o a1 _ a3 a4 a5 h).symm.trans e)
  | _ => cases hv_a2
theorem co_U_bars (F : Nat × Nat) : jc_ok (2 + 0 * F.2 + 1) 39 (c_U_bars F) := by
  intro as h k out e
  unfold c_U_bars at e
  split at e
  · obtain ⟨a0, rfl, e1⟩ := js_rv e
    obtain ⟨a1, rfl, e2⟩ := js_rv e1
    obtain ⟨hv2, e3⟩ := js_cond e2
    obtain ⟨hg, e4⟩ := js_if e3
    obtain ⟨r, h1, hm, e5⟩ := js_jbI e4
    exact ⟨_, _, _, Nat.le_refl _, k_U_bars F _ _ _ _ _ _ hv2 _ _ _ hm, ⟨fun _ => ⟨_, _, rfl, Or.inl ⟨4, by decide, hg, by decide +kernel⟩⟩, fun q => absurd q (by decide +kernel)⟩, e5⟩
  · cases e
def c_F_asks (F : Nat × Nat) : jc1 := fun args h k => match args with
  | [w0, .int a1, .int a2, .int a3] => j_rv w0 fun a0 => if j_k h a0 = 10 then (jbI (m_F_asks F a0 a1 a2 a3 h) fun r h => k (some (.int r)) h) else none
  | _ => none
set_option maxRecDepth 100000 in
theorem e_F_asks (F : Nat × Nat) (o : Nat) (a1 : Int32) (a2 : Int32) (a3 : Int32) (h : jH) : m_F_asks F o a1 a2 a3 h = jrun (j_C [(19, c_L_hasWalker F), (21, c_L_lawInForce F), (36, c_F_isWayAside F), (37, c_F_neighbour F), (38, c_U_cost F), (39, c_U_bars F)]) 0 cd_F_asks (j_T []) 65 0 [some (.ref o), some (.int a1), some (.int a2), some (.int a3), none, none] [] h := rfl
theorem hc_F_asks (F : Nat × Nat) : jCok (4 + 0 * F.2) (j_C [(19, c_L_hasWalker F), (21, c_L_lawInForce F), (36, c_F_isWayAside F), (37, c_F_neighbour F), (38, c_U_cost F), (39, c_U_bars F)]) := jC_ok (List.forall_mem_cons.mpr ⟨(co_L_hasWalker F).up (by omega), List.forall_mem_cons.mpr ⟨(co_L_lawInForce F).up (by omega), List.forall_mem_cons.mpr ⟨(co_F_isWayAside F).up (by omega), List.forall_mem_cons.mpr ⟨(co_F_neighbour F).up (by omega), List.forall_mem_cons.mpr ⟨(co_U_cost F).up (by omega), List.forall_mem_cons.mpr ⟨(co_U_bars F).up (by omega), fun _ h => absurd h List.not_mem_nil⟩⟩⟩⟩⟩⟩)
theorem k_F_asks (F : Nat × Nat) (o : Nat) (a1 : Int32) (a2 : Int32) (a3 : Int32) (h : jH) (r : Option Value) (h1 : jH) (e : m_F_asks F o a1 a2 a3 h = some (r, h1)) : jM1 (4 + 0 * F.2) 35 [.ref o, .int a1, .int a2, .int a3] h r h1 := jM_of (M := M_F_asks) mok_F_asks (by decide +kernel) (by decide +kernel) (Or.inl ⟨rfl, rfl⟩) (fun q => nomatch q) (jrun_ok ok_F_asks (hc_F_asks F) (jT_ok (fun _ h => absurd h List.not_mem_nil)) 65 0) (List.all_eq_true.mp rfl) (Nat.le_of_ble_eq_true rfl) (fun E => Nat.le_of_ble_eq_true rfl) ((e_F_asks F o a1 a2 a3 h).symm.trans e)
theorem co_F_asks (F : Nat × Nat) : jc_ok (4 + 0 * F.2 + 1) 35 (c_F_asks F) := by
  intro as h k out e
  unfold c_F_asks at e
  split at e
  · obtain ⟨a0, rfl, e1⟩ := js_rv e
    obtain ⟨hg, e2⟩ := js_if e1
    obtain ⟨r, h1, hm, e3⟩ := js_jbI e2
    exact ⟨_, _, _, Nat.le_refl _, k_F_asks F _ _ _ _ _ _ _ hm, ⟨fun _ => ⟨_, _, rfl, Or.inl ⟨0, by decide, hg, by decide +kernel⟩⟩, fun q => absurd q (by decide +kernel)⟩, e3⟩
  · cases e
def c_F_wants (F : Nat × Nat) : jc1 := fun args h k => match args with
  | [w0, .int a1, .int a2] => j_rv w0 fun a0 => if j_k h a0 = 10 then (jbI (m_F_wants F a0 a1 a2 h) fun r h => k (some (.int r)) h) else none
  | _ => none
set_option maxRecDepth 100000 in
theorem e_F_wants (F : Nat × Nat) (o : Nat) (a1 : Int32) (a2 : Int32) (h : jH) : m_F_wants F o a1 a2 h = jrun (j_C [(10, c_F_refuse F), (12, c_F_accept F), (19, c_L_hasWalker F), (20, c_Ji_bitCount F)]) 0 cd_F_wants (j_T []) 42 0 [some (.ref o), some (.int a1), some (.int a2), none] [] h := rfl
theorem hc_F_wants (F : Nat × Nat) : jCok (1 + 0 * F.2) (j_C [(10, c_F_refuse F), (12, c_F_accept F), (19, c_L_hasWalker F), (20, c_Ji_bitCount F)]) := jC_ok (List.forall_mem_cons.mpr ⟨(co_F_refuse F).up (by omega), List.forall_mem_cons.mpr ⟨(co_F_accept F).up (by omega), List.forall_mem_cons.mpr ⟨(co_L_hasWalker F).up (by omega), List.forall_mem_cons.mpr ⟨(co_Ji_bitCount F).up (by omega), fun _ h => absurd h List.not_mem_nil⟩⟩⟩⟩)
theorem k_F_wants (F : Nat × Nat) (o : Nat) (a1 : Int32) (a2 : Int32) (h : jH) (r : Option Value) (h1 : jH) (e : m_F_wants F o a1 a2 h = some (r, h1)) : jM1 (1 + 0 * F.2) 40 [.ref o, .int a1, .int a2] h r h1 := jM_of (M := M_F_wants) mok_F_wants (by decide +kernel) (by decide +kernel) (Or.inl ⟨rfl, rfl⟩) (fun q => nomatch q) (jrun_ok ok_F_wants (hc_F_wants F) (jT_ok (fun _ h => absurd h List.not_mem_nil)) 42 0) (List.all_eq_true.mp rfl) (Nat.le_of_ble_eq_true rfl) (fun E => Nat.le_of_ble_eq_true rfl) ((e_F_wants F o a1 a2 h).symm.trans e)
theorem co_F_wants (F : Nat × Nat) : jc_ok (1 + 0 * F.2 + 1) 40 (c_F_wants F) := by
  intro as h k out e
  unfold c_F_wants at e
  split at e
  · obtain ⟨a0, rfl, e1⟩ := js_rv e
    obtain ⟨hg, e2⟩ := js_if e1
    obtain ⟨r, h1, hm, e3⟩ := js_jbI e2
    exact ⟨_, _, _, Nat.le_refl _, k_F_wants F _ _ _ _ _ _ hm, ⟨fun _ => ⟨_, _, rfl, Or.inl ⟨0, by decide, hg, by decide +kernel⟩⟩, fun q => absurd q (by decide +kernel)⟩, e3⟩
  · cases e
def c_F_terms (F : Nat × Nat) : jc1 := fun args h k => match args with
  | [w0, .int a1, .int a2] => j_rv w0 fun a0 => if j_k h a0 = 10 then (jbI (m_F_terms F a0 a1 a2 h) fun r h => k (some (.int r)) h) else none
  | _ => none
set_option maxRecDepth 100000 in
theorem e_F_terms (F : Nat × Nat) (o : Nat) (a1 : Int32) (a2 : Int32) (h : jH) : m_F_terms F o a1 a2 h = jrun (j_C [(10, c_F_refuse F), (12, c_F_accept F), (17, c_D_clear F)]) 0 cd_F_terms (j_T []) 40 0 [some (.ref o), some (.int a1), some (.int a2), none] [] h := rfl
theorem hc_F_terms (F : Nat × Nat) : jCok (1 + 0 * F.2) (j_C [(10, c_F_refuse F), (12, c_F_accept F), (17, c_D_clear F)]) := jC_ok (List.forall_mem_cons.mpr ⟨(co_F_refuse F).up (by omega), List.forall_mem_cons.mpr ⟨(co_F_accept F).up (by omega), List.forall_mem_cons.mpr ⟨(co_D_clear F).up (by omega), fun _ h => absurd h List.not_mem_nil⟩⟩⟩)
theorem k_F_terms (F : Nat × Nat) (o : Nat) (a1 : Int32) (a2 : Int32) (h : jH) (r : Option Value) (h1 : jH) (e : m_F_terms F o a1 a2 h = some (r, h1)) : jM1 (1 + 0 * F.2) 41 [.ref o, .int a1, .int a2] h r h1 := jM_of (M := M_F_terms) mok_F_terms (by decide +kernel) (by decide +kernel) (Or.inl ⟨rfl, rfl⟩) (fun q => nomatch q) (jrun_ok ok_F_terms (hc_F_terms F) (jT_ok (fun _ h => absurd h List.not_mem_nil)) 40 0) (List.all_eq_true.mp rfl) (Nat.le_of_ble_eq_true rfl) (fun E => Nat.le_of_ble_eq_true rfl) ((e_F_terms F o a1 a2 h).symm.trans e)
theorem co_F_terms (F : Nat × Nat) : jc_ok (1 + 0 * F.2 + 1) 41 (c_F_terms F) := by
  intro as h k out e
  unfold c_F_terms at e
  split at e
  · obtain ⟨a0, rfl, e1⟩ := js_rv e
    obtain ⟨hg, e2⟩ := js_if e1
    obtain ⟨r, h1, hm, e3⟩ := js_jbI e2
    exact ⟨_, _, _, Nat.le_refl _, k_F_terms F _ _ _ _ _ _ hm, ⟨fun _ => ⟨_, _, rfl, Or.inl ⟨0, by decide, hg, by decide +kernel⟩⟩, fun q => absurd q (by decide +kernel)⟩, e3⟩
  · cases e
def r_P_addFour_3 (g : Nat → Int32 → Int32 → jH → Option jO) : jL → List Value → jH → Option jO := fun L S h => match L, S with
  | [some (.ref v0), some (.int v1), some (.int v2)], [] => g v0 v1 v2 h
  | _, _ => none
def c_P_addFour (F : Nat × Nat) : jc1 := fun args h k => match args with
  | [w0, .int a1] => j_rv w0 fun a0 => if j_k h a0 = 13 then (jbV (m_P_addFour F a0 a1 h) fun h => k none h) else none
  | _ => none
set_option maxRecDepth 100000 in
theorem e_P_addFour_3 (F : Nat × Nat) (f : Nat) (v0 : Nat) (v1 : Int32) (v2 : Int32) (h : jH) : m_P_addFour_3 F (f + 1) v0 v1 v2 h = jst (j_C []) 4 (cd_P_addFour 3) [some (.ref v0), some (.int v1), some (.int v2)] [] h (jrun (j_C []) 4 cd_P_addFour (j_T [(3, r_P_addFour_3 (m_P_addFour_3 F f))]) 32) := rfl
set_option maxRecDepth 100000 in
theorem e_P_addFour (F : Nat × Nat) (o : Nat) (a1 : Int32) (h : jH) : m_P_addFour F o a1 h = jrun (j_C []) 4 cd_P_addFour (j_T [(3, r_P_addFour_3 (m_P_addFour_3 F F.1))]) 32 0 [some (.ref o), some (.int a1), none] [] h := rfl
theorem hc_P_addFour (F : Nat × Nat) : jCok (0 + 0 * F.2) (j_C []) := jC_ok (fun _ h => absurd h List.not_mem_nil)
theorem g_P_addFour_3 (F : Nat × Nat) : ∀ f, jG M_P_addFour (0 + 0 * F.2) 3 (r_P_addFour_3 (m_P_addFour_3 F f))
  | 0 => jG.no (fun L S h => by unfold r_P_addFour_3; split <;> rfl)
  | f + 1 => (jst_ok ok_P_addFour (hc_P_addFour F) (jrun_ok ok_P_addFour (hc_P_addFour F) (jT_ok (List.forall_mem_cons.mpr ⟨g_P_addFour_3 F f, fun _ h => absurd h List.not_mem_nil⟩)) 32) 3).of (fun L S h out e => by unfold r_P_addFour_3 at e; split at e; exact (e_P_addFour_3 F f _ _ _ _).symm.trans e; cases e)
theorem k_P_addFour (F : Nat × Nat) (o : Nat) (a1 : Int32) (h : jH) (r : Option Value) (h1 : jH) (e : m_P_addFour F o a1 h = some (r, h1)) : jM1 (0 + 0 * F.2) 43 [.ref o, .int a1] h r h1 := jM_of (M := M_P_addFour) mok_P_addFour (by decide +kernel) (by decide +kernel) (Or.inr (Or.inr (Or.inr (Or.inr ⟨rfl, rfl⟩)))) (fun q => nomatch q) (jrun_ok ok_P_addFour (hc_P_addFour F) (jT_ok (List.forall_mem_cons.mpr ⟨g_P_addFour_3 F F.1, fun _ h => absurd h List.not_mem_nil⟩)) 32 0) (List.all_eq_true.mp rfl) (Nat.le_of_ble_eq_true rfl) (fun E => Nat.le_of_ble_eq_true rfl) ((e_P_addFour F o a1 h).symm.trans e)
theorem co_P_addFour (F : Nat × Nat) : jc_ok (0 + 0 * F.2 + 1) 43 (c_P_addFour F) := by
  intro as h k out e
  unfold c_P_addFour at e
  split at e
  · obtain ⟨a0, rfl, e1⟩ := js_rv e
    obtain ⟨hg, e2⟩ := js_if e1
    obtain ⟨h1, hm, e3⟩ := js_jbV e2
    exact ⟨_, _, _, Nat.le_refl _, k_P_addFour F _ _ _ _ _ hm, ⟨fun _ => ⟨_, _, rfl, Or.inl ⟨3, by decide, hg, by decide +kernel⟩⟩, fun q => absurd q (by decide +kernel)⟩, e3⟩
  · cases e
def c_F_feed (F : Nat × Nat) : jc1 := fun args h k => match args with
  | [w0, .int a1, .int a2, .int a3, .int a4, .int a5] => j_rv w0 fun a0 => if j_k h a0 = 10 then (jbI (m_F_feed F a0 a1 a2 a3 a4 a5 h) fun r h => k (some (.int r)) h) else none
  | _ => none
set_option maxRecDepth 100000 in
theorem e_F_feed (F : Nat × Nat) (o : Nat) (a1 : Int32) (a2 : Int32) (a3 : Int32) (a4 : Int32) (a5 : Int32) (h : jH) : m_F_feed F o a1 a2 a3 a4 a5 h = jrun (j_C [(43, c_P_addFour F)]) 0 cd_F_feed (j_T []) 38 0 [some (.ref o), some (.int a1), some (.int a2), some (.int a3), some (.int a4), some (.int a5)] [] h := rfl
theorem hc_F_feed (F : Nat × Nat) : jCok (1 + 0 * F.2) (j_C [(43, c_P_addFour F)]) := jC_ok (List.forall_mem_cons.mpr ⟨(co_P_addFour F).up (by omega), fun _ h => absurd h List.not_mem_nil⟩)
theorem k_F_feed (F : Nat × Nat) (o : Nat) (a1 : Int32) (a2 : Int32) (a3 : Int32) (a4 : Int32) (a5 : Int32) (h : jH) (r : Option Value) (h1 : jH) (e : m_F_feed F o a1 a2 a3 a4 a5 h = some (r, h1)) : jM1 (1 + 0 * F.2) 42 [.ref o, .int a1, .int a2, .int a3, .int a4, .int a5] h r h1 := jM_of (M := M_F_feed) mok_F_feed (by decide +kernel) (by decide +kernel) (Or.inl ⟨rfl, rfl⟩) (fun q => nomatch q) (jrun_ok ok_F_feed (hc_F_feed F) (jT_ok (fun _ h => absurd h List.not_mem_nil)) 38 0) (List.all_eq_true.mp rfl) (Nat.le_of_ble_eq_true rfl) (fun E => Nat.le_of_ble_eq_true rfl) ((e_F_feed F o a1 a2 a3 a4 a5 h).symm.trans e)
theorem co_F_feed (F : Nat × Nat) : jc_ok (1 + 0 * F.2 + 1) 42 (c_F_feed F) := by
  intro as h k out e
  unfold c_F_feed at e
  split at e
  · obtain ⟨a0, rfl, e1⟩ := js_rv e
    obtain ⟨hg, e2⟩ := js_if e1
    obtain ⟨r, h1, hm, e3⟩ := js_jbI e2
    exact ⟨_, _, _, Nat.le_refl _, k_F_feed F _ _ _ _ _ _ _ _ _ hm, ⟨fun _ => ⟨_, _, rfl, Or.inl ⟨0, by decide, hg, by decide +kernel⟩⟩, fun q => absurd q (by decide +kernel)⟩, e3⟩
  · cases e
def c_F_end (F : Nat × Nat) : jc1 := fun args h k => match args with
  | [w0, .int a1] => j_rv w0 fun a0 => if j_k h a0 = 10 then (jbI (m_F_end F a0 a1 h) fun r h => k (some (.int r)) h) else none
  | _ => none
set_option maxRecDepth 100000 in
theorem e_F_end (F : Nat × Nat) (o : Nat) (a1 : Int32) (h : jH) : m_F_end F o a1 h = jrun (j_C []) 0 cd_F_end (j_T []) 20 0 [some (.ref o), some (.int a1)] [] h := rfl
theorem hc_F_end (F : Nat × Nat) : jCok (0 + 0 * F.2) (j_C []) := jC_ok (fun _ h => absurd h List.not_mem_nil)
theorem k_F_end (F : Nat × Nat) (o : Nat) (a1 : Int32) (h : jH) (r : Option Value) (h1 : jH) (e : m_F_end F o a1 h = some (r, h1)) : jM1 (0 + 0 * F.2) 44 [.ref o, .int a1] h r h1 := jM_of (M := M_F_end) mok_F_end (by decide +kernel) (by decide +kernel) (Or.inl ⟨rfl, rfl⟩) (fun q => nomatch q) (jrun_ok ok_F_end (hc_F_end F) (jT_ok (fun _ h => absurd h List.not_mem_nil)) 20 0) (List.all_eq_true.mp rfl) (Nat.le_of_ble_eq_true rfl) (fun E => Nat.le_of_ble_eq_true rfl) ((e_F_end F o a1 h).symm.trans e)
theorem co_F_end (F : Nat × Nat) : jc_ok (0 + 0 * F.2 + 1) 44 (c_F_end F) := by
  intro as h k out e
  unfold c_F_end at e
  split at e
  · obtain ⟨a0, rfl, e1⟩ := js_rv e
    obtain ⟨hg, e2⟩ := js_if e1
    obtain ⟨r, h1, hm, e3⟩ := js_jbI e2
    exact ⟨_, _, _, Nat.le_refl _, k_F_end F _ _ _ _ _ hm, ⟨fun _ => ⟨_, _, rfl, Or.inl ⟨0, by decide, hg, by decide +kernel⟩⟩, fun q => absurd q (by decide +kernel)⟩, e3⟩
  · cases e
def r_F_row_28 (g : Nat → Int32 → Int32 → Int32 → jH → Option jO) : jL → List Value → jH → Option jO := fun L S h => match L, S with
  | [some (.ref v0), some (.int v1), some (.int v2), some (.int v3)], [] => g v0 v1 v2 v3 h
  | _, _ => none
def c_F_row (F : Nat × Nat) : jc1 := fun args h k => match args with
  | [w0] => j_rv w0 fun a0 => if j_k h a0 = 10 then (jbI (m_F_row F a0 h) fun r h => k (some (.int r)) h) else none
  | _ => none
set_option maxRecDepth 100000 in
theorem e_F_row_28 (F : Nat × Nat) (f : Nat) (v0 : Nat) (v1 : Int32) (v2 : Int32) (v3 : Int32) (h : jH) : m_F_row_28 F (f + 1) v0 v1 v2 v3 h = jst (j_C [(8, c_F_canLie F), (10, c_F_refuse F), (11, c_L_lay F), (12, c_F_accept F)]) 0 (cd_F_row 28) [some (.ref v0), some (.int v1), some (.int v2), some (.int v3)] [] h (jrun (j_C [(8, c_F_canLie F), (10, c_F_refuse F), (11, c_L_lay F), (12, c_F_accept F)]) 0 cd_F_row (j_T [(28, r_F_row_28 (m_F_row_28 F f))]) 91) := rfl
set_option maxRecDepth 100000 in
theorem e_F_row (F : Nat × Nat) (o : Nat) (h : jH) : m_F_row F o h = jrun (j_C [(8, c_F_canLie F), (10, c_F_refuse F), (11, c_L_lay F), (12, c_F_accept F)]) 0 cd_F_row (j_T [(28, r_F_row_28 (m_F_row_28 F F.1))]) 91 0 [some (.ref o), none, none, none] [] h := rfl
theorem hc_F_row (F : Nat × Nat) : jCok (2 + 0 * F.2) (j_C [(8, c_F_canLie F), (10, c_F_refuse F), (11, c_L_lay F), (12, c_F_accept F)]) := jC_ok (List.forall_mem_cons.mpr ⟨(co_F_canLie F).up (by omega), List.forall_mem_cons.mpr ⟨(co_F_refuse F).up (by omega), List.forall_mem_cons.mpr ⟨(co_L_lay F).up (by omega), List.forall_mem_cons.mpr ⟨(co_F_accept F).up (by omega), fun _ h => absurd h List.not_mem_nil⟩⟩⟩⟩)
theorem g_F_row_28 (F : Nat × Nat) : ∀ f, jG M_F_row (2 + 0 * F.2) 28 (r_F_row_28 (m_F_row_28 F f))
  | 0 => jG.no (fun L S h => by unfold r_F_row_28; split <;> rfl)
  | f + 1 => (jst_ok ok_F_row (hc_F_row F) (jrun_ok ok_F_row (hc_F_row F) (jT_ok (List.forall_mem_cons.mpr ⟨g_F_row_28 F f, fun _ h => absurd h List.not_mem_nil⟩)) 91) 28).of (fun L S h out e => by unfold r_F_row_28 at e; split at e; exact (e_F_row_28 F f _ _ _ _ _).symm.trans e; cases e)
theorem k_F_row (F : Nat × Nat) (o : Nat) (h : jH) (r : Option Value) (h1 : jH) (e : m_F_row F o h = some (r, h1)) : jM1 (2 + 0 * F.2) 45 [.ref o] h r h1 := jM_of (M := M_F_row) mok_F_row (by decide +kernel) (by decide +kernel) (Or.inl ⟨rfl, rfl⟩) (fun q => nomatch q) (jrun_ok ok_F_row (hc_F_row F) (jT_ok (List.forall_mem_cons.mpr ⟨g_F_row_28 F F.1, fun _ h => absurd h List.not_mem_nil⟩)) 91 0) (List.all_eq_true.mp rfl) (Nat.le_of_ble_eq_true rfl) (fun E => Nat.le_of_ble_eq_true rfl) ((e_F_row F o h).symm.trans e)
theorem co_F_row (F : Nat × Nat) : jc_ok (2 + 0 * F.2 + 1) 45 (c_F_row F) := by
  intro as h k out e
  unfold c_F_row at e
  split at e
  · obtain ⟨a0, rfl, e1⟩ := js_rv e
    obtain ⟨hg, e2⟩ := js_if e1
    obtain ⟨r, h1, hm, e3⟩ := js_jbI e2
    exact ⟨_, _, _, Nat.le_refl _, k_F_row F _ _ _ _ hm, ⟨fun _ => ⟨_, _, rfl, Or.inl ⟨0, by decide, hg, by decide +kernel⟩⟩, fun q => absurd q (by decide +kernel)⟩, e3⟩
  · cases e
def c_F_blots (F : Nat × Nat) : jc1 := fun args h k => match args with
  | [w0] => j_rv w0 fun a0 => if j_k h a0 = 10 then (jbI (m_F_blots F a0 h) fun r h => k (some (.int r)) h) else none
  | _ => none
set_option maxRecDepth 100000 in
theorem e_F_blots (F : Nat × Nat) (o : Nat) (h : jH) : m_F_blots F o h = jrun (j_C []) 0 cd_F_blots (j_T []) 8 0 [some (.ref o)] [] h := rfl
theorem hc_F_blots (F : Nat × Nat) : jCok (0 + 0 * F.2) (j_C []) := jC_ok (fun _ h => absurd h List.not_mem_nil)
theorem k_F_blots (F : Nat × Nat) (o : Nat) (h : jH) (r : Option Value) (h1 : jH) (e : m_F_blots F o h = some (r, h1)) : jM1 (0 + 0 * F.2) 46 [.ref o] h r h1 := jM_of (M := M_F_blots) mok_F_blots (by decide +kernel) (by decide +kernel) (Or.inl ⟨rfl, rfl⟩) (fun q => nomatch q) (jrun_ok ok_F_blots (hc_F_blots F) (jT_ok (fun _ h => absurd h List.not_mem_nil)) 8 0) (List.all_eq_true.mp rfl) (Nat.le_of_ble_eq_true rfl) (fun E => Nat.le_of_ble_eq_true rfl) ((e_F_blots F o h).symm.trans e)
theorem co_F_blots (F : Nat × Nat) : jc_ok (0 + 0 * F.2 + 1) 46 (c_F_blots F) := by
  intro as h k out e
  unfold c_F_blots at e
  split at e
  · obtain ⟨a0, rfl, e1⟩ := js_rv e
    obtain ⟨hg, e2⟩ := js_if e1
    obtain ⟨r, h1, hm, e3⟩ := js_jbI e2
    exact ⟨_, _, _, Nat.le_refl _, k_F_blots F _ _ _ _ hm, ⟨fun _ => ⟨_, _, rfl, Or.inl ⟨0, by decide, hg, by decide +kernel⟩⟩, fun q => absurd q (by decide +kernel)⟩, e3⟩
  · cases e
def c_P_isLetter (F : Nat × Nat) : jc1 := fun args h k => match args with
  | [.int a0] => jbI (m_P_isLetter F a0 h) fun r h => k (some (.int r)) h
  | _ => none
set_option maxRecDepth 100000 in
theorem e_P_isLetter (F : Nat × Nat) (a0 : Int32) (h : jH) : m_P_isLetter F a0 h = jrun (j_C []) 1 cd_P_isLetter (j_T []) 15 0 [some (.int a0)] [] h := rfl
theorem hc_P_isLetter (F : Nat × Nat) : jCok (0 + 0 * F.2) (j_C []) := jC_ok (fun _ h => absurd h List.not_mem_nil)
theorem k_P_isLetter (F : Nat × Nat) (a0 : Int32) (h : jH) (r : Option Value) (h1 : jH) (e : m_P_isLetter F a0 h = some (r, h1)) : jM1 (0 + 0 * F.2) 50 [.int a0] h r h1 := jM_of (M := M_P_isLetter) mok_P_isLetter (by decide +kernel) (by decide +kernel) (Or.inr (Or.inl ⟨rfl, rfl⟩)) (fun q => nomatch q) (jrun_ok ok_P_isLetter (hc_P_isLetter F) (jT_ok (fun _ h => absurd h List.not_mem_nil)) 15 0) (List.all_eq_true.mp rfl) (Nat.le_of_ble_eq_true rfl) (fun E => Nat.le_of_ble_eq_true rfl) ((e_P_isLetter F a0 h).symm.trans e)
theorem co_P_isLetter (F : Nat × Nat) : jc_ok (0 + 0 * F.2 + 1) 50 (c_P_isLetter F) := by
  intro as h k out e
  unfold c_P_isLetter at e
  split at e
  · obtain ⟨r, h1, hm, e1⟩ := js_jbI e
    exact ⟨_, _, _, Nat.le_refl _, k_P_isLetter F _ _ _ _ hm, ⟨fun q => absurd q (by decide +kernel), fun q => absurd q (by decide +kernel)⟩, e1⟩
  · cases e
def r_P_stands_3 (g : Nat → Int32 → Int32 → Int32 → Int32 → jH → Option jO) : jL → List Value → jH → Option jO := fun L S h => match L, S with
  | [some (.ref v0), some (.int v1), some (.int v2), some (.int v3), some (.int v4)], [] => g v0 v1 v2 v3 v4 h
  | _, _ => none
def c_P_stands (F : Nat × Nat) : jc1 := fun args h k => match args with
  | [w0, .int a1, .int a2, .int a3] => j_rv w0 fun a0 => if j_k h a0 = 13 then (jbI (m_P_stands F a0 a1 a2 a3 h) fun r h => k (some (.int r)) h) else none
  | _ => none
set_option maxRecDepth 100000 in
theorem e_P_stands_3 (F : Nat × Nat) (f : Nat) (v0 : Nat) (v1 : Int32) (v2 : Int32) (v3 : Int32) (v4 : Int32) (h : jH) : m_P_stands_3 F (f + 1) v0 v1 v2 v3 v4 h = jst (j_C [(53, c_Js_charAt F)]) 1 (cd_P_stands 3) [some (.ref v0), some (.int v1), some (.int v2), some (.int v3), some (.int v4)] [] h (jrun (j_C [(53, c_Js_charAt F)]) 1 cd_P_stands (j_T [(3, r_P_stands_3 (m_P_stands_3 F f))]) 30) := rfl
set_option maxRecDepth 100000 in
theorem e_P_stands (F : Nat × Nat) (o : Nat) (a1 : Int32) (a2 : Int32) (a3 : Int32) (h : jH) : m_P_stands F o a1 a2 a3 h = jrun (j_C [(53, c_Js_charAt F)]) 1 cd_P_stands (j_T [(3, r_P_stands_3 (m_P_stands_3 F F.1))]) 30 0 [some (.ref o), some (.int a1), some (.int a2), some (.int a3), none] [] h := rfl
theorem hc_P_stands (F : Nat × Nat) : jCok (7 + 0 * F.2) (j_C [(53, c_Js_charAt F)]) := jC_ok (List.forall_mem_cons.mpr ⟨(co_Js_charAt F).up (by omega), fun _ h => absurd h List.not_mem_nil⟩)
theorem g_P_stands_3 (F : Nat × Nat) : ∀ f, jG M_P_stands (7 + 0 * F.2) 3 (r_P_stands_3 (m_P_stands_3 F f))
  | 0 => jG.no (fun L S h => by unfold r_P_stands_3; split <;> rfl)
  | f + 1 => (jst_ok ok_P_stands (hc_P_stands F) (jrun_ok ok_P_stands (hc_P_stands F) (jT_ok (List.forall_mem_cons.mpr ⟨g_P_stands_3 F f, fun _ h => absurd h List.not_mem_nil⟩)) 30) 3).of (fun L S h out e => by unfold r_P_stands_3 at e; split at e; exact (e_P_stands_3 F f _ _ _ _ _ _).symm.trans e; cases e)
theorem k_P_stands (F : Nat × Nat) (o : Nat) (a1 : Int32) (a2 : Int32) (a3 : Int32) (h : jH) (r : Option Value) (h1 : jH) (e : m_P_stands F o a1 a2 a3 h = some (r, h1)) : jM1 (7 + 0 * F.2) 54 [.ref o, .int a1, .int a2, .int a3] h r h1 := jM_of (M := M_P_stands) mok_P_stands (by decide +kernel) (by decide +kernel) (Or.inr (Or.inl ⟨rfl, rfl⟩)) (fun q => nomatch q) (jrun_ok ok_P_stands (hc_P_stands F) (jT_ok (List.forall_mem_cons.mpr ⟨g_P_stands_3 F F.1, fun _ h => absurd h List.not_mem_nil⟩)) 30 0) (List.all_eq_true.mp rfl) (Nat.le_of_ble_eq_true rfl) (fun E => Nat.le_of_ble_eq_true rfl) ((e_P_stands F o a1 a2 a3 h).symm.trans e)
theorem co_P_stands (F : Nat × Nat) : jc_ok (7 + 0 * F.2 + 1) 54 (c_P_stands F) := by
  intro as h k out e
  unfold c_P_stands at e
  split at e
  · obtain ⟨a0, rfl, e1⟩ := js_rv e
    obtain ⟨hg, e2⟩ := js_if e1
    obtain ⟨r, h1, hm, e3⟩ := js_jbI e2
    exact ⟨_, _, _, Nat.le_refl _, k_P_stands F _ _ _ _ _ _ _ hm, ⟨fun _ => ⟨_, _, rfl, Or.inl ⟨3, by decide, hg, by decide +kernel⟩⟩, fun q => absurd q (by decide +kernel)⟩, e3⟩
  · cases e
def r_P_wordCode_10 (g : Nat → Int32 → Int32 → Int32 → Int32 → Int32 → jH → Option jO) : jL → List Value → jH → Option jO := fun L S h => match L, S with
  | [some (.ref v0), some (.int v1), some (.int v2), some (.int v3), some (.int v4), some (.int v5)], [] => g v0 v1 v2 v3 v4 v5 h
  | _, _ => none
def c_P_wordCode (F : Nat × Nat) : jc1 := fun args h k => match args with
  | [w0, .int a1, .int a2] => j_rv w0 fun a0 => if j_k h a0 = 13 then (jbI (m_P_wordCode F a0 a1 a2 h) fun r h => k (some (.int r)) h) else none
  | _ => none
set_option maxRecDepth 100000 in
theorem e_P_wordCode_10 (F : Nat × Nat) (f : Nat) (v0 : Nat) (v1 : Int32) (v2 : Int32) (v3 : Int32) (v4 : Int32) (v5 : Int32) (h : jH) : m_P_wordCode_10 F (f + 1) v0 v1 v2 v3 v4 v5 h = jst (j_C [(52, c_Js_length F), (53, c_Js_charAt F), (54, c_P_stands F)]) 0 (cd_P_wordCode 10) [some (.ref v0), some (.int v1), some (.int v2), some (.int v3), some (.int v4), some (.int v5)] [] h (jrun (j_C [(52, c_Js_length F), (53, c_Js_charAt F), (54, c_P_stands F)]) 0 cd_P_wordCode (j_T [(10, r_P_wordCode_10 (m_P_wordCode_10 F f))]) 44) := rfl
set_option maxRecDepth 100000 in
theorem e_P_wordCode (F : Nat × Nat) (o : Nat) (a1 : Int32) (a2 : Int32) (h : jH) : m_P_wordCode F o a1 a2 h = jrun (j_C [(52, c_Js_length F), (53, c_Js_charAt F), (54, c_P_stands F)]) 0 cd_P_wordCode (j_T [(10, r_P_wordCode_10 (m_P_wordCode_10 F F.1))]) 44 0 [some (.ref o), some (.int a1), some (.int a2), none, none, none] [] h := rfl
theorem hc_P_wordCode (F : Nat × Nat) : jCok (8 + 0 * F.2) (j_C [(52, c_Js_length F), (53, c_Js_charAt F), (54, c_P_stands F)]) := jC_ok (List.forall_mem_cons.mpr ⟨(co_Js_length F).up (by omega), List.forall_mem_cons.mpr ⟨(co_Js_charAt F).up (by omega), List.forall_mem_cons.mpr ⟨(co_P_stands F).up (by omega), fun _ h => absurd h List.not_mem_nil⟩⟩⟩)
theorem g_P_wordCode_10 (F : Nat × Nat) : ∀ f, jG M_P_wordCode (8 + 0 * F.2) 10 (r_P_wordCode_10 (m_P_wordCode_10 F f))
  | 0 => jG.no (fun L S h => by unfold r_P_wordCode_10; split <;> rfl)
  | f + 1 => (jst_ok ok_P_wordCode (hc_P_wordCode F) (jrun_ok ok_P_wordCode (hc_P_wordCode F) (jT_ok (List.forall_mem_cons.mpr ⟨g_P_wordCode_10 F f, fun _ h => absurd h List.not_mem_nil⟩)) 44) 10).of (fun L S h out e => by unfold r_P_wordCode_10 at e; split at e; exact (e_P_wordCode_10 F f _ _ _ _ _ _ _).symm.trans e; cases e)
theorem k_P_wordCode (F : Nat × Nat) (o : Nat) (a1 : Int32) (a2 : Int32) (h : jH) (r : Option Value) (h1 : jH) (e : m_P_wordCode F o a1 a2 h = some (r, h1)) : jM1 (8 + 0 * F.2) 51 [.ref o, .int a1, .int a2] h r h1 := jM_of (M := M_P_wordCode) mok_P_wordCode (by decide +kernel) (by decide +kernel) (Or.inl ⟨rfl, rfl⟩) (fun q => nomatch q) (jrun_ok ok_P_wordCode (hc_P_wordCode F) (jT_ok (List.forall_mem_cons.mpr ⟨g_P_wordCode_10 F F.1, fun _ h => absurd h List.not_mem_nil⟩)) 44 0) (List.all_eq_true.mp rfl) (Nat.le_of_ble_eq_true rfl) (fun E => Nat.le_of_ble_eq_true rfl) ((e_P_wordCode F o a1 a2 h).symm.trans e)
theorem co_P_wordCode (F : Nat × Nat) : jc_ok (8 + 0 * F.2 + 1) 51 (c_P_wordCode F) := by
  intro as h k out e
  unfold c_P_wordCode at e
  split at e
  · obtain ⟨a0, rfl, e1⟩ := js_rv e
    obtain ⟨hg, e2⟩ := js_if e1
    obtain ⟨r, h1, hm, e3⟩ := js_jbI e2
    exact ⟨_, _, _, Nat.le_refl _, k_P_wordCode F _ _ _ _ _ _ hm, ⟨fun _ => ⟨_, _, rfl, Or.inl ⟨3, by decide, hg, by decide +kernel⟩⟩, fun q => absurd q (by decide +kernel)⟩, e3⟩
  · cases e
def c_P_putToken (F : Nat × Nat) : jc1 := fun args h k => match args with
  | [w0, .int a1, .int a2, .int a3, .int a4] => j_rv w0 fun a0 => if j_k h a0 = 13 then (jbV (m_P_putToken F a0 a1 a2 a3 a4 h) fun h => k none h) else none
  | _ => none
set_option maxRecDepth 100000 in
theorem e_P_putToken (F : Nat × Nat) (o : Nat) (a1 : Int32) (a2 : Int32) (a3 : Int32) (a4 : Int32) (h : jH) : m_P_putToken F o a1 a2 a3 a4 h = jrun (j_C []) 4 cd_P_putToken (j_T []) 21 0 [some (.ref o), some (.int a1), some (.int a2), some (.int a3), some (.int a4)] [] h := rfl
theorem hc_P_putToken (F : Nat × Nat) : jCok (0 + 0 * F.2) (j_C []) := jC_ok (fun _ h => absurd h List.not_mem_nil)
theorem k_P_putToken (F : Nat × Nat) (o : Nat) (a1 : Int32) (a2 : Int32) (a3 : Int32) (a4 : Int32) (h : jH) (r : Option Value) (h1 : jH) (e : m_P_putToken F o a1 a2 a3 a4 h = some (r, h1)) : jM1 (0 + 0 * F.2) 55 [.ref o, .int a1, .int a2, .int a3, .int a4] h r h1 := jM_of (M := M_P_putToken) mok_P_putToken (by decide +kernel) (by decide +kernel) (Or.inr (Or.inr (Or.inr (Or.inr ⟨rfl, rfl⟩)))) (fun q => nomatch q) (jrun_ok ok_P_putToken (hc_P_putToken F) (jT_ok (fun _ h => absurd h List.not_mem_nil)) 21 0) (List.all_eq_true.mp rfl) (Nat.le_of_ble_eq_true rfl) (fun E => Nat.le_of_ble_eq_true rfl) ((e_P_putToken F o a1 a2 a3 a4 h).symm.trans e)
theorem co_P_putToken (F : Nat × Nat) : jc_ok (0 + 0 * F.2 + 1) 55 (c_P_putToken F) := by
  intro as h k out e
  unfold c_P_putToken at e
  split at e
  · obtain ⟨a0, rfl, e1⟩ := js_rv e
    obtain ⟨hg, e2⟩ := js_if e1
    obtain ⟨h1, hm, e3⟩ := js_jbV e2
    exact ⟨_, _, _, Nat.le_refl _, k_P_putToken F _ _ _ _ _ _ _ _ hm, ⟨fun _ => ⟨_, _, rfl, Or.inl ⟨3, by decide, hg, by decide +kernel⟩⟩, fun q => absurd q (by decide +kernel)⟩, e3⟩
  · cases e
def c_P_isDigit (F : Nat × Nat) : jc1 := fun args h k => match args with
  | [.int a0] => jbI (m_P_isDigit F a0 h) fun r h => k (some (.int r)) h
  | _ => none
set_option maxRecDepth 100000 in
theorem e_P_isDigit (F : Nat × Nat) (a0 : Int32) (h : jH) : m_P_isDigit F a0 h = jrun (j_C []) 1 cd_P_isDigit (j_T []) 15 0 [some (.int a0)] [] h := rfl
theorem hc_P_isDigit (F : Nat × Nat) : jCok (0 + 0 * F.2) (j_C []) := jC_ok (fun _ h => absurd h List.not_mem_nil)
theorem k_P_isDigit (F : Nat × Nat) (a0 : Int32) (h : jH) (r : Option Value) (h1 : jH) (e : m_P_isDigit F a0 h = some (r, h1)) : jM1 (0 + 0 * F.2) 56 [.int a0] h r h1 := jM_of (M := M_P_isDigit) mok_P_isDigit (by decide +kernel) (by decide +kernel) (Or.inr (Or.inl ⟨rfl, rfl⟩)) (fun q => nomatch q) (jrun_ok ok_P_isDigit (hc_P_isDigit F) (jT_ok (fun _ h => absurd h List.not_mem_nil)) 15 0) (List.all_eq_true.mp rfl) (Nat.le_of_ble_eq_true rfl) (fun E => Nat.le_of_ble_eq_true rfl) ((e_P_isDigit F a0 h).symm.trans e)
theorem co_P_isDigit (F : Nat × Nat) : jc_ok (0 + 0 * F.2 + 1) 56 (c_P_isDigit F) := by
  intro as h k out e
  unfold c_P_isDigit at e
  split at e
  · obtain ⟨r, h1, hm, e1⟩ := js_jbI e
    exact ⟨_, _, _, Nat.le_refl _, k_P_isDigit F _ _ _ _ hm, ⟨fun q => absurd q (by decide +kernel), fun q => absurd q (by decide +kernel)⟩, e1⟩
  · cases e
def r_P_numberValue_5 (g : Nat → Int32 → Int32 → Int32 → jH → Option jO) : jL → List Value → jH → Option jO := fun L S h => match L, S with
  | [some (.ref v0), _, some (.int v2), some (.int v3), some (.int v4)], [] => g v0 v2 v3 v4 h
  | _, _ => none
def c_P_numberValue (F : Nat × Nat) : jc1 := fun args h k => match args with
  | [w0, .int a1, .int a2] => j_rv w0 fun a0 => if j_k h a0 = 13 then (jbI (m_P_numberValue F a0 a1 a2 h) fun r h => k (some (.int r)) h) else none
  | _ => none
set_option maxRecDepth 100000 in
theorem e_P_numberValue_5 (F : Nat × Nat) (f : Nat) (v0 : Nat) (v2 : Int32) (v3 : Int32) (v4 : Int32) (u1 : Option Value) (h : jH) : m_P_numberValue_5 F (f + 1) v0 v2 v3 v4 h = jst (j_C []) 0 (cd_P_numberValue 5) [some (.ref v0), u1, some (.int v2), some (.int v3), some (.int v4)] [] h (jrun (j_C []) 0 cd_P_numberValue (j_T [(5, r_P_numberValue_5 (m_P_numberValue_5 F f))]) 30) := rfl
set_option maxRecDepth 100000 in
theorem e_P_numberValue (F : Nat × Nat) (o : Nat) (a1 : Int32) (a2 : Int32) (h : jH) : m_P_numberValue F o a1 a2 h = jrun (j_C []) 0 cd_P_numberValue (j_T [(5, r_P_numberValue_5 (m_P_numberValue_5 F F.1))]) 30 0 [some (.ref o), some (.int a1), some (.int a2), none, none] [] h := rfl
theorem hc_P_numberValue (F : Nat × Nat) : jCok (0 + 0 * F.2) (j_C []) := jC_ok (fun _ h => absurd h List.not_mem_nil)
theorem g_P_numberValue_5 (F : Nat × Nat) : ∀ f, jG M_P_numberValue (0 + 0 * F.2) 5 (r_P_numberValue_5 (m_P_numberValue_5 F f))
  | 0 => jG.no (fun L S h => by unfold r_P_numberValue_5; split <;> rfl)
  | f + 1 => (jst_ok ok_P_numberValue (hc_P_numberValue F) (jrun_ok ok_P_numberValue (hc_P_numberValue F) (jT_ok (List.forall_mem_cons.mpr ⟨g_P_numberValue_5 F f, fun _ h => absurd h List.not_mem_nil⟩)) 30) 5).of (fun L S h out e => by unfold r_P_numberValue_5 at e; split at e; exact (e_P_numberValue_5 F f _ _ _ _ _ _).symm.trans e; cases e)
theorem k_P_numberValue (F : Nat × Nat) (o : Nat) (a1 : Int32) (a2 : Int32) (h : jH) (r : Option Value) (h1 : jH) (e : m_P_numberValue F o a1 a2 h = some (r, h1)) : jM1 (0 + 0 * F.2) 57 [.ref o, .int a1, .int a2] h r h1 := jM_of (M := M_P_numberValue) mok_P_numberValue (by decide +kernel) (by decide +kernel) (Or.inl ⟨rfl, rfl⟩) (fun q => nomatch q) (jrun_ok ok_P_numberValue (hc_P_numberValue F) (jT_ok (List.forall_mem_cons.mpr ⟨g_P_numberValue_5 F F.1, fun _ h => absurd h List.not_mem_nil⟩)) 30 0) (List.all_eq_true.mp rfl) (Nat.le_of_ble_eq_true rfl) (fun E => Nat.le_of_ble_eq_true rfl) ((e_P_numberValue F o a1 a2 h).symm.trans e)
theorem co_P_numberValue (F : Nat × Nat) : jc_ok (0 + 0 * F.2 + 1) 57 (c_P_numberValue F) := by
  intro as h k out e
  unfold c_P_numberValue at e
  split at e
  · obtain ⟨a0, rfl, e1⟩ := js_rv e
    obtain ⟨hg, e2⟩ := js_if e1
    obtain ⟨r, h1, hm, e3⟩ := js_jbI e2
    exact ⟨_, _, _, Nat.le_refl _, k_P_numberValue F _ _ _ _ _ _ hm, ⟨fun _ => ⟨_, _, rfl, Or.inl ⟨3, by decide, hg, by decide +kernel⟩⟩, fun q => absurd q (by decide +kernel)⟩, e3⟩
  · cases e
