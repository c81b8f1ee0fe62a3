def r_M_goesAlong_198 (g : Nat → Int32 → Nat → jH → Option jO) : jL → List Value → jH → Option jO := fun L S h => match L, S with
  | [some (.ref v0), _, _, _, _], [.int s0, .ref s1] => g v0 s0 s1 h
  | _, _ => none
def r_M_goesAlong_84 (g : Nat → Int32 → Int32 → Int32 → jH → Option jO) : jL → List Value → jH → Option jO := fun L S h => match L, S with
  | [some (.ref v0), _, some (.int v2), some (.int v3), some (.int v4)], [] => g v0 v2 v3 v4 h
  | _, _ => none
def r_M_goesAlong_63 (g : Nat → Int32 → Int32 → Int32 → jH → Option jO) : jL → List Value → jH → Option jO := fun L S h => match L, S with
  | [some (.ref v0), _, some (.int v2), some (.int v3), some (.int v4)], [] => g v0 v2 v3 v4 h
  | _, _ => none
def c_M_goesAlong (F : Nat × Nat) : jc1 := fun args h k => match args with
  | [w0, .int a1, .int a2] => j_rv w0 fun a0 => if j_k h a0 = 17 then (jbV (m_M_goesAlong F a0 a1 a2 h) fun h => k none h) else none
  | _ => none
set_option maxRecDepth 100000 in
theorem e_M_goesAlong_198 (F : Nat × Nat) (v0 : Nat) (s0 : Int32) (s1 : Nat) (u1 : Option Value) (u2 : Option Value) (u3 : Option Value) (u4 : Option Value) (h : jH) : m_M_goesAlong_198 F v0 s0 s1 h = jst (j_C [(178, c_M_codeAt F), (179, c_M_sumOf F), (183, c_M_passes0 F), (186, c_M_testOf F)]) 4 (cd_M_goesAlong 198) [some (.ref v0), u1, u2, u3, u4] [.int s0, .ref s1] h (jrun (j_C [(178, c_M_codeAt F), (179, c_M_sumOf F), (183, c_M_passes0 F), (186, c_M_testOf F)]) 4 cd_M_goesAlong (j_T []) 130) := rfl
set_option maxRecDepth 100000 in
theorem e_M_goesAlong_84 (F : Nat × Nat) (k63 : Nat → Int32 → Int32 → Int32 → jH → Option jO) (v0 : Nat) (v2 : Int32) (v3 : Int32) (v4 : Int32) (u1 : Option Value) (h : jH) : m_M_goesAlong_84 F k63 v0 v2 v3 v4 h = jst (j_C [(178, c_M_codeAt F), (179, c_M_sumOf F), (183, c_M_passes0 F), (186, c_M_testOf F)]) 4 (cd_M_goesAlong 84) [some (.ref v0), u1, some (.int v2), some (.int v3), some (.int v4)] [] h (jrun (j_C [(178, c_M_codeAt F), (179, c_M_sumOf F), (183, c_M_passes0 F), (186, c_M_testOf F)]) 4 cd_M_goesAlong (j_T [(63, r_M_goesAlong_63 k63)]) 130) := rfl
set_option maxRecDepth 100000 in
theorem e_M_goesAlong_63 (F : Nat × Nat) (f : Nat) (v0 : Nat) (v2 : Int32) (v3 : Int32) (v4 : Int32) (u1 : Option Value) (h : jH) : m_M_goesAlong_63 F (f + 1) v0 v2 v3 v4 h = jst (j_C [(178, c_M_codeAt F), (179, c_M_sumOf F), (183, c_M_passes0 F), (186, c_M_testOf F)]) 4 (cd_M_goesAlong 63) [some (.ref v0), u1, some (.int v2), some (.int v3), some (.int v4)] [] h (jrun (j_C [(178, c_M_codeAt F), (179, c_M_sumOf F), (183, c_M_passes0 F), (186, c_M_testOf F)]) 4 cd_M_goesAlong (j_T [(84, r_M_goesAlong_84 (m_M_goesAlong_84 F (m_M_goesAlong_63 F f))), (198, r_M_goesAlong_198 (m_M_goesAlong_198 F))]) 130) := rfl
set_option maxRecDepth 100000 in
theorem e_M_goesAlong (F : Nat × Nat) (o : Nat) (a1 : Int32) (a2 : Int32) (h : jH) : m_M_goesAlong F o a1 a2 h = jrun (j_C [(178, c_M_codeAt F), (179, c_M_sumOf F), (183, c_M_passes0 F), (186, c_M_testOf F)]) 4 cd_M_goesAlong (j_T [(63, r_M_goesAlong_63 (m_M_goesAlong_63 F F.1))]) 130 0 [some (.ref o), some (.int a1), some (.int a2), none, none] [] h := rfl
theorem hc_M_goesAlong (F : Nat × Nat) : jCok (5 + 2 * F.2) (j_C [(178, c_M_codeAt F), (179, c_M_sumOf F), (183, c_M_passes0 F), (186, c_M_testOf F)]) := jC_ok (List.forall_mem_cons.mpr ⟨(co_M_codeAt F).up (by omega), List.forall_mem_cons.mpr ⟨(co_M_sumOf F).up (by omega), List.forall_mem_cons.mpr ⟨(co_M_passes0 F).up (by omega), List.forall_mem_cons.mpr ⟨(co_M_testOf F).up (by omega), fun _ h => absurd h List.not_mem_nil⟩⟩⟩⟩)
theorem g_M_goesAlong_198 (F : Nat × Nat) : jG M_M_goesAlong (5 + 2 * F.2) 198 (r_M_goesAlong_198 (m_M_goesAlong_198 F)) := (jst_ok ok_M_goesAlong (hc_M_goesAlong F) (jrun_ok ok_M_goesAlong (hc_M_goesAlong F) (jT_ok (fun _ h => absurd h List.not_mem_nil)) 130) 198).of (fun L S h out e => by unfold r_M_goesAlong_198 at e; split at e; exact (e_M_goesAlong_198 F _ _ _ _ _ _ _ _).symm.trans e; cases e)
theorem g_M_goesAlong_84 (F : Nat × Nat) (k63 : Nat → Int32 → Int32 → Int32 → jH → Option jO) (hk63 : jG M_M_goesAlong (5 + 2 * F.2) 63 (r_M_goesAlong_63 k63)) : jG M_M_goesAlong (5 + 2 * F.2) 84 (r_M_goesAlong_84 (m_M_goesAlong_84 F k63)) := (jst_ok ok_M_goesAlong (hc_M_goesAlong F) (jrun_ok ok_M_goesAlong (hc_M_goesAlong F) (jT_ok (List.forall_mem_cons.mpr ⟨hk63, fun _ h => absurd h List.not_mem_nil⟩)) 130) 84).of (fun L S h out e => by unfold r_M_goesAlong_84 at e; split at e; exact (e_M_goesAlong_84 F k63 _ _ _ _ _ _).symm.trans e; cases e)
theorem g_M_goesAlong_63 (F : Nat × Nat) : ∀ f, jG M_M_goesAlong (5 + 2 * F.2) 63 (r_M_goesAlong_63 (m_M_goesAlong_63 F f))
  | 0 => jG.no (fun L S h => by unfold r_M_goesAlong_63; split <;> rfl)
  | f + 1 => (jst_ok ok_M_goesAlong (hc_M_goesAlong F) (jrun_ok ok_M_goesAlong (hc_M_goesAlong F) (jT_ok (List.forall_mem_cons.mpr ⟨g_M_goesAlong_84 F _ (g_M_goesAlong_63 F f), List.forall_mem_cons.mpr ⟨g_M_goesAlong_198 F, fun _ h => absurd h List.not_mem_nil⟩⟩)) 130) 63).of (fun L S h out e => by unfold r_M_goesAlong_63 at e; split at e; exact (e_M_goesAlong_63 F f _ _ _ _ _ _).symm.trans e; cases e)
theorem k_M_goesAlong (F : Nat × Nat) (o : Nat) (a1 : Int32) (a2 : Int32) (h : jH) (r : Option Value) (h1 : jH) (e : m_M_goesAlong F o a1 a2 h = some (r, h1)) : jM1 (5 + 2 * F.2) 283 [.ref o, .int a1, .int a2] h r h1 := jM_of (M := M_M_goesAlong) mok_M_goesAlong (by decide +kernel) (by decide +kernel) (Or.inr (Or.inr (Or.inr (Or.inr ⟨rfl, rfl⟩)))) (fun q => nomatch q) (jrun_ok ok_M_goesAlong (hc_M_goesAlong F) (jT_ok (List.forall_mem_cons.mpr ⟨g_M_goesAlong_63 F F.1, fun _ h => absurd h List.not_mem_nil⟩)) 130 0) (List.all_eq_true.mp rfl) (Nat.le_of_ble_eq_true rfl) (fun E => Nat.le_of_ble_eq_true rfl) ((e_M_goesAlong F o a1 a2 h).symm.trans e)
theorem co_M_goesAlong (F : Nat × Nat) : jc_ok (5 + 2 * F.2 + 1) 283 (c_M_goesAlong F) := by
  intro as h k out e
  unfold c_M_goesAlong at e
  split at e
  · obtain ⟨a0, rfl, e1⟩ := js_rv e
    obtain ⟨hg, e2⟩ := js_if e1
    obtain ⟨h1, hm, e3⟩ := js_jbV e2
    exact ⟨_, _, _, Nat.le_refl _, k_M_goesAlong F _ _ _ _ _ _ hm, ⟨fun _ => ⟨_, _, rfl, Or.inl ⟨7, by decide, hg, by decide +kernel⟩⟩, fun q => absurd q (by decide +kernel)⟩, e3⟩
  · cases e
def c_M_small (F : Nat × Nat) : jc1 := fun args h k => match args with
  | [.long a0] => jbI (m_M_small F a0 h) fun r h => k (some (.int r)) h
  | _ => none
set_option maxRecDepth 100000 in
theorem e_M_small (F : Nat × Nat) (a0 : Int64) (h : jH) : m_M_small F a0 h = jrun (j_C []) 0 cd_M_small (j_T []) 18 0 [some (.long a0), some (.float 0)] [] h := rfl
theorem hc_M_small (F : Nat × Nat) : jCok (0 + 0 * F.2) (j_C []) := jC_ok (fun _ h => absurd h List.not_mem_nil)
theorem k_M_small (F : Nat × Nat) (a0 : Int64) (h : jH) (r : Option Value) (h1 : jH) (e : m_M_small F a0 h = some (r, h1)) : jM1 (0 + 0 * F.2) 285 [.long a0] h r h1 := jM_of (M := M_M_small) mok_M_small (by decide +kernel) (by decide +kernel) (Or.inl ⟨rfl, rfl⟩) (fun q => nomatch q) (jrun_ok ok_M_small (hc_M_small F) (jT_ok (fun _ h => absurd h List.not_mem_nil)) 18 0) (List.all_eq_true.mp rfl) (Nat.le_of_ble_eq_true rfl) (fun E => Nat.le_of_ble_eq_true rfl) ((e_M_small F a0 h).symm.trans e)
theorem co_M_small (F : Nat × Nat) : jc_ok (0 + 0 * F.2 + 1) 285 (c_M_small F) := by
  intro as h k out e
  unfold c_M_small at e
  split at e
  · obtain ⟨r, h1, hm, e1⟩ := js_jbI e
    exact ⟨_, _, _, Nat.le_refl _, k_M_small F _ _ _ _ hm, ⟨fun q => absurd q (by decide +kernel), fun q => absurd q (by decide +kernel)⟩, e1⟩
  · cases e
def r_M_obeys_79 (g : Nat → Int32 → Int32 → jH → Option jO) : jL → List Value → jH → Option jO := fun L S h => match L, S with
  | [some (.ref v0), some (.int v1), some (.int v2), _], [] => g v0 v1 v2 h
  | _, _ => none
def c_M_obeys (F : Nat × Nat) : jc1 := fun args h k => match args with
  | [w0] => j_rv w0 fun a0 => if j_k h a0 = 17 then (jbI (m_M_obeys F a0 h) fun r h => k (some (.int r)) h) else none
  | _ => none
set_option maxRecDepth 100000 in
theorem e_M_obeys_79 (F : Nat × Nat) (v0 : Nat) (v1 : Int32) (v2 : Int32) (u1 : Option Value) (h : jH) : m_M_obeys_79 F v0 v1 v2 h = jst (j_C [(233, c_M_stepsKept F), (243, c_M_joinsKept F), (246, c_M_smearsKept F), (248, c_M_passesKept F), (285, c_M_small F)]) 0 (cd_M_obeys 79) [some (.ref v0), some (.int v1), some (.int v2), u1] [] h (jrun (j_C [(233, c_M_stepsKept F), (243, c_M_joinsKept F), (246, c_M_smearsKept F), (248, c_M_passesKept F), (285, c_M_small F)]) 0 cd_M_obeys (j_T []) 48) := rfl
set_option maxRecDepth 100000 in
theorem e_M_obeys (F : Nat × Nat) (o : Nat) (h : jH) : m_M_obeys F o h = jrun (j_C [(233, c_M_stepsKept F), (243, c_M_joinsKept F), (246, c_M_smearsKept F), (248, c_M_passesKept F), (285, c_M_small F)]) 0 cd_M_obeys (j_T [(79, r_M_obeys_79 (m_M_obeys_79 F))]) 48 0 [some (.ref o), none, none, none] [] h := rfl
theorem hc_M_obeys (F : Nat × Nat) : jCok (10 + 2 * F.2) (j_C [(233, c_M_stepsKept F), (243, c_M_joinsKept F), (246, c_M_smearsKept F), (248, c_M_passesKept F), (285, c_M_small F)]) := jC_ok (List.forall_mem_cons.mpr ⟨(co_M_stepsKept F).up (by omega), List.forall_mem_cons.mpr ⟨(co_M_joinsKept F).up (by omega), List.forall_mem_cons.mpr ⟨(co_M_smearsKept F).up (by omega), List.forall_mem_cons.mpr ⟨(co_M_passesKept F).up (by omega), List.forall_mem_cons.mpr ⟨(co_M_small F).up (by omega), fun _ h => absurd h List.not_mem_nil⟩⟩⟩⟩⟩)
theorem g_M_obeys_79 (F : Nat × Nat) : jG M_M_obeys (10 + 2 * F.2) 79 (r_M_obeys_79 (m_M_obeys_79 F)) := (jst_ok ok_M_obeys (hc_M_obeys F) (jrun_ok ok_M_obeys (hc_M_obeys F) (jT_ok (fun _ h => absurd h List.not_mem_nil)) 48) 79).of (fun L S h out e => by unfold r_M_obeys_79 at e; split at e; exact (e_M_obeys_79 F _ _ _ _ _).symm.trans e; cases e)
theorem k_M_obeys (F : Nat × Nat) (o : Nat) (h : jH) (r : Option Value) (h1 : jH) (e : m_M_obeys F o h = some (r, h1)) : jM1 (10 + 2 * F.2) 284 [.ref o] h r h1 := jM_of (M := M_M_obeys) mok_M_obeys (by decide +kernel) (by decide +kernel) (Or.inl ⟨rfl, rfl⟩) (fun q => nomatch q) (jrun_ok ok_M_obeys (hc_M_obeys F) (jT_ok (List.forall_mem_cons.mpr ⟨g_M_obeys_79 F, fun _ h => absurd h List.not_mem_nil⟩)) 48 0) (List.all_eq_true.mp rfl) (Nat.le_of_ble_eq_true rfl) (fun E => Nat.le_of_ble_eq_true rfl) ((e_M_obeys F o h).symm.trans e)
theorem co_M_obeys (F : Nat × Nat) : jc_ok (10 + 2 * F.2 + 1) 284 (c_M_obeys F) := by
  intro as h k out e
  unfold c_M_obeys at e
  split at e
  · obtain ⟨a0, rfl, e1⟩ := js_rv e
    obtain ⟨hg, e2⟩ := js_if e1
    obtain ⟨r, h1, hm, e3⟩ := js_jbI e2
    exact ⟨_, _, _, Nat.le_refl _, k_M_obeys F _ _ _ _ hm, ⟨fun _ => ⟨_, _, rfl, Or.inl ⟨7, by decide, hg, by decide +kernel⟩⟩, fun q => absurd q (by decide +kernel)⟩, e3⟩
  · cases e
def r_M_runs_19 (g : Nat → Int32 → Int32 → Int32 → Int32 → jH → Option jO) : jL → List Value → jH → Option jO := fun L S h => match L, S with
  | [some (.ref v0), some (.int v1), some (.int v2), some (.int v3), some (.int v4)], [] => g v0 v1 v2 v3 v4 h
  | _, _ => none
def c_M_runs (F : Nat × Nat) : jc1 := fun args h k => match args with
  | [w0, .int a1] => j_rv w0 fun a0 => if j_k h a0 = 17 then (jbI (m_M_runs F a0 a1 h) fun r h => k (some (.int r)) h) else none
  | _ => none
set_option maxRecDepth 100000 in
theorem e_M_runs_19 (F : Nat × Nat) (f : Nat) (v0 : Nat) (v1 : Int32) (v2 : Int32) (v3 : Int32) (v4 : Int32) (h : jH) : m_M_runs_19 F (f + 1) v0 v1 v2 v3 v4 h = jst (j_C [(283, c_M_goesAlong F), (284, c_M_obeys F)]) 1 (cd_M_runs 19) [some (.ref v0), some (.int v1), some (.int v2), some (.int v3), some (.int v4)] [] h (jrun (j_C [(283, c_M_goesAlong F), (284, c_M_obeys F)]) 1 cd_M_runs (j_T [(19, r_M_runs_19 (m_M_runs_19 F f))]) 49) := rfl
set_option maxRecDepth 100000 in
theorem e_M_runs (F : Nat × Nat) (o : Nat) (a1 : Int32) (h : jH) : m_M_runs F o a1 h = jrun (j_C [(283, c_M_goesAlong F), (284, c_M_obeys F)]) 1 cd_M_runs (j_T [(19, r_M_runs_19 (m_M_runs_19 F F.1))]) 49 0 [some (.ref o), some (.int a1), none, none, none] [] h := rfl
theorem hc_M_runs (F : Nat × Nat) : jCok (11 + 2 * F.2) (j_C [(283, c_M_goesAlong F), (284, c_M_obeys F)]) := jC_ok (List.forall_mem_cons.mpr ⟨(co_M_goesAlong F).up (by omega), List.forall_mem_cons.mpr ⟨(co_M_obeys F).up (by omega), fun _ h => absurd h List.not_mem_nil⟩⟩)
theorem g_M_runs_19 (F : Nat × Nat) : ∀ f, jG M_M_runs (11 + 2 * F.2) 19 (r_M_runs_19 (m_M_runs_19 F f))
  | 0 => jG.no (fun L S h => by unfold r_M_runs_19; split <;> rfl)
  | f + 1 => (jst_ok ok_M_runs (hc_M_runs F) (jrun_ok ok_M_runs (hc_M_runs F) (jT_ok (List.forall_mem_cons.mpr ⟨g_M_runs_19 F f, fun _ h => absurd h List.not_mem_nil⟩)) 49) 19).of (fun L S h out e => by unfold r_M_runs_19 at e; split at e; exact (e_M_runs_19 F f _ _ _ _ _ _).symm.trans e; cases e)
theorem k_M_runs (F : Nat × Nat) (o : Nat) (a1 : Int32) (h : jH) (r : Option Value) (h1 : jH) (e : m_M_runs F o a1 h = some (r, h1)) : jM1 (11 + 2 * F.2) 282 [.ref o, .int a1] h r h1 := jM_of (M := M_M_runs) mok_M_runs (by decide +kernel) (by decide +kernel) (Or.inr (Or.inl ⟨rfl, rfl⟩)) (fun q => nomatch q) (jrun_ok ok_M_runs (hc_M_runs F) (jT_ok (List.forall_mem_cons.mpr ⟨g_M_runs_19 F F.1, fun _ h => absurd h List.not_mem_nil⟩)) 49 0) (List.all_eq_true.mp rfl) (Nat.le_of_ble_eq_true rfl) (fun E => Nat.le_of_ble_eq_true rfl) ((e_M_runs F o a1 h).symm.trans e)
theorem co_M_runs (F : Nat × Nat) : jc_ok (11 + 2 * F.2 + 1) 282 (c_M_runs F) := by
  intro as h k out e
  unfold c_M_runs at e
  split at e
  · obtain ⟨a0, rfl, e1⟩ := js_rv e
    obtain ⟨hg, e2⟩ := js_if e1
    obtain ⟨r, h1, hm, e3⟩ := js_jbI e2
    exact ⟨_, _, _, Nat.le_refl _, k_M_runs F _ _ _ _ _ hm, ⟨fun _ => ⟨_, _, rfl, Or.inl ⟨7, by decide, hg, by decide +kernel⟩⟩, fun q => absurd q (by decide +kernel)⟩, e3⟩
  · cases e
def r_M_takesBack_2 (g : Nat → Int32 → Int32 → jH → Option jO) : jL → List Value → jH → Option jO := fun L S h => match L, S with
  | [some (.ref v0), some (.int v1), some (.int v2)], [] => g v0 v1 v2 h
  | _, _ => none
def c_M_takesBack (F : Nat × Nat) : jc1 := fun args h k => match args with
  | [w0, .int a1] => j_rv w0 fun a0 => if j_k h a0 = 17 then (jbV (m_M_takesBack F a0 a1 h) fun h => k none h) else none
  | _ => none
set_option maxRecDepth 100000 in
theorem e_M_takesBack_2 (F : Nat × Nat) (f : Nat) (v0 : Nat) (v1 : Int32) (v2 : Int32) (h : jH) : m_M_takesBack_2 F (f + 1) v0 v1 v2 h = jst (j_C []) 4 (cd_M_takesBack 2) [some (.ref v0), some (.int v1), some (.int v2)] [] h (jrun (j_C []) 4 cd_M_takesBack (j_T [(2, r_M_takesBack_2 (m_M_takesBack_2 F f))]) 25) := rfl
set_option maxRecDepth 100000 in
theorem e_M_takesBack (F : Nat × Nat) (o : Nat) (a1 : Int32) (h : jH) : m_M_takesBack F o a1 h = jrun (j_C []) 4 cd_M_takesBack (j_T [(2, r_M_takesBack_2 (m_M_takesBack_2 F F.1))]) 25 0 [some (.ref o), some (.int a1), none] [] h := rfl
theorem hc_M_takesBack (F : Nat × Nat) : jCok (0 + 0 * F.2) (j_C []) := jC_ok (fun _ h => absurd h List.not_mem_nil)
theorem g_M_takesBack_2 (F : Nat × Nat) : ∀ f, jG M_M_takesBack (0 + 0 * F.2) 2 (r_M_takesBack_2 (m_M_takesBack_2 F f))
  | 0 => jG.no (fun L S h => by unfold r_M_takesBack_2; split <;> rfl)
  | f + 1 => (jst_ok ok_M_takesBack (hc_M_takesBack F) (jrun_ok ok_M_takesBack (hc_M_takesBack F) (jT_ok (List.forall_mem_cons.mpr ⟨g_M_takesBack_2 F f, fun _ h => absurd h List.not_mem_nil⟩)) 25) 2).of (fun L S h out e => by unfold r_M_takesBack_2 at e; split at e; exact (e_M_takesBack_2 F f _ _ _ _).symm.trans e; cases e)
theorem k_M_takesBack (F : Nat × Nat) (o : Nat) (a1 : Int32) (h : jH) (r : Option Value) (h1 : jH) (e : m_M_takesBack F o a1 h = some (r, h1)) : jM1 (0 + 0 * F.2) 286 [.ref o, .int a1] h r h1 := jM_of (M := M_M_takesBack) mok_M_takesBack (by decide +kernel) (by decide +kernel) (Or.inr (Or.inr (Or.inr (Or.inr ⟨rfl, rfl⟩)))) (fun q => nomatch q) (jrun_ok ok_M_takesBack (hc_M_takesBack F) (jT_ok (List.forall_mem_cons.mpr ⟨g_M_takesBack_2 F F.1, fun _ h => absurd h List.not_mem_nil⟩)) 25 0) (List.all_eq_true.mp rfl) (Nat.le_of_ble_eq_true rfl) (fun E => Nat.le_of_ble_eq_true rfl) ((e_M_takesBack F o a1 h).symm.trans e)
theorem co_M_takesBack (F : Nat × Nat) : jc_ok (0 + 0 * F.2 + 1) 286 (c_M_takesBack F) := by
  intro as h k out e
  unfold c_M_takesBack at e
  split at e
  · obtain ⟨a0, rfl, e1⟩ := js_rv e
    obtain ⟨hg, e2⟩ := js_if e1
    obtain ⟨h1, hm, e3⟩ := js_jbV e2
    exact ⟨_, _, _, Nat.le_refl _, k_M_takesBack F _ _ _ _ _ hm, ⟨fun _ => ⟨_, _, rfl, Or.inl ⟨7, by decide, hg, by decide +kernel⟩⟩, fun q => absurd q (by decide +kernel)⟩, e3⟩
  · cases e
def r_M_orders_123 (g : Nat → Int32 → Int32 → Int32 → jH → Option jO) : jL → List Value → jH → Option jO := fun L S h => match L, S with
  | [some (.ref v0), some (.int v1), _, some (.int v3), some (.int v4)], [] => g v0 v1 v3 v4 h
  | _, _ => none
def r_M_orders_96 (g : Nat → Int32 → Int32 → Int32 → jH → Option jO) : jL → List Value → jH → Option jO := fun L S h => match L, S with
  | [some (.ref v0), some (.int v1), some (.int v2), some (.int v3), _], [] => g v0 v1 v2 v3 h
  | _, _ => none
def r_M_orders_27 (g : Nat → Int32 → jH → Option jO) : jL → List Value → jH → Option jO := fun L S h => match L, S with
  | [some (.ref v0), some (.int v1), _, _, _], [] => g v0 v1 h
  | _, _ => none
def c_M_orders (F : Nat × Nat) : jc1 := fun args h k => match args with
  | [w0] => j_rv w0 fun a0 => if j_k h a0 = 17 then (jbI (m_M_orders F a0 h) fun r h => k (some (.int r)) h) else none
  | _ => none
set_option maxRecDepth 100000 in
theorem e_M_orders_123 (F : Nat × Nat) (f : Nat) (v0 : Nat) (v1 : Int32) (v3 : Int32) (v4 : Int32) (u1 : Option Value) (h : jH) : m_M_orders_123 F (f + 1) v0 v1 v3 v4 h = jst (j_C [(158, c_M_refuses F), (159, c_M_good F), (205, c_M_readsAs F), (227, c_M_lays F), (281, c_M_laysAside F), (282, c_M_runs F), (286, c_M_takesBack F)]) 0 (cd_M_orders 123) [some (.ref v0), some (.int v1), u1, some (.int v3), some (.int v4)] [] h (jrun (j_C [(158, c_M_refuses F), (159, c_M_good F), (205, c_M_readsAs F), (227, c_M_lays F), (281, c_M_laysAside F), (282, c_M_runs F), (286, c_M_takesBack F)]) 0 cd_M_orders (j_T [(123, r_M_orders_123 (m_M_orders_123 F f))]) 103) := rfl
set_option maxRecDepth 100000 in
theorem e_M_orders_96 (F : Nat × Nat) (f : Nat) (v0 : Nat) (v1 : Int32) (v2 : Int32) (v3 : Int32) (u1 : Option Value) (h : jH) : m_M_orders_96 F (f + 1) v0 v1 v2 v3 h = jst (j_C [(158, c_M_refuses F), (159, c_M_good F), (205, c_M_readsAs F), (227, c_M_lays F), (281, c_M_laysAside F), (282, c_M_runs F), (286, c_M_takesBack F)]) 0 (cd_M_orders 96) [some (.ref v0), some (.int v1), some (.int v2), some (.int v3), u1] [] h (jrun (j_C [(158, c_M_refuses F), (159, c_M_good F), (205, c_M_readsAs F), (227, c_M_lays F), (281, c_M_laysAside F), (282, c_M_runs F), (286, c_M_takesBack F)]) 0 cd_M_orders (j_T [(96, r_M_orders_96 (m_M_orders_96 F f)), (123, r_M_orders_123 (m_M_orders_123 F F.1))]) 103) := rfl
set_option maxRecDepth 100000 in
theorem e_M_orders_27 (F : Nat × Nat) (f : Nat) (v0 : Nat) (v1 : Int32) (u1 : Option Value) (u2 : Option Value) (u3 : Option Value) (h : jH) : m_M_orders_27 F (f + 1) v0 v1 h = jst (j_C [(158, c_M_refuses F), (159, c_M_good F), (205, c_M_readsAs F), (227, c_M_lays F), (281, c_M_laysAside F), (282, c_M_runs F), (286, c_M_takesBack F)]) 0 (cd_M_orders 27) [some (.ref v0), some (.int v1), u1, u2, u3] [] h (jrun (j_C [(158, c_M_refuses F), (159, c_M_good F), (205, c_M_readsAs F), (227, c_M_lays F), (281, c_M_laysAside F), (282, c_M_runs F), (286, c_M_takesBack F)]) 0 cd_M_orders (j_T [(27, r_M_orders_27 (m_M_orders_27 F f)), (96, r_M_orders_96 (m_M_orders_96 F F.1))]) 103) := rfl
set_option maxRecDepth 100000 in
theorem e_M_orders (F : Nat × Nat) (o : Nat) (h : jH) : m_M_orders F o h = jrun (j_C [(158, c_M_refuses F), (159, c_M_good F), (205, c_M_readsAs F), (227, c_M_lays F), (281, c_M_laysAside F), (282, c_M_runs F), (286, c_M_takesBack F)]) 0 cd_M_orders (j_T [(27, r_M_orders_27 (m_M_orders_27 F F.1))]) 103 0 [some (.ref o), none, none, none, none] [] h := rfl
theorem hc_M_orders (F : Nat × Nat) : jCok (12 + 2 * F.2) (j_C [(158, c_M_refuses F), (159, c_M_good F), (205, c_M_readsAs F), (227, c_M_lays F), (281, c_M_laysAside F), (282, c_M_runs F), (286, c_M_takesBack F)]) := jC_ok (List.forall_mem_cons.mpr ⟨(co_M_refuses F).up (by omega), List.forall_mem_cons.mpr ⟨(co_M_good F).up (by omega), List.forall_mem_cons.mpr ⟨(co_M_readsAs F).up (by omega), List.forall_mem_cons.mpr ⟨(co_M_lays F).up (by omega), List.forall_mem_cons.mpr ⟨(co_M_laysAside F).up (by omega), List.forall_mem_cons.mpr ⟨(co_M_runs F).up (by omega), List.forall_mem_cons.mpr ⟨(co_M_takesBack F).up (by omega), fun _ h => absurd h List.not_mem_nil⟩⟩⟩⟩⟩⟩⟩)
theorem g_M_orders_123 (F : Nat × Nat) : ∀ f, jG M_M_orders (12 + 2 * F.2) 123 (r_M_orders_123 (m_M_orders_123 F f))
  | 0 => jG.no (fun L S h => by unfold r_M_orders_123; split <;> rfl)
  | f + 1 => (jst_ok ok_M_orders (hc_M_orders F) (jrun_ok ok_M_orders (hc_M_orders F) (jT_ok (List.forall_mem_cons.mpr ⟨g_M_orders_123 F f, fun _ h => absurd h List.not_mem_nil⟩)) 103) 123).of (fun L S h out e => by unfold r_M_orders_123 at e; split at e; exact (e_M_orders_123 F f _ _ _ _ _ _).symm.trans e; cases e)
theorem g_M_orders_96 (F : Nat × Nat) : ∀ f, jG M_M_orders (12 + 2 * F.2) 96 (r_M_orders_96 (m_M_orders_96 F f))
  | 0 => jG.no (fun L S h => by unfold r_M_orders_96; split <;> rfl)
  | f + 1 => (jst_ok ok_M_orders (hc_M_orders F) (jrun_ok ok_M_orders (hc_M_orders F) (jT_ok (List.forall_mem_cons.mpr ⟨g_M_orders_96 F f, List.forall_mem_cons.mpr ⟨g_M_orders_123 F F.1, fun _ h => absurd h List.not_mem_nil⟩⟩)) 103) 96).of (fun L S h out e => by unfold r_M_orders_96 at e; split at e; exact (e_M_orders_96 F f _ _ _ _ _ _).symm.trans e; cases e)
theorem g_M_orders_27 (F : Nat × Nat) : ∀ f, jG M_M_orders (12 + 2 * F.2) 27 (r_M_orders_27 (m_M_orders_27 F f))
  | 0 => jG.no (fun L S h => by unfold r_M_orders_27; split <;> rfl)
  | f + 1 => (jst_ok ok_M_orders (hc_M_orders F) (jrun_ok ok_M_orders (hc_M_orders F) (jT_ok (List.forall_mem_cons.mpr ⟨g_M_orders_27 F f, List.forall_mem_cons.mpr ⟨g_M_orders_96 F F.1, fun _ h => absurd h List.not_mem_nil⟩⟩)) 103) 27).of (fun L S h out e => by unfold r_M_orders_27 at e; split at e; exact (e_M_orders_27 F f _ _ _ _ _ _).symm.trans e; cases e)
theorem k_M_orders (F : Nat × Nat) (o : Nat) (h : jH) (r : Option Value) (h1 : jH) (e : m_M_orders F o h = some (r, h1)) : jM1 (12 + 2 * F.2) 280 [.ref o] h r h1 := jM_of (M := M_M_orders) mok_M_orders (by decide +kernel) (by decide +kernel) (Or.inl ⟨rfl, rfl⟩) (fun q => nomatch q) (jrun_ok ok_M_orders (hc_M_orders F) (jT_ok (List.forall_mem_cons.mpr ⟨g_M_orders_27 F F.1, fun _ h => absurd h List.not_mem_nil⟩)) 103 0) (List.all_eq_true.mp rfl) (Nat.le_of_ble_eq_true rfl) (fun E => Nat.le_of_ble_eq_true rfl) ((e_M_orders F o h).symm.trans e)
theorem co_M_orders (F : Nat × Nat) : jc_ok (12 + 2 * F.2 + 1) 280 (c_M_orders F) := by
  intro as h k out e
  unfold c_M_orders at e
  split at e
  · obtain ⟨a0, rfl, e1⟩ := js_rv e
    obtain ⟨hg, e2⟩ := js_if e1
    obtain ⟨r, h1, hm, e3⟩ := js_jbI e2
    exact ⟨_, _, _, Nat.le_refl _, k_M_orders F _ _ _ _ hm, ⟨fun _ => ⟨_, _, rfl, Or.inl ⟨7, by decide, hg, by decide +kernel⟩⟩, fun q => absurd q (by decide +kernel)⟩, e3⟩
  · cases e
def c_M_draws (F : Nat × Nat) : jc1 := fun args h k => match args with
  | [w0, .int a1] => j_rv w0 fun a0 => if j_k h a0 = 17 then (jbI (m_M_draws F a0 a1 h) fun r h => k (some (.int r)) h) else none
  | _ => none
set_option maxRecDepth 100000 in
theorem e_M_draws (F : Nat × Nat) (o : Nat) (a1 : Int32) (h : jH) : m_M_draws F o a1 h = jrun (j_C []) 0 cd_M_draws (j_T []) 22 0 [some (.ref o), some (.int a1)] [] h := rfl
theorem hc_M_draws (F : Nat × Nat) : jCok (0 + 0 * F.2) (j_C []) := jC_ok (fun _ h => absurd h List.not_mem_nil)
theorem k_M_draws (F : Nat × Nat) (o : Nat) (a1 : Int32) (h : jH) (r : Option Value) (h1 : jH) (e : m_M_draws F o a1 h = some (r, h1)) : jM1 (0 + 0 * F.2) 289 [.ref o, .int a1] h r h1 := jM_of (M := M_M_draws) mok_M_draws (by decide +kernel) (by decide +kernel) (Or.inl ⟨rfl, rfl⟩) (fun q => nomatch q) (jrun_ok ok_M_draws (hc_M_draws F) (jT_ok (fun _ h => absurd h List.not_mem_nil)) 22 0) (List.all_eq_true.mp rfl) (Nat.le_of_ble_eq_true rfl) (fun E => Nat.le_of_ble_eq_true rfl) ((e_M_draws F o a1 h).symm.trans e)
theorem co_M_draws (F : Nat × Nat) : jc_ok (0 + 0 * F.2 + 1) 289 (c_M_draws F) := by
  intro as h k out e
  unfold c_M_draws at e
  split at e
  · obtain ⟨a0, rfl, e1⟩ := js_rv e
    obtain ⟨hg, e2⟩ := js_if e1
    obtain ⟨r, h1, hm, e3⟩ := js_jbI e2
    exact ⟨_, _, _, Nat.le_refl _, k_M_draws F _ _ _ _ _ hm, ⟨fun _ => ⟨_, _, rfl, Or.inl ⟨7, by decide, hg, by decide +kernel⟩⟩, fun q => absurd q (by decide +kernel)⟩, e3⟩
  · cases e
def r_M_minuteIsDrawn_48 (g : Nat → Int32 → Int32 → Int32 → Int32 → jH → Option jO) : jL → List Value → jH → Option jO := fun L S h => match L, S with
  | [some (.ref v0), some (.int v1), _, some (.int v3), some (.int v4), some (.int v5)], [] => g v0 v1 v3 v4 v5 h
  | _, _ => none
def c_M_minuteIsDrawn (F : Nat × Nat) : jc1 := fun args h k => match args with
  | [w0] => j_rv w0 fun a0 => if j_k h a0 = 17 then (jbI (m_M_minuteIsDrawn F a0 h) fun r h => k (some (.int r)) h) else none
  | _ => none
set_option maxRecDepth 100000 in
theorem e_M_minuteIsDrawn_48 (F : Nat × Nat) (f : Nat) (v0 : Nat) (v1 : Int32) (v3 : Int32) (v4 : Int32) (v5 : Int32) (u1 : Option Value) (h : jH) : m_M_minuteIsDrawn_48 F (f + 1) v0 v1 v3 v4 v5 h = jst (j_C [(168, c_M_many F), (169, c_M_spotOf F), (234, c_M_canStep F), (236, c_M_stepNow F), (244, c_M_joinNow F), (289, c_M_draws F)]) 0 (cd_M_minuteIsDrawn 48) [some (.ref v0), some (.int v1), u1, some (.int v3), some (.int v4), some (.int v5)] [] h (jrun (j_C [(168, c_M_many F), (169, c_M_spotOf F), (234, c_M_canStep F), (236, c_M_stepNow F), (244, c_M_joinNow F), (289, c_M_draws F)]) 0 cd_M_minuteIsDrawn (j_T [(48, r_M_minuteIsDrawn_48 (m_M_minuteIsDrawn_48 F f))]) 71) := rfl
set_option maxRecDepth 100000 in
theorem e_M_minuteIsDrawn (F : Nat × Nat) (o : Nat) (h : jH) : m_M_minuteIsDrawn F o h = jrun (j_C [(168, c_M_many F), (169, c_M_spotOf F), (234, c_M_canStep F), (236, c_M_stepNow F), (244, c_M_joinNow F), (289, c_M_draws F)]) 0 cd_M_minuteIsDrawn (j_T [(48, r_M_minuteIsDrawn_48 (m_M_minuteIsDrawn_48 F F.1))]) 71 0 [some (.ref o), none, none, none, none, none] [] h := rfl
theorem hc_M_minuteIsDrawn (F : Nat × Nat) : jCok (9 + 2 * F.2) (j_C [(168, c_M_many F), (169, c_M_spotOf F), (234, c_M_canStep F), (236, c_M_stepNow F), (244, c_M_joinNow F), (289, c_M_draws F)]) := jC_ok (List.forall_mem_cons.mpr ⟨(co_M_many F).up (by omega), List.forall_mem_cons.mpr ⟨(co_M_spotOf F).up (by omega), List.forall_mem_cons.mpr ⟨(co_M_canStep F).up (by omega), List.forall_mem_cons.mpr ⟨(co_M_stepNow F).up (by omega), List.forall_mem_cons.mpr ⟨(co_M_joinNow F).up (by omega), List.forall_mem_cons.mpr ⟨(co_M_draws F).up (by omega), fun _ h => absurd h List.not_mem_nil⟩⟩⟩⟩⟩⟩)
theorem g_M_minuteIsDrawn_48 (F : Nat × Nat) : ∀ f, jG M_M_minuteIsDrawn (9 + 2 * F.2) 48 (r_M_minuteIsDrawn_48 (m_M_minuteIsDrawn_48 F f))
  | 0 => jG.no (fun L S h => by unfold r_M_minuteIsDrawn_48; split <;> rfl)
  | f + 1 => (jst_ok ok_M_minuteIsDrawn (hc_M_minuteIsDrawn F) (jrun_ok ok_M_minuteIsDrawn (hc_M_minuteIsDrawn F) (jT_ok (List.forall_mem_cons.mpr ⟨g_M_minuteIsDrawn_48 F f, fun _ h => absurd h List.not_mem_nil⟩)) 71) 48).of (fun L S h out e => by unfold r_M_minuteIsDrawn_48 at e; split at e; exact (e_M_minuteIsDrawn_48 F f _ _ _ _ _ _ _).symm.trans e; cases e)
theorem k_M_minuteIsDrawn (F : Nat × Nat) (o : Nat) (h : jH) (r : Option Value) (h1 : jH) (e : m_M_minuteIsDrawn F o h = some (r, h1)) : jM1 (9 + 2 * F.2) 288 [.ref o] h r h1 := jM_of (M := M_M_minuteIsDrawn) mok_M_minuteIsDrawn (by decide +kernel) (by decide +kernel) (Or.inl ⟨rfl, rfl⟩) (fun q => nomatch q) (jrun_ok ok_M_minuteIsDrawn (hc_M_minuteIsDrawn F) (jT_ok (List.forall_mem_cons.mpr ⟨g_M_minuteIsDrawn_48 F F.1, fun _ h => absurd h List.not_mem_nil⟩)) 71 0) (List.all_eq_true.mp rfl) (Nat.le_of_ble_eq_true rfl) (fun E => Nat.le_of_ble_eq_true rfl) ((e_M_minuteIsDrawn F o h).symm.trans e)
theorem co_M_minuteIsDrawn (F : Nat × Nat) : jc_ok (9 + 2 * F.2 + 1) 288 (c_M_minuteIsDrawn F) := by
  intro as h k out e
  unfold c_M_minuteIsDrawn at e
  split at e
  · obtain ⟨a0, rfl, e1⟩ := js_rv e
    obtain ⟨hg, e2⟩ := js_if e1
    obtain ⟨r, h1, hm, e3⟩ := js_jbI e2
    exact ⟨_, _, _, Nat.le_refl _, k_M_minuteIsDrawn F _ _ _ _ hm, ⟨fun _ => ⟨_, _, rfl, Or.inl ⟨7, by decide, hg, by decide +kernel⟩⟩, fun q => absurd q (by decide +kernel)⟩, e3⟩
  · cases e
def r_M_days_98 (g : Nat → Int32 → Int32 → jH → Option jO) : jL → List Value → jH → Option jO := fun L S h => match L, S with
  | [some (.ref v0), _, _, some (.int v3), some (.int v4)], [] => g v0 v3 v4 h
  | _, _ => none
def r_M_days_63 (g : Nat → Int32 → Int32 → Int32 → jH → Option jO) : jL → List Value → jH → Option jO := fun L S h => match L, S with
  | [some (.ref v0), _, some (.int v2), some (.int v3), some (.int v4)], [] => g v0 v2 v3 v4 h
  | _, _ => none
def c_M_days (F : Nat × Nat) : jc1 := fun args h k => match args with
  | [w0, .int a1, .int a2] => j_rv w0 fun a0 => if j_k h a0 = 17 then (jbI (m_M_days F a0 a1 a2 h) fun r h => k (some (.int r)) h) else none
  | _ => none
set_option maxRecDepth 100000 in
theorem e_M_days_98 (F : Nat × Nat) (f : Nat) (v0 : Nat) (v3 : Int32) (v4 : Int32) (u1 : Option Value) (u2 : Option Value) (h : jH) : m_M_days_98 F (f + 1) v0 v3 v4 h = jst (j_C [(157, c_M_lies F), (158, c_M_refuses F), (159, c_M_good F), (168, c_M_many F), (281, c_M_laysAside F), (286, c_M_takesBack F), (288, c_M_minuteIsDrawn F)]) 0 (cd_M_days 98) [some (.ref v0), u1, u2, some (.int v3), some (.int v4)] [] h (jrun (j_C [(157, c_M_lies F), (158, c_M_refuses F), (159, c_M_good F), (168, c_M_many F), (281, c_M_laysAside F), (286, c_M_takesBack F), (288, c_M_minuteIsDrawn F)]) 0 cd_M_days (j_T [(98, r_M_days_98 (m_M_days_98 F f))]) 78) := rfl
set_option maxRecDepth 100000 in
theorem e_M_days_63 (F : Nat × Nat) (f : Nat) (v0 : Nat) (v2 : Int32) (v3 : Int32) (v4 : Int32) (u1 : Option Value) (h : jH) : m_M_days_63 F (f + 1) v0 v2 v3 v4 h = jst (j_C [(157, c_M_lies F), (158, c_M_refuses F), (159, c_M_good F), (168, c_M_many F), (281, c_M_laysAside F), (286, c_M_takesBack F), (288, c_M_minuteIsDrawn F)]) 0 (cd_M_days 63) [some (.ref v0), u1, some (.int v2), some (.int v3), some (.int v4)] [] h (jrun (j_C [(157, c_M_lies F), (158, c_M_refuses F), (159, c_M_good F), (168, c_M_many F), (281, c_M_laysAside F), (286, c_M_takesBack F), (288, c_M_minuteIsDrawn F)]) 0 cd_M_days (j_T [(63, r_M_days_63 (m_M_days_63 F f)), (98, r_M_days_98 (m_M_days_98 F F.1))]) 78) := rfl
set_option maxRecDepth 100000 in
theorem e_M_days (F : Nat × Nat) (o : Nat) (a1 : Int32) (a2 : Int32) (h : jH) : m_M_days F o a1 a2 h = jrun (j_C [(157, c_M_lies F), (158, c_M_refuses F), (159, c_M_good F), (168, c_M_many F), (281, c_M_laysAside F), (286, c_M_takesBack F), (288, c_M_minuteIsDrawn F)]) 0 cd_M_days (j_T [(63, r_M_days_63 (m_M_days_63 F F.1))]) 78 0 [some (.ref o), some (.int a1), some (.int a2), none, none] [] h := rfl
theorem hc_M_days (F : Nat × Nat) : jCok (10 + 2 * F.2) (j_C [(157, c_M_lies F), (158, c_M_refuses F), (159, c_M_good F), (168, c_M_many F), (281, c_M_laysAside F), (286, c_M_takesBack F), (288, c_M_minuteIsDrawn F)]) := jC_ok (List.forall_mem_cons.mpr ⟨(co_M_lies F).up (by omega), List.forall_mem_cons.mpr ⟨(co_M_refuses F).up (by omega), List.forall_mem_cons.mpr ⟨(co_M_good F).up (by omega), List.forall_mem_cons.mpr ⟨(co_M_many F).up (by omega), List.forall_mem_cons.mpr ⟨(co_M_laysAside F).up (by omega), List.forall_mem_cons.mpr ⟨(co_M_takesBack F).up (by omega), List.forall_mem_cons.mpr ⟨(co_M_minuteIsDrawn F).up (by omega), fun _ h => absurd h List.not_mem_nil⟩⟩⟩⟩⟩⟩⟩)
theorem g_M_days_98 (F : Nat × Nat) : ∀ f, jG M_M_days (10 + 2 * F.2) 98 (r_M_days_98 (m_M_days_98 F f))
  | 0 => jG.no (fun L S h => by unfold r_M_days_98; split <;> rfl)
  | f + 1 => (jst_ok ok_M_days (hc_M_days F) (jrun_ok ok_M_days (hc_M_days F) (jT_ok (List.forall_mem_cons.mpr ⟨g_M_days_98 F f, fun _ h => absurd h List.not_mem_nil⟩)) 78) 98).of (fun L S h out e => by unfold r_M_days_98 at e; split at e; exact (e_M_days_98 F f _ _ _ _ _ _).symm.trans e; cases e)
theorem g_M_days_63 (F : Nat × Nat) : ∀ f, jG M_M_days (10 + 2 * F.2) 63 (r_M_days_63 (m_M_days_63 F f))
  | 0 => jG.no (fun L S h => by unfold r_M_days_63; split <;> rfl)
  | f + 1 => (jst_ok ok_M_days (hc_M_days F) (jrun_ok ok_M_days (hc_M_days F) (jT_ok (List.forall_mem_cons.mpr ⟨g_M_days_63 F f, List.forall_mem_cons.mpr ⟨g_M_days_98 F F.1, fun _ h => absurd h List.not_mem_nil⟩⟩)) 78) 63).of (fun L S h out e => by unfold r_M_days_63 at e; split at e; exact (e_M_days_63 F f _ _ _ _ _ _).symm.trans e; cases e)
theorem k_M_days (F : Nat × Nat) (o : Nat) (a1 : Int32) (a2 : Int32) (h : jH) (r : Option Value) (h1 : jH) (e : m_M_days F o a1 a2 h = some (r, h1)) : jM1 (10 + 2 * F.2) 287 [.ref o, .int a1, .int a2] h r h1 := jM_of (M := M_M_days) mok_M_days (by decide +kernel) (by decide +kernel) (Or.inl ⟨rfl, rfl⟩) (fun q => nomatch q) (jrun_ok ok_M_days (hc_M_days F) (jT_ok (List.forall_mem_cons.mpr ⟨g_M_days_63 F F.1, fun _ h => absurd h List.not_mem_nil⟩)) 78 0) (List.all_eq_true.mp rfl) (Nat.le_of_ble_eq_true rfl) (fun E => Nat.le_of_ble_eq_true rfl) ((e_M_days F o a1 a2 h).symm.trans e)
theorem co_M_days (F : Nat × Nat) : jc_ok (10 + 2 * F.2 + 1) 287 (c_M_days F) := by
  intro as h k out e
  unfold c_M_days at e
  split at e
  · obtain ⟨a0, rfl, e1⟩ := js_rv e
    obtain ⟨hg, e2⟩ := js_if e1
    obtain ⟨r, h1, hm, e3⟩ := js_jbI e2
    exact ⟨_, _, _, Nat.le_refl _, k_M_days F _ _ _ _ _ _ hm, ⟨fun _ => ⟨_, _, rfl, Or.inl ⟨7, by decide, hg, by decide +kernel⟩⟩, fun q => absurd q (by decide +kernel)⟩, e3⟩
  · cases e
def r_M_drawn_43 (g : Nat → Int32 → Int32 → Int32 → jH → Option jO) : jL → List Value → jH → Option jO := fun L S h => match L, S with
  | [some (.ref v0), some (.int v1), _, some (.int v3), some (.int v4)], [] => g v0 v1 v3 v4 h
  | _, _ => none
def c_M_drawn (F : Nat × Nat) : jc1 := fun args h k => match args with
  | [w0, .int a1, .int a2] => j_rv w0 fun a0 => if j_k h a0 = 17 then (jbI (m_M_drawn F a0 a1 a2 h) fun r h => k (some (.int r)) h) else none
  | _ => none
set_option maxRecDepth 100000 in
theorem e_M_drawn_43 (F : Nat × Nat) (f : Nat) (v0 : Nat) (v1 : Int32) (v3 : Int32) (v4 : Int32) (u1 : Option Value) (h : jH) : m_M_drawn_43 F (f + 1) v0 v1 v3 v4 h = jst (j_C [(157, c_M_lies F)]) 0 (cd_M_drawn 43) [some (.ref v0), some (.int v1), u1, some (.int v3), some (.int v4)] [] h (jrun (j_C [(157, c_M_lies F)]) 0 cd_M_drawn (j_T [(43, r_M_drawn_43 (m_M_drawn_43 F f))]) 59) := rfl
set_option maxRecDepth 100000 in
theorem e_M_drawn (F : Nat × Nat) (o : Nat) (a1 : Int32) (a2 : Int32) (h : jH) : m_M_drawn F o a1 a2 h = jrun (j_C [(157, c_M_lies F)]) 0 cd_M_drawn (j_T [(43, r_M_drawn_43 (m_M_drawn_43 F F.1))]) 59 0 [some (.ref o), some (.int a1), some (.int a2), none, none] [] h := rfl
theorem hc_M_drawn (F : Nat × Nat) : jCok (1 + 0 * F.2) (j_C [(157, c_M_lies F)]) := jC_ok (List.forall_mem_cons.mpr ⟨(co_M_lies F).up (by omega), fun _ h => absurd h List.not_mem_nil⟩)
theorem g_M_drawn_43 (F : Nat × Nat) : ∀ f, jG M_M_drawn (1 + 0 * F.2) 43 (r_M_drawn_43 (m_M_drawn_43 F f))
  | 0 => jG.no (fun L S h => by unfold r_M_drawn_43; split <;> rfl)
  | f + 1 => (jst_ok ok_M_drawn (hc_M_drawn F) (jrun_ok ok_M_drawn (hc_M_drawn F) (jT_ok (List.forall_mem_cons.mpr ⟨g_M_drawn_43 F f, fun _ h => absurd h List.not_mem_nil⟩)) 59) 43).of (fun L S h out e => by unfold r_M_drawn_43 at e; split at e; exact (e_M_drawn_43 F f _ _ _ _ _ _).symm.trans e; cases e)
theorem k_M_drawn (F : Nat × Nat) (o : Nat) (a1 : Int32) (a2 : Int32) (h : jH) (r : Option Value) (h1 : jH) (e : m_M_drawn F o a1 a2 h = some (r, h1)) : jM1 (1 + 0 * F.2) 290 [.ref o, .int a1, .int a2] h r h1 := jM_of (M := M_M_drawn) mok_M_drawn (by decide +kernel) (by decide +kernel) (Or.inl ⟨rfl, rfl⟩) (fun q => nomatch q) (jrun_ok ok_M_drawn (hc_M_drawn F) (jT_ok (List.forall_mem_cons.mpr ⟨g_M_drawn_43 F F.1, fun _ h => absurd h List.not_mem_nil⟩)) 59 0) (List.all_eq_true.mp rfl) (Nat.le_of_ble_eq_true rfl) (fun E => Nat.le_of_ble_eq_true rfl) ((e_M_drawn F o a1 a2 h).symm.trans e)
theorem co_M_drawn (F : Nat × Nat) : jc_ok (1 + 0 * F.2 + 1) 290 (c_M_drawn F) := by
  intro as h k out e
  unfold c_M_drawn at e
  split at e
  · obtain ⟨a0, rfl, e1⟩ := js_rv e
    obtain ⟨hg, e2⟩ := js_if e1
    obtain ⟨r, h1, hm, e3⟩ := js_jbI e2
    exact ⟨_, _, _, Nat.le_refl _, k_M_drawn F _ _ _ _ _ _ hm, ⟨fun _ => ⟨_, _, rfl, Or.inl ⟨7, by decide, hg, by decide +kernel⟩⟩, fun q => absurd q (by decide +kernel)⟩, e3⟩
  · cases e
def r_M_allSheets_4 (g : Nat → Int32 → Int32 → jH → Option jO) : jL → List Value → jH → Option jO := fun L S h => match L, S with
  | [some (.ref v0), some (.int v1), some (.int v2)], [] => g v0 v1 v2 h
  | _, _ => none
def c_M_allSheets (F : Nat × Nat) : jc1 := fun args h k => match args with
  | [w0] => j_rv w0 fun a0 => if j_k h a0 = 17 then (jbI (m_M_allSheets F a0 h) fun r h => k (some (.int r)) h) else none
  | _ => none
set_option maxRecDepth 100000 in
theorem e_M_allSheets_4 (F : Nat × Nat) (f : Nat) (v0 : Nat) (v1 : Int32) (v2 : Int32) (h : jH) : m_M_allSheets_4 F (f + 1) v0 v1 v2 h = jst (j_C [(168, c_M_many F), (173, c_M_sheetOf F), (175, c_M_ones F)]) 0 (cd_M_allSheets 4) [some (.ref v0), some (.int v1), some (.int v2)] [] h (jrun (j_C [(168, c_M_many F), (173, c_M_sheetOf F), (175, c_M_ones F)]) 0 cd_M_allSheets (j_T [(4, r_M_allSheets_4 (m_M_allSheets_4 F f))]) 24) := rfl
set_option maxRecDepth 100000 in
theorem e_M_allSheets (F : Nat × Nat) (o : Nat) (h : jH) : m_M_allSheets F o h = jrun (j_C [(168, c_M_many F), (173, c_M_sheetOf F), (175, c_M_ones F)]) 0 cd_M_allSheets (j_T [(4, r_M_allSheets_4 (m_M_allSheets_4 F F.1))]) 24 0 [some (.ref o), none, none] [] h := rfl
theorem hc_M_allSheets (F : Nat × Nat) : jCok (2 + 0 * F.2) (j_C [(168, c_M_many F), (173, c_M_sheetOf F), (175, c_M_ones F)]) := jC_ok (List.forall_mem_cons.mpr ⟨(co_M_many F).up (by omega), List.forall_mem_cons.mpr ⟨(co_M_sheetOf F).up (by omega), List.forall_mem_cons.mpr ⟨(co_M_ones F).up (by omega), fun _ h => absurd h List.not_mem_nil⟩⟩⟩)
theorem g_M_allSheets_4 (F : Nat × Nat) : ∀ f, jG M_M_allSheets (2 + 0 * F.2) 4 (r_M_allSheets_4 (m_M_allSheets_4 F f))
  | 0 => jG.no (fun L S h => by unfold r_M_allSheets_4; split <;> rfl)
  | f + 1 => (jst_ok ok_M_allSheets (hc_M_allSheets F) (jrun_ok ok_M_allSheets (hc_M_allSheets F) (jT_ok (List.forall_mem_cons.mpr ⟨g_M_allSheets_4 F f, fun _ h => absurd h List.not_mem_nil⟩)) 24) 4).of (fun L S h out e => by unfold r_M_allSheets_4 at e; split at e; exact (e_M_allSheets_4 F f _ _ _ _).symm.trans e; cases e)
theorem k_M_allSheets (F : Nat × Nat) (o : Nat) (h : jH) (r : Option Value) (h1 : jH) (e : m_M_allSheets F o h = some (r, h1)) : jM1 (2 + 0 * F.2) 292 [.ref o] h r h1 := jM_of (M := M_M_allSheets) mok_M_allSheets (by decide +kernel) (by decide +kernel) (Or.inl ⟨rfl, rfl⟩) (fun q => nomatch q) (jrun_ok ok_M_allSheets (hc_M_allSheets F) (jT_ok (List.forall_mem_cons.mpr ⟨g_M_allSheets_4 F F.1, fun _ h => absurd h List.not_mem_nil⟩)) 24 0) (List.all_eq_true.mp rfl) (Nat.le_of_ble_eq_true rfl) (fun E => Nat.le_of_ble_eq_true rfl) ((e_M_allSheets F o h).symm.trans e)
theorem co_M_allSheets (F : Nat × Nat) : jc_ok (2 + 0 * F.2 + 1) 292 (c_M_allSheets F) := by
  intro as h k out e
  unfold c_M_allSheets at e
  split at e
  · obtain ⟨a0, rfl, e1⟩ := js_rv e
    obtain ⟨hg, e2⟩ := js_if e1
    obtain ⟨r, h1, hm, e3⟩ := js_jbI e2
    exact ⟨_, _, _, Nat.le_refl _, k_M_allSheets F _ _ _ _ hm, ⟨fun _ => ⟨_, _, rfl, Or.inl ⟨7, by decide, hg, by decide +kernel⟩⟩, fun q => absurd q (by decide +kernel)⟩, e3⟩
  · cases e
def c_M_count (F : Nat × Nat) : jc1 := fun args h k => match args with
  | [w0, .int a1] => j_rv w0 fun a0 => if j_k h a0 = 17 then (jbI (m_M_count F a0 a1 h) fun r h => k (some (.int r)) h) else none
  | _ => none
set_option maxRecDepth 100000 in
theorem e_M_count (F : Nat × Nat) (o : Nat) (a1 : Int32) (h : jH) : m_M_count F o a1 h = jrun (j_C [(168, c_M_many F), (199, c_M_termAt F), (292, c_M_allSheets F)]) 0 cd_M_count (j_T []) 61 0 [some (.ref o), some (.int a1)] [] h := rfl
theorem hc_M_count (F : Nat × Nat) : jCok (3 + 0 * F.2) (j_C [(168, c_M_many F), (199, c_M_termAt F), (292, c_M_allSheets F)]) := jC_ok (List.forall_mem_cons.mpr ⟨(co_M_many F).up (by omega), List.forall_mem_cons.mpr ⟨(co_M_termAt F).up (by omega), List.forall_mem_cons.mpr ⟨(co_M_allSheets F).up (by omega), fun _ h => absurd h List.not_mem_nil⟩⟩⟩)
theorem k_M_count (F : Nat × Nat) (o : Nat) (a1 : Int32) (h : jH) (r : Option Value) (h1 : jH) (e : m_M_count F o a1 h = some (r, h1)) : jM1 (3 + 0 * F.2) 291 [.ref o, .int a1] h r h1 := jM_of (M := M_M_count) mok_M_count (by decide +kernel) (by decide +kernel) (Or.inl ⟨rfl, rfl⟩) (fun q => nomatch q) (jrun_ok ok_M_count (hc_M_count F) (jT_ok (fun _ h => absurd h List.not_mem_nil)) 61 0) (List.all_eq_true.mp rfl) (Nat.le_of_ble_eq_true rfl) (fun E => Nat.le_of_ble_eq_true rfl) ((e_M_count F o a1 h).symm.trans e)
theorem co_M_count (F : Nat × Nat) : jc_ok (3 + 0 * F.2 + 1) 291 (c_M_count F) := by
  intro as h k out e
  unfold c_M_count at e
  split at e
  · obtain ⟨a0, rfl, e1⟩ := js_rv e
    obtain ⟨hg, e2⟩ := js_if e1
    obtain ⟨r, h1, hm, e3⟩ := js_jbI e2
    exact ⟨_, _, _, Nat.le_refl _, k_M_count F _ _ _ _ _ hm, ⟨fun _ => ⟨_, _, rfl, Or.inl ⟨7, by decide, hg, by decide +kernel⟩⟩, fun q => absurd q (by decide +kernel)⟩, e3⟩
  · cases e
def c_M_status (F : Nat × Nat) : jc1 := fun args h k => match args with
  | [w0] => j_rv w0 fun a0 => if j_k h a0 = 17 then (jbI (m_M_status F a0 h) fun r h => k (some (.int r)) h) else none
  | _ => none
set_option maxRecDepth 100000 in
theorem e_M_status (F : Nat × Nat) (o : Nat) (h : jH) : m_M_status F o h = jrun (j_C []) 0 cd_M_status (j_T []) 8 0 [some (.ref o)] [] h := rfl
theorem hc_M_status (F : Nat × Nat) : jCok (0 + 0 * F.2) (j_C []) := jC_ok (fun _ h => absurd h List.not_mem_nil)
theorem k_M_status (F : Nat × Nat) (o : Nat) (h : jH) (r : Option Value) (h1 : jH) (e : m_M_status F o h = some (r, h1)) : jM1 (0 + 0 * F.2) 293 [.ref o] h r h1 := jM_of (M := M_M_status) mok_M_status (by decide +kernel) (by decide +kernel) (Or.inl ⟨rfl, rfl⟩) (fun q => nomatch q) (jrun_ok ok_M_status (hc_M_status F) (jT_ok (fun _ h => absurd h List.not_mem_nil)) 8 0) (List.all_eq_true.mp rfl) (Nat.le_of_ble_eq_true rfl) (fun E => Nat.le_of_ble_eq_true rfl) ((e_M_status F o h).symm.trans e)
theorem co_M_status (F : Nat × Nat) : jc_ok (0 + 0 * F.2 + 1) 293 (c_M_status F) := by
  intro as h k out e
  unfold c_M_status at e
  split at e
  · obtain ⟨a0, rfl, e1⟩ := js_rv e
    obtain ⟨hg, e2⟩ := js_if e1
    obtain ⟨r, h1, hm, e3⟩ := js_jbI e2
    exact ⟨_, _, _, Nat.le_refl _, k_M_status F _ _ _ _ hm, ⟨fun _ => ⟨_, _, rfl, Or.inl ⟨7, by decide, hg, by decide +kernel⟩⟩, fun q => absurd q (by decide +kernel)⟩, e3⟩
  · cases e
