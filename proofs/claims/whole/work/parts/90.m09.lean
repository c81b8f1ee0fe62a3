def r_M_tells_345 (g : Nat → Int32 → Int32 → Int32 → Int64 → jH → Option jO) : jL → List Value → jH → Option jO := fun L S h => match L, S with
  | [some (.ref v0), some (.int v1), _, _, _, some (.int v5), some (.int v6), _, some (.long v8), some (.float _), _, _, _, _, _], [] => g v0 v1 v5 v6 v8 h
  | _, _ => none
def r_M_tells_286 (g : Nat → Int32 → Int32 → Int32 → Int64 → Int32 → Int64 → Int32 → Int32 → jH → Option jO) : jL → List Value → jH → Option jO := fun L S h => match L, S with
  | [some (.ref v0), some (.int v1), _, _, _, some (.int v5), some (.int v6), _, some (.long v8), some (.float _), some (.int v10), some (.long v11), some (.float _), some (.int v13), _], [.int s0] => g v0 v1 v5 v6 v8 v10 v11 v13 s0 h
  | _, _ => none
def r_M_tells_201 (g : Nat → Int32 → Int32 → Int32 → Int64 → jH → Option jO) : jL → List Value → jH → Option jO := fun L S h => match L, S with
  | [some (.ref v0), some (.int v1), _, _, _, some (.int v5), some (.int v6), _, some (.long v8), some (.float _), _, _, _, _, _], [] => g v0 v1 v5 v6 v8 h
  | _, _ => none
def r_M_tells_87 (g : Nat → Int32 → Int32 → Int32 → Int32 → Int32 → Int32 → Int32 → Int32 → Value → jH → Option jO) : jL → List Value → jH → Option jO := fun L S h => match L, S with
  | [some (.ref v0), some (.int v1), some (.int v2), _, some (.int v4), some (.int v5), some (.int v6), some (.int v7), _, _, _, _, _, _, _], [.int s0, .int s1, s2] => g v0 v1 v2 v4 v5 v6 v7 s0 s1 s2 h
  | _, _ => none
def c_M_tells (F : Nat × Nat) : jc1 := fun args h k => match args with
  | [w0, .int a1, .int a2, .int a3, .int a4, .int a5, .int a6, .int a7] => j_rv w0 fun a0 => if j_k h a0 = 17 then (jbI (m_M_tells F a0 a1 a2 a3 a4 a5 a6 a7 h) fun r h => k (some (.int r)) h) else none
  | _ => none
set_option maxRecDepth 100000 in
theorem e_M_tells_345 (F : Nat × Nat) (k201 : Nat → Int32 → Int32 → Int32 → Int64 → jH → Option jO) (v0 : Nat) (v1 : Int32) (v5 : Int32) (v6 : Int32) (v8 : Int64) (u1 : Option Value) (u2 : Option Value) (u3 : Option Value) (u4 : Option Value) (u5 : Option Value) (u6 : Option Value) (u7 : Option Value) (u8 : Option Value) (u9 : Option Value) (w1 : UInt32) (h : jH) : m_M_tells_345 F k201 v0 v1 v5 v6 v8 h = jst (j_C [(174, c_M_onSheet F), (178, c_M_codeAt F), (179, c_M_sumOf F), (183, c_M_passes0 F), (186, c_M_testOf F)]) 0 (cd_M_tells 345) [some (.ref v0), some (.int v1), u1, u2, u3, some (.int v5), some (.int v6), u4, some (.long v8), some (.float w1), u5, u6, u7, u8, u9] [] h (jrun (j_C [(174, c_M_onSheet F), (178, c_M_codeAt F), (179, c_M_sumOf F), (183, c_M_passes0 F), (186, c_M_testOf F)]) 0 cd_M_tells (j_T [(201, r_M_tells_201 k201)]) 205) := rfl
set_option maxRecDepth 100000 in
theorem e_M_tells_286 (F : Nat × Nat) (k201 : Nat → Int32 → Int32 → Int32 → Int64 → jH → Option jO) (v0 : Nat) (v1 : Int32) (v5 : Int32) (v6 : Int32) (v8 : Int64) (v10 : Int32) (v11 : Int64) (v13 : Int32) (s0 : Int32) (u1 : Option Value) (u2 : Option Value) (u3 : Option Value) (u4 : Option Value) (u5 : Option Value) (w1 : UInt32) (w2 : UInt32) (h : jH) : m_M_tells_286 F k201 v0 v1 v5 v6 v8 v10 v11 v13 s0 h = jst (j_C [(174, c_M_onSheet F), (178, c_M_codeAt F), (179, c_M_sumOf F), (183, c_M_passes0 F), (186, c_M_testOf F)]) 0 (cd_M_tells 286) [some (.ref v0), some (.int v1), u1, u2, u3, some (.int v5), some (.int v6), u4, some (.long v8), some (.float w1), some (.int v10), some (.long v11), some (.float w2), some (.int v13), u5] [.int s0] h (jrun (j_C [(174, c_M_onSheet F), (178, c_M_codeAt F), (179, c_M_sumOf F), (183, c_M_passes0 F), (186, c_M_testOf F)]) 0 cd_M_tells (j_T [(345, r_M_tells_345 (m_M_tells_345 F k201))]) 205) := rfl
set_option maxRecDepth 100000 in
theorem e_M_tells_201 (F : Nat × Nat) (f : Nat) (v0 : Nat) (v1 : Int32) (v5 : Int32) (v6 : Int32) (v8 : Int64) (u1 : Option Value) (u2 : Option Value) (u3 : Option Value) (u4 : Option Value) (u5 : Option Value) (u6 : Option Value) (u7 : Option Value) (u8 : Option Value) (u9 : Option Value) (w1 : UInt32) (h : jH) : m_M_tells_201 F (f + 1) v0 v1 v5 v6 v8 h = jst (j_C [(174, c_M_onSheet F), (178, c_M_codeAt F), (179, c_M_sumOf F), (183, c_M_passes0 F), (186, c_M_testOf F)]) 0 (cd_M_tells 201) [some (.ref v0), some (.int v1), u1, u2, u3, some (.int v5), some (.int v6), u4, some (.long v8), some (.float w1), u5, u6, u7, u8, u9] [] h (jrun (j_C [(174, c_M_onSheet F), (178, c_M_codeAt F), (179, c_M_sumOf F), (183, c_M_passes0 F), (186, c_M_testOf F)]) 0 cd_M_tells (j_T [(286, r_M_tells_286 (m_M_tells_286 F (m_M_tells_201 F f)))]) 205) := rfl
set_option maxRecDepth 100000 in
theorem e_M_tells_87 (F : Nat × Nat) (v0 : Nat) (v1 : Int32) (v2 : Int32) (v4 : Int32) (v5 : Int32) (v6 : Int32) (v7 : Int32) (s0 : Int32) (s1 : Int32) (s2 : Value) (u1 : Option Value) (u2 : Option Value) (u3 : Option Value) (u4 : Option Value) (u5 : Option Value) (u6 : Option Value) (u7 : Option Value) (u8 : Option Value) (h : jH) : m_M_tells_87 F v0 v1 v2 v4 v5 v6 v7 s0 s1 s2 h = jst (j_C [(174, c_M_onSheet F), (178, c_M_codeAt F), (179, c_M_sumOf F), (183, c_M_passes0 F), (186, c_M_testOf F)]) 0 (cd_M_tells 87) [some (.ref v0), some (.int v1), some (.int v2), u1, some (.int v4), some (.int v5), some (.int v6), some (.int v7), u2, u3, u4, u5, u6, u7, u8] [.int s0, .int s1, s2] h (jrun (j_C [(174, c_M_onSheet F), (178, c_M_codeAt F), (179, c_M_sumOf F), (183, c_M_passes0 F), (186, c_M_testOf F)]) 0 cd_M_tells (j_T [(201, r_M_tells_201 (m_M_tells_201 F F.1))]) 205) := rfl
set_option maxRecDepth 100000 in
theorem e_M_tells (F : Nat × Nat) (o : Nat) (a1 : Int32) (a2 : Int32) (a3 : Int32) (a4 : Int32) (a5 : Int32) (a6 : Int32) (a7 : Int32) (h : jH) : m_M_tells F o a1 a2 a3 a4 a5 a6 a7 h = jrun (j_C [(174, c_M_onSheet F), (178, c_M_codeAt F), (179, c_M_sumOf F), (183, c_M_passes0 F), (186, c_M_testOf F)]) 0 cd_M_tells (j_T [(87, r_M_tells_87 (m_M_tells_87 F))]) 205 0 [some (.ref o), some (.int a1), some (.int a2), some (.int a3), some (.int a4), some (.int a5), some (.int a6), some (.int a7), none, none, none, none, none, none, none] [] h := rfl
theorem hc_M_tells (F : Nat × Nat) : jCok (5 + 2 * F.2) (j_C [(174, c_M_onSheet F), (178, c_M_codeAt F), (179, c_M_sumOf F), (183, c_M_passes0 F), (186, c_M_testOf F)]) := jC_ok (List.forall_mem_cons.mpr ⟨(co_M_onSheet F).up (by omega), List.forall_mem_cons.mpr ⟨(co_M_codeAt F).up (by omega), List.forall_mem_cons.mpr ⟨(co_M_sumOf F).up (by omega), List.forall_mem_cons.mpr ⟨(co_M_passes0 F).up (by omega), List.forall_mem_cons.mpr ⟨(co_M_testOf F).up (by omega), fun _ h => absurd h List.not_mem_nil⟩⟩⟩⟩⟩)
theorem g_M_tells_345 (F : Nat × Nat) (k201 : Nat → Int32 → Int32 → Int32 → Int64 → jH → Option jO) (hk201 : jG M_M_tells (5 + 2 * F.2) 201 (r_M_tells_201 k201)) : jG M_M_tells (5 + 2 * F.2) 345 (r_M_tells_345 (m_M_tells_345 F k201)) := (jst_ok ok_M_tells (hc_M_tells F) (jrun_ok ok_M_tells (hc_M_tells F) (jT_ok (List.forall_mem_cons.mpr ⟨hk201, fun _ h => absurd h List.not_mem_nil⟩)) 205) 345).of (fun L S h out e => by unfold r_M_tells_345 at e; split at e; exact (e_M_tells_345 F k201 _ _ _ _ _ _ _ _ _ _ _ _ _ _ _ _).symm.trans e; cases e)
theorem g_M_tells_286 (F : Nat × Nat) (k201 : Nat → Int32 → Int32 → Int32 → Int64 → jH → Option jO) (hk201 : jG M_M_tells (5 + 2 * F.2) 201 (r_M_tells_201 k201)) : jG M_M_tells (5 + 2 * F.2) 286 (r_M_tells_286 (m_M_tells_286 F k201)) := (jst_ok ok_M_tells (hc_M_tells F) (jrun_ok ok_M_tells (hc_M_tells F) (jT_ok (List.forall_mem_cons.mpr ⟨g_M_tells_345 F k201 hk201, fun _ h => absurd h List.not_mem_nil⟩)) 205) 286).of (fun L S h out e => by unfold r_M_tells_286 at e; split at e; exact (e_M_tells_286 F k201 _ _ _ _ _ _ _ _ _ _ _ _ _ _ _ _ _).symm.trans e; cases e)
theorem g_M_tells_201 (F : Nat × Nat) : ∀ f, jG M_M_tells (5 + 2 * F.2) 201 (r_M_tells_201 (m_M_tells_201 F f))
  | 0 => jG.no (fun L S h => by unfold r_M_tells_201; split <;> rfl)
  | f + 1 => (jst_ok ok_M_tells (hc_M_tells F) (jrun_ok ok_M_tells (hc_M_tells F) (jT_ok (List.forall_mem_cons.mpr ⟨g_M_tells_286 F _ (g_M_tells_201 F f), fun _ h => absurd h List.not_mem_nil⟩)) 205) 201).of (fun L S h out e => by unfold r_M_tells_201 at e; split at e; exact (e_M_tells_201 F f _ _ _ _ _ _ _ _ _ _ _ _ _ _ _ _).symm.trans e; cases e)
theorem g_M_tells_87 (F : Nat × Nat) : jG M_M_tells (5 + 2 * F.2) 87 (r_M_tells_87 (m_M_tells_87 F)) := (jst_ok ok_M_tells (hc_M_tells F) (jrun_ok ok_M_tells (hc_M_tells F) (jT_ok (List.forall_mem_cons.mpr ⟨g_M_tells_201 F F.1, fun _ h => absurd h List.not_mem_nil⟩)) 205) 87).of (fun L S h out e => by unfold r_M_tells_87 at e; split at e; exact (e_M_tells_87 F _ _ _ _ _ _ _ _ _ _ _ _ _ _ _ _ _ _ _).symm.trans e; cases e)
theorem k_M_tells (F : Nat × Nat) (o : Nat) (a1 : Int32) (a2 : Int32) (a3 : Int32) (a4 : Int32) (a5 : Int32) (a6 : Int32) (a7 : Int32) (h : jH) (r : Option Value) (h1 : jH) (e : m_M_tells F o a1 a2 a3 a4 a5 a6 a7 h = some (r, h1)) : jM1 (5 + 2 * F.2) 177 [.ref o, .int a1, .int a2, .int a3, .int a4, .int a5, .int a6, .int a7] h r h1 := jM_of (M := M_M_tells) mok_M_tells (by decide +kernel) (by decide +kernel) (Or.inl ⟨rfl, rfl⟩) (fun q => nomatch q) (jrun_ok ok_M_tells (hc_M_tells F) (jT_ok (List.forall_mem_cons.mpr ⟨g_M_tells_87 F, fun _ h => absurd h List.not_mem_nil⟩)) 205 0) (List.all_eq_true.mp rfl) (Nat.le_of_ble_eq_true rfl) (fun E => Nat.le_of_ble_eq_true rfl) ((e_M_tells F o a1 a2 a3 a4 a5 a6 a7 h).symm.trans e)
theorem co_M_tells (F : Nat × Nat) : jc_ok (5 + 2 * F.2 + 1) 177 (c_M_tells F) := by
  intro as h k out e
  unfold c_M_tells at e
  split at e
  · obtain ⟨a0, rfl, e1⟩ := js_rv e
    obtain ⟨hg, e2⟩ := js_if e1
    obtain ⟨r, h1, hm, e3⟩ := js_jbI e2
    exact ⟨_, _, _, Nat.le_refl _, k_M_tells F _ _ _ _ _ _ _ _ _ _ _ hm, ⟨fun _ => ⟨_, _, rfl, Or.inl ⟨7, by decide, hg, by decide +kernel⟩⟩, fun q => absurd q (by decide +kernel)⟩, e3⟩
  · cases e
def c_M_seesFrom (F : Nat × Nat) : jc1 := fun args h k => match args with
  | [w0, .int a1, .int a2] => j_rv w0 fun a0 => if j_k h a0 = 17 then (jbI (m_M_seesFrom F a0 a1 a2 h) fun r h => k (some (.int r)) h) else none
  | _ => none
set_option maxRecDepth 100000 in
theorem e_M_seesFrom (F : Nat × Nat) (o : Nat) (a1 : Int32) (a2 : Int32) (h : jH) : m_M_seesFrom F o a1 a2 h = jrun (j_C [(177, c_M_tells F)]) 0 cd_M_seesFrom (j_T []) 15 0 [some (.ref o), some (.int a1), some (.int a2)] [] h := rfl
theorem hc_M_seesFrom (F : Nat × Nat) : jCok (6 + 2 * F.2) (j_C [(177, c_M_tells F)]) := jC_ok (List.forall_mem_cons.mpr ⟨(co_M_tells F).up (by omega), fun _ h => absurd h List.not_mem_nil⟩)
theorem k_M_seesFrom (F : Nat × Nat) (o : Nat) (a1 : Int32) (a2 : Int32) (h : jH) (r : Option Value) (h1 : jH) (e : m_M_seesFrom F o a1 a2 h = some (r, h1)) : jM1 (6 + 2 * F.2) 176 [.ref o, .int a1, .int a2] h r h1 := jM_of (M := M_M_seesFrom) mok_M_seesFrom (by decide +kernel) (by decide +kernel) (Or.inl ⟨rfl, rfl⟩) (fun q => nomatch q) (jrun_ok ok_M_seesFrom (hc_M_seesFrom F) (jT_ok (fun _ h => absurd h List.not_mem_nil)) 15 0) (List.all_eq_true.mp rfl) (Nat.le_of_ble_eq_true rfl) (fun E => Nat.le_of_ble_eq_true rfl) ((e_M_seesFrom F o a1 a2 h).symm.trans e)
theorem co_M_seesFrom (F : Nat × Nat) : jc_ok (6 + 2 * F.2 + 1) 176 (c_M_seesFrom F) := by
  intro as h k out e
  unfold c_M_seesFrom at e
  split at e
  · obtain ⟨a0, rfl, e1⟩ := js_rv e
    obtain ⟨hg, e2⟩ := js_if e1
    obtain ⟨r, h1, hm, e3⟩ := js_jbI e2
    exact ⟨_, _, _, Nat.le_refl _, k_M_seesFrom F _ _ _ _ _ _ hm, ⟨fun _ => ⟨_, _, rfl, Or.inl ⟨7, by decide, hg, by decide +kernel⟩⟩, fun q => absurd q (by decide +kernel)⟩, e3⟩
  · cases e
def c_M_of (F : Nat × Nat) : jc1 := fun args h k => match args with
  | [w0, .int a1, .int a2] => j_rv w0 fun a0 => if j_k h a0 = 17 then (jbI (m_M_of F a0 a1 a2 h) fun r h => k (some (.int r)) h) else none
  | _ => none
set_option maxRecDepth 100000 in
theorem e_M_of (F : Nat × Nat) (o : Nat) (a1 : Int32) (a2 : Int32) (h : jH) : m_M_of F o a1 a2 h = jrun (j_C [(169, c_M_spotOf F), (172, c_M_isWalker F), (173, c_M_sheetOf F), (175, c_M_ones F), (176, c_M_seesFrom F)]) 0 cd_M_of (j_T []) 49 0 [some (.ref o), some (.int a1), some (.int a2)] [] h := rfl
theorem hc_M_of (F : Nat × Nat) : jCok (7 + 2 * F.2) (j_C [(169, c_M_spotOf F), (172, c_M_isWalker F), (173, c_M_sheetOf F), (175, c_M_ones F), (176, c_M_seesFrom F)]) := jC_ok (List.forall_mem_cons.mpr ⟨(co_M_spotOf F).up (by omega), List.forall_mem_cons.mpr ⟨(co_M_isWalker F).up (by omega), List.forall_mem_cons.mpr ⟨(co_M_sheetOf F).up (by omega), List.forall_mem_cons.mpr ⟨(co_M_ones F).up (by omega), List.forall_mem_cons.mpr ⟨(co_M_seesFrom F).up (by omega), fun _ h => absurd h List.not_mem_nil⟩⟩⟩⟩⟩)
theorem k_M_of (F : Nat × Nat) (o : Nat) (a1 : Int32) (a2 : Int32) (h : jH) (r : Option Value) (h1 : jH) (e : m_M_of F o a1 a2 h = some (r, h1)) : jM1 (7 + 2 * F.2) 171 [.ref o, .int a1, .int a2] h r h1 := jM_of (M := M_M_of) mok_M_of (by decide +kernel) (by decide +kernel) (Or.inl ⟨rfl, rfl⟩) (fun q => nomatch q) (jrun_ok ok_M_of (hc_M_of F) (jT_ok (fun _ h => absurd h List.not_mem_nil)) 49 0) (List.all_eq_true.mp rfl) (Nat.le_of_ble_eq_true rfl) (fun E => Nat.le_of_ble_eq_true rfl) ((e_M_of F o a1 a2 h).symm.trans e)
theorem co_M_of (F : Nat × Nat) : jc_ok (7 + 2 * F.2 + 1) 171 (c_M_of F) := by
  intro as h k out e
  unfold c_M_of at e
  split at e
  · obtain ⟨a0, rfl, e1⟩ := js_rv e
    obtain ⟨hg, e2⟩ := js_if e1
    obtain ⟨r, h1, hm, e3⟩ := js_jbI e2
    exact ⟨_, _, _, Nat.le_refl _, k_M_of F _ _ _ _ _ _ hm, ⟨fun _ => ⟨_, _, rfl, Or.inl ⟨7, by decide, hg, by decide +kernel⟩⟩, fun q => absurd q (by decide +kernel)⟩, e3⟩
  · cases e
def c_M_sheet (F : Nat × Nat) : jc1 := fun args h k => match args with
  | [w0, .int a1, .int a2] => j_rv w0 fun a0 => if j_k h a0 = 17 then (jbI (m_M_sheet F a0 a1 a2 h) fun r h => k (some (.int r)) h) else none
  | _ => none
set_option maxRecDepth 100000 in
theorem e_M_sheet (F : Nat × Nat) (o : Nat) (a1 : Int32) (a2 : Int32) (h : jH) : m_M_sheet F o a1 a2 h = jrun (j_C [(164, c_M_isCell F), (172, c_M_isWalker F), (174, c_M_onSheet F)]) 0 cd_M_sheet (j_T []) 21 0 [some (.ref o), some (.int a1), some (.int a2)] [] h := rfl
theorem hc_M_sheet (F : Nat × Nat) : jCok (2 + 0 * F.2) (j_C [(164, c_M_isCell F), (172, c_M_isWalker F), (174, c_M_onSheet F)]) := jC_ok (List.forall_mem_cons.mpr ⟨(co_M_isCell F).up (by omega), List.forall_mem_cons.mpr ⟨(co_M_isWalker F).up (by omega), List.forall_mem_cons.mpr ⟨(co_M_onSheet F).up (by omega), fun _ h => absurd h List.not_mem_nil⟩⟩⟩)
theorem k_M_sheet (F : Nat × Nat) (o : Nat) (a1 : Int32) (a2 : Int32) (h : jH) (r : Option Value) (h1 : jH) (e : m_M_sheet F o a1 a2 h = some (r, h1)) : jM1 (2 + 0 * F.2) 190 [.ref o, .int a1, .int a2] h r h1 := jM_of (M := M_M_sheet) mok_M_sheet (by decide +kernel) (by decide +kernel) (Or.inl ⟨rfl, rfl⟩) (fun q => nomatch q) (jrun_ok ok_M_sheet (hc_M_sheet F) (jT_ok (fun _ h => absurd h List.not_mem_nil)) 21 0) (List.all_eq_true.mp rfl) (Nat.le_of_ble_eq_true rfl) (fun E => Nat.le_of_ble_eq_true rfl) ((e_M_sheet F o a1 a2 h).symm.trans e)
theorem co_M_sheet (F : Nat × Nat) : jc_ok (2 + 0 * F.2 + 1) 190 (c_M_sheet F) := by
  intro as h k out e
  unfold c_M_sheet at e
  split at e
  · obtain ⟨a0, rfl, e1⟩ := js_rv e
    obtain ⟨hg, e2⟩ := js_if e1
    obtain ⟨r, h1, hm, e3⟩ := js_jbI e2
    exact ⟨_, _, _, Nat.le_refl _, k_M_sheet F _ _ _ _ _ _ hm, ⟨fun _ => ⟨_, _, rfl, Or.inl ⟨7, by decide, hg, by decide +kernel⟩⟩, fun q => absurd q (by decide +kernel)⟩, e3⟩
  · cases e
def c_M_isWay (F : Nat × Nat) : jc1 := fun args h k => match args with
  | [.int a0] => jbI (m_M_isWay F a0 h) fun r h => k (some (.int r)) h
  | _ => none
set_option maxRecDepth 100000 in
theorem e_M_isWay (F : Nat × Nat) (a0 : Int32) (h : jH) : m_M_isWay F a0 h = jrun (j_C [(157, c_M_lies F)]) 1 cd_M_isWay (j_T []) 10 0 [some (.int a0)] [] h := rfl
theorem hc_M_isWay (F : Nat × Nat) : jCok (1 + 0 * F.2) (j_C [(157, c_M_lies F)]) := jC_ok (List.forall_mem_cons.mpr ⟨(co_M_lies F).up (by omega), fun _ h => absurd h List.not_mem_nil⟩)
theorem k_M_isWay (F : Nat × Nat) (a0 : Int32) (h : jH) (r : Option Value) (h1 : jH) (e : m_M_isWay F a0 h = some (r, h1)) : jM1 (1 + 0 * F.2) 192 [.int a0] h r h1 := jM_of (M := M_M_isWay) mok_M_isWay (by decide +kernel) (by decide +kernel) (Or.inr (Or.inl ⟨rfl, rfl⟩)) (fun q => nomatch q) (jrun_ok ok_M_isWay (hc_M_isWay F) (jT_ok (fun _ h => absurd h List.not_mem_nil)) 10 0) (List.all_eq_true.mp rfl) (Nat.le_of_ble_eq_true rfl) (fun E => Nat.le_of_ble_eq_true rfl) ((e_M_isWay F a0 h).symm.trans e)
theorem co_M_isWay (F : Nat × Nat) : jc_ok (1 + 0 * F.2 + 1) 192 (c_M_isWay F) := by
  intro as h k out e
  unfold c_M_isWay at e
  split at e
  · obtain ⟨r, h1, hm, e1⟩ := js_jbI e
    exact ⟨_, _, _, Nat.le_refl _, k_M_isWay F _ _ _ _ hm, ⟨fun q => absurd q (by decide +kernel), fun q => absurd q (by decide +kernel)⟩, e1⟩
  · cases e
def c_M_cellAt (F : Nat × Nat) : jc1 := fun args h k => match args with
  | [.int a0, .int a1] => jbI (m_M_cellAt F a0 a1 h) fun r h => k (some (.int r)) h
  | _ => none
set_option maxRecDepth 100000 in
theorem e_M_cellAt (F : Nat × Nat) (a0 : Int32) (a1 : Int32) (h : jH) : m_M_cellAt F a0 a1 h = jrun (j_C []) 0 cd_M_cellAt (j_T []) 50 0 [some (.int a0), some (.int a1)] [] h := rfl
theorem hc_M_cellAt (F : Nat × Nat) : jCok (0 + 0 * F.2) (j_C []) := jC_ok (fun _ h => absurd h List.not_mem_nil)
theorem k_M_cellAt (F : Nat × Nat) (a0 : Int32) (a1 : Int32) (h : jH) (r : Option Value) (h1 : jH) (e : m_M_cellAt F a0 a1 h = some (r, h1)) : jM1 (0 + 0 * F.2) 193 [.int a0, .int a1] h r h1 := jM_of (M := M_M_cellAt) mok_M_cellAt (by decide +kernel) (by decide +kernel) (Or.inl ⟨rfl, rfl⟩) (fun q => nomatch q) (jrun_ok ok_M_cellAt (hc_M_cellAt F) (jT_ok (fun _ h => absurd h List.not_mem_nil)) 50 0) (List.all_eq_true.mp rfl) (Nat.le_of_ble_eq_true rfl) (fun E => Nat.le_of_ble_eq_true rfl) ((e_M_cellAt F a0 a1 h).symm.trans e)
theorem co_M_cellAt (F : Nat × Nat) : jc_ok (0 + 0 * F.2 + 1) 193 (c_M_cellAt F) := by
  intro as h k out e
  unfold c_M_cellAt at e
  split at e
  · obtain ⟨r, h1, hm, e1⟩ := js_jbI e
    exact ⟨_, _, _, Nat.le_refl _, k_M_cellAt F _ _ _ _ _ hm, ⟨fun q => absurd q (by decide +kernel), fun q => absurd q (by decide +kernel)⟩, e1⟩
  · cases e
def c_M_costOf (F : Nat × Nat) : jc1 := fun args h k => match args with
  | [w0, .int a1, .int a2, .int a3] => j_rv w0 fun a0 => if j_k h a0 = 17 then (jbI (m_M_costOf F a0 a1 a2 a3 h) fun r h => k (some (.int r)) h) else none
  | _ => none
set_option maxRecDepth 100000 in
theorem e_M_costOf (F : Nat × Nat) (o : Nat) (a1 : Int32) (a2 : Int32) (a3 : Int32) (h : jH) : m_M_costOf F o a1 a2 a3 h = jrun (j_C [(177, c_M_tells F)]) 0 cd_M_costOf (j_T []) 15 0 [some (.ref o), some (.int a1), some (.int a2), some (.int a3)] [] h := rfl
theorem hc_M_costOf (F : Nat × Nat) : jCok (6 + 2 * F.2) (j_C [(177, c_M_tells F)]) := jC_ok (List.forall_mem_cons.mpr ⟨(co_M_tells F).up (by omega), fun _ h => absurd h List.not_mem_nil⟩)
theorem k_M_costOf (F : Nat × Nat) (o : Nat) (a1 : Int32) (a2 : Int32) (a3 : Int32) (h : jH) (r : Option Value) (h1 : jH) (e : m_M_costOf F o a1 a2 a3 h = some (r, h1)) : jM1 (6 + 2 * F.2) 194 [.ref o, .int a1, .int a2, .int a3] h r h1 := jM_of (M := M_M_costOf) mok_M_costOf (by decide +kernel) (by decide +kernel) (Or.inl ⟨rfl, rfl⟩) (fun q => nomatch q) (jrun_ok ok_M_costOf (hc_M_costOf F) (jT_ok (fun _ h => absurd h List.not_mem_nil)) 15 0) (List.all_eq_true.mp rfl) (Nat.le_of_ble_eq_true rfl) (fun E => Nat.le_of_ble_eq_true rfl) ((e_M_costOf F o a1 a2 a3 h).symm.trans e)
theorem co_M_costOf (F : Nat × Nat) : jc_ok (6 + 2 * F.2 + 1) 194 (c_M_costOf F) := by
  intro as h k out e
  unfold c_M_costOf at e
  split at e
  · obtain ⟨a0, rfl, e1⟩ := js_rv e
    obtain ⟨hg, e2⟩ := js_if e1
    obtain ⟨r, h1, hm, e3⟩ := js_jbI e2
    exact ⟨_, _, _, Nat.le_refl _, k_M_costOf F _ _ _ _ _ _ _ hm, ⟨fun _ => ⟨_, _, rfl, Or.inl ⟨7, by decide, hg, by decide +kernel⟩⟩, fun q => absurd q (by decide +kernel)⟩, e3⟩
  · cases e
def c_M_isBarred (F : Nat × Nat) : jc1 := fun args h k => match args with
  | [w0, .int a1, .int a2, .int a3] => j_rv w0 fun a0 => if j_k h a0 = 17 then (jbI (m_M_isBarred F a0 a1 a2 a3 h) fun r h => k (some (.int r)) h) else none
  | _ => none
set_option maxRecDepth 100000 in
theorem e_M_isBarred (F : Nat × Nat) (o : Nat) (a1 : Int32) (a2 : Int32) (a3 : Int32) (h : jH) : m_M_isBarred F o a1 a2 a3 h = jrun (j_C [(177, c_M_tells F)]) 1 cd_M_isBarred (j_T []) 20 0 [some (.ref o), some (.int a1), some (.int a2), some (.int a3)] [] h := rfl
theorem hc_M_isBarred (F : Nat × Nat) : jCok (6 + 2 * F.2) (j_C [(177, c_M_tells F)]) := jC_ok (List.forall_mem_cons.mpr ⟨(co_M_tells F).up (by omega), fun _ h => absurd h List.not_mem_nil⟩)
theorem k_M_isBarred (F : Nat × Nat) (o : Nat) (a1 : Int32) (a2 : Int32) (a3 : Int32) (h : jH) (r : Option Value) (h1 : jH) (e : m_M_isBarred F o a1 a2 a3 h = some (r, h1)) : jM1 (6 + 2 * F.2) 195 [.ref o, .int a1, .int a2, .int a3] h r h1 := jM_of (M := M_M_isBarred) mok_M_isBarred (by decide +kernel) (by decide +kernel) (Or.inr (Or.inl ⟨rfl, rfl⟩)) (fun q => nomatch q) (jrun_ok ok_M_isBarred (hc_M_isBarred F) (jT_ok (fun _ h => absurd h List.not_mem_nil)) 20 0) (List.all_eq_true.mp rfl) (Nat.le_of_ble_eq_true rfl) (fun E => Nat.le_of_ble_eq_true rfl) ((e_M_isBarred F o a1 a2 a3 h).symm.trans e)
theorem co_M_isBarred (F : Nat × Nat) : jc_ok (6 + 2 * F.2 + 1) 195 (c_M_isBarred F) := by
  intro as h k out e
  unfold c_M_isBarred at e
  split at e
  · obtain ⟨a0, rfl, e1⟩ := js_rv e
    obtain ⟨hg, e2⟩ := js_if e1
    obtain ⟨r, h1, hm, e3⟩ := js_jbI e2
    exact ⟨_, _, _, Nat.le_refl _, k_M_isBarred F _ _ _ _ _ _ _ hm, ⟨fun _ => ⟨_, _, rfl, Or.inl ⟨7, by decide, hg, by decide +kernel⟩⟩, fun q => absurd q (by decide +kernel)⟩, e3⟩
  · cases e
def c_M_asks (F : Nat × Nat) : jc1 := fun args h k => match args with
  | [w0, .int a1, .int a2, .int a3] => j_rv w0 fun a0 => if j_k h a0 = 17 then (jbI (m_M_asks F a0 a1 a2 a3 h) fun r h => k (some (.int r)) h) else none
  | _ => none
set_option maxRecDepth 100000 in
theorem e_M_asks (F : Nat × Nat) (o : Nat) (a1 : Int32) (a2 : Int32) (a3 : Int32) (h : jH) : m_M_asks F o a1 a2 a3 h = jrun (j_C [(169, c_M_spotOf F), (172, c_M_isWalker F), (192, c_M_isWay F), (193, c_M_cellAt F), (194, c_M_costOf F), (195, c_M_isBarred F)]) 0 cd_M_asks (j_T []) 53 0 [some (.ref o), some (.int a1), some (.int a2), some (.int a3)] [] h := rfl
theorem hc_M_asks (F : Nat × Nat) : jCok (7 + 2 * F.2) (j_C [(169, c_M_spotOf F), (172, c_M_isWalker F), (192, c_M_isWay F), (193, c_M_cellAt F), (194, c_M_costOf F), (195, c_M_isBarred F)]) := jC_ok (List.forall_mem_cons.mpr ⟨(co_M_spotOf F).up (by omega), List.forall_mem_cons.mpr ⟨(co_M_isWalker F).up (by omega), List.forall_mem_cons.mpr ⟨(co_M_isWay F).up (by omega), List.forall_mem_cons.mpr ⟨(co_M_cellAt F).up (by omega), List.forall_mem_cons.mpr ⟨(co_M_costOf F).up (by omega), List.forall_mem_cons.mpr ⟨(co_M_isBarred F).up (by omega), fun _ h => absurd h List.not_mem_nil⟩⟩⟩⟩⟩⟩)
theorem k_M_asks (F : Nat × Nat) (o : Nat) (a1 : Int32) (a2 : Int32) (a3 : Int32) (h : jH) (r : Option Value) (h1 : jH) (e : m_M_asks F o a1 a2 a3 h = some (r, h1)) : jM1 (7 + 2 * F.2) 191 [.ref o, .int a1, .int a2, .int a3] h r h1 := jM_of (M := M_M_asks) mok_M_asks (by decide +kernel) (by decide +kernel) (Or.inl ⟨rfl, rfl⟩) (fun q => nomatch q) (jrun_ok ok_M_asks (hc_M_asks F) (jT_ok (fun _ h => absurd h List.not_mem_nil)) 53 0) (List.all_eq_true.mp rfl) (Nat.le_of_ble_eq_true rfl) (fun E => Nat.le_of_ble_eq_true rfl) ((e_M_asks F o a1 a2 a3 h).symm.trans e)
theorem co_M_asks (F : Nat × Nat) : jc_ok (7 + 2 * F.2 + 1) 191 (c_M_asks F) := by
  intro as h k out e
  unfold c_M_asks at e
  split at e
  · obtain ⟨a0, rfl, e1⟩ := js_rv e
    obtain ⟨hg, e2⟩ := js_if e1
    obtain ⟨r, h1, hm, e3⟩ := js_jbI e2
    exact ⟨_, _, _, Nat.le_refl _, k_M_asks F _ _ _ _ _ _ _ hm, ⟨fun _ => ⟨_, _, rfl, Or.inl ⟨7, by decide, hg, by decide +kernel⟩⟩, fun q => absurd q (by decide +kernel)⟩, e3⟩
  · cases e
def c_M_wants (F : Nat × Nat) : jc1 := fun args h k => match args with
  | [w0, .int a1, .int a2] => j_rv w0 fun a0 => if j_k h a0 = 17 then (jbI (m_M_wants F a0 a1 a2 h) fun r h => k (some (.int r)) h) else none
  | _ => none
set_option maxRecDepth 100000 in
theorem e_M_wants (F : Nat × Nat) (o : Nat) (a1 : Int32) (a2 : Int32) (h : jH) : m_M_wants F o a1 a2 h = jrun (j_C [(157, c_M_lies F), (158, c_M_refuses F), (159, c_M_good F), (172, c_M_isWalker F), (175, c_M_ones F)]) 0 cd_M_wants (j_T []) 44 0 [some (.ref o), some (.int a1), some (.int a2), none] [] h := rfl
theorem hc_M_wants (F : Nat × Nat) : jCok (2 + 0 * F.2) (j_C [(157, c_M_lies F), (158, c_M_refuses F), (159, c_M_good F), (172, c_M_isWalker F), (175, c_M_ones F)]) := jC_ok (List.forall_mem_cons.mpr ⟨(co_M_lies F).up (by omega), List.forall_mem_cons.mpr ⟨(co_M_refuses F).up (by omega), List.forall_mem_cons.mpr ⟨(co_M_good F).up (by omega), List.forall_mem_cons.mpr ⟨(co_M_isWalker F).up (by omega), List.forall_mem_cons.mpr ⟨(co_M_ones F).up (by omega), fun _ h => absurd h List.not_mem_nil⟩⟩⟩⟩⟩)
theorem k_M_wants (F : Nat × Nat) (o : Nat) (a1 : Int32) (a2 : Int32) (h : jH) (r : Option Value) (h1 : jH) (e : m_M_wants F o a1 a2 h = some (r, h1)) : jM1 (2 + 0 * F.2) 196 [.ref o, .int a1, .int a2] h r h1 := jM_of (M := M_M_wants) mok_M_wants (by decide +kernel) (by decide +kernel) (Or.inl ⟨rfl, rfl⟩) (fun q => nomatch q) (jrun_ok ok_M_wants (hc_M_wants F) (jT_ok (fun _ h => absurd h List.not_mem_nil)) 44 0) (List.all_eq_true.mp rfl) (Nat.le_of_ble_eq_true rfl) (fun E => Nat.le_of_ble_eq_true rfl) ((e_M_wants F o a1 a2 h).symm.trans e)
theorem co_M_wants (F : Nat × Nat) : jc_ok (2 + 0 * F.2 + 1) 196 (c_M_wants F) := by
  intro as h k out e
  unfold c_M_wants at e
  split at e
  · obtain ⟨a0, rfl, e1⟩ := js_rv e
    obtain ⟨hg, e2⟩ := js_if e1
    obtain ⟨r, h1, hm, e3⟩ := js_jbI e2
    exact ⟨_, _, _, Nat.le_refl _, k_M_wants F _ _ _ _ _ _ hm, ⟨fun _ => ⟨_, _, rfl, Or.inl ⟨7, by decide, hg, by decide +kernel⟩⟩, fun q => absurd q (by decide +kernel)⟩, e3⟩
  · cases e
def c_M_isTerm (F : Nat × Nat) : jc1 := fun args h k => match args with
  | [.int a0, .int a1] => jbI (m_M_isTerm F a0 a1 h) fun r h => k (some (.int r)) h
  | _ => none
set_option maxRecDepth 100000 in
theorem e_M_isTerm (F : Nat × Nat) (a0 : Int32) (a1 : Int32) (h : jH) : m_M_isTerm F a0 a1 h = jrun (j_C [(157, c_M_lies F)]) 1 cd_M_isTerm (j_T []) 24 0 [some (.int a0), some (.int a1)] [] h := rfl
theorem hc_M_isTerm (F : Nat × Nat) : jCok (1 + 0 * F.2) (j_C [(157, c_M_lies F)]) := jC_ok (List.forall_mem_cons.mpr ⟨(co_M_lies F).up (by omega), fun _ h => absurd h List.not_mem_nil⟩)
theorem k_M_isTerm (F : Nat × Nat) (a0 : Int32) (a1 : Int32) (h : jH) (r : Option Value) (h1 : jH) (e : m_M_isTerm F a0 a1 h = some (r, h1)) : jM1 (1 + 0 * F.2) 198 [.int a0, .int a1] h r h1 := jM_of (M := M_M_isTerm) mok_M_isTerm (by decide +kernel) (by decide +kernel) (Or.inr (Or.inl ⟨rfl, rfl⟩)) (fun q => nomatch q) (jrun_ok ok_M_isTerm (hc_M_isTerm F) (jT_ok (fun _ h => absurd h List.not_mem_nil)) 24 0) (List.all_eq_true.mp rfl) (Nat.le_of_ble_eq_true rfl) (fun E => Nat.le_of_ble_eq_true rfl) ((e_M_isTerm F a0 a1 h).symm.trans e)
theorem co_M_isTerm (F : Nat × Nat) : jc_ok (1 + 0 * F.2 + 1) 198 (c_M_isTerm F) := by
  intro as h k out e
  unfold c_M_isTerm at e
  split at e
  · obtain ⟨r, h1, hm, e1⟩ := js_jbI e
    exact ⟨_, _, _, Nat.le_refl _, k_M_isTerm F _ _ _ _ _ hm, ⟨fun q => absurd q (by decide +kernel), fun q => absurd q (by decide +kernel)⟩, e1⟩
  · cases e
def c_M_termAt (F : Nat × Nat) : jc1 := fun args h k => match args with
  | [.int a0] => jbI (m_M_termAt F a0 h) fun r h => k (some (.int r)) h
  | _ => none
set_option maxRecDepth 100000 in
theorem e_M_termAt (F : Nat × Nat) (a0 : Int32) (h : jH) : m_M_termAt F a0 h = jrun (j_C []) 0 cd_M_termAt (j_T []) 16 0 [some (.int a0)] [] h := rfl
theorem hc_M_termAt (F : Nat × Nat) : jCok (0 + 0 * F.2) (j_C []) := jC_ok (fun _ h => absurd h List.not_mem_nil)
theorem k_M_termAt (F : Nat × Nat) (a0 : Int32) (h : jH) (r : Option Value) (h1 : jH) (e : m_M_termAt F a0 h = some (r, h1)) : jM1 (0 + 0 * F.2) 199 [.int a0] h r h1 := jM_of (M := M_M_termAt) mok_M_termAt (by decide +kernel) (by decide +kernel) (Or.inl ⟨rfl, rfl⟩) (fun q => nomatch q) (jrun_ok ok_M_termAt (hc_M_termAt F) (jT_ok (fun _ h => absurd h List.not_mem_nil)) 16 0) (List.all_eq_true.mp rfl) (Nat.le_of_ble_eq_true rfl) (fun E => Nat.le_of_ble_eq_true rfl) ((e_M_termAt F a0 h).symm.trans e)
theorem co_M_termAt (F : Nat × Nat) : jc_ok (0 + 0 * F.2 + 1) 199 (c_M_termAt F) := by
  intro as h k out e
  unfold c_M_termAt at e
  split at e
  · obtain ⟨r, h1, hm, e1⟩ := js_jbI e
    exact ⟨_, _, _, Nat.le_refl _, k_M_termAt F _ _ _ _ hm, ⟨fun q => absurd q (by decide +kernel), fun q => absurd q (by decide +kernel)⟩, e1⟩
  · cases e
def c_M_terms (F : Nat × Nat) : jc1 := fun args h k => match args with
  | [w0, .int a1, .int a2] => j_rv w0 fun a0 => if j_k h a0 = 17 then (jbI (m_M_terms F a0 a1 a2 h) fun r h => k (some (.int r)) h) else none
  | _ => none
set_option maxRecDepth 100000 in
theorem e_M_terms (F : Nat × Nat) (o : Nat) (a1 : Int32) (a2 : Int32) (h : jH) : m_M_terms F o a1 a2 h = jrun (j_C [(158, c_M_refuses F), (161, c_M_settled F), (198, c_M_isTerm F), (199, c_M_termAt F)]) 0 cd_M_terms (j_T []) 29 0 [some (.ref o), some (.int a1), some (.int a2), none] [] h := rfl
theorem hc_M_terms (F : Nat × Nat) : jCok (2 + 0 * F.2) (j_C [(158, c_M_refuses F), (161, c_M_settled F), (198, c_M_isTerm F), (199, c_M_termAt F)]) := jC_ok (List.forall_mem_cons.mpr ⟨(co_M_refuses F).up (by omega), List.forall_mem_cons.mpr ⟨(co_M_settled F).up (by omega), List.forall_mem_cons.mpr ⟨(co_M_isTerm F).up (by omega), List.forall_mem_cons.mpr ⟨(co_M_termAt F).up (by omega), fun _ h => absurd h List.not_mem_nil⟩⟩⟩⟩)
theorem k_M_terms (F : Nat × Nat) (o : Nat) (a1 : Int32) (a2 : Int32) (h : jH) (r : Option Value) (h1 : jH) (e : m_M_terms F o a1 a2 h = some (r, h1)) : jM1 (2 + 0 * F.2) 197 [.ref o, .int a1, .int a2] h r h1 := jM_of (M := M_M_terms) mok_M_terms (by decide +kernel) (by decide +kernel) (Or.inl ⟨rfl, rfl⟩) (fun q => nomatch q) (jrun_ok ok_M_terms (hc_M_terms F) (jT_ok (fun _ h => absurd h List.not_mem_nil)) 29 0) (List.all_eq_true.mp rfl) (Nat.le_of_ble_eq_true rfl) (fun E => Nat.le_of_ble_eq_true rfl) ((e_M_terms F o a1 a2 h).symm.trans e)
theorem co_M_terms (F : Nat × Nat) : jc_ok (2 + 0 * F.2 + 1) 197 (c_M_terms F) := by
  intro as h k out e
  unfold c_M_terms at e
  split at e
  · obtain ⟨a0, rfl, e1⟩ := js_rv e
    obtain ⟨hg, e2⟩ := js_if e1
    obtain ⟨r, h1, hm, e3⟩ := js_jbI e2
    exact ⟨_, _, _, Nat.le_refl _, k_M_terms F _ _ _ _ _ _ hm, ⟨fun _ => ⟨_, _, rfl, Or.inl ⟨7, by decide, hg, by decide +kernel⟩⟩, fun q => absurd q (by decide +kernel)⟩, e3⟩
  · cases e
def r_M_row_105 (g : Nat → Int32 → Int32 → Int32 → Int32 → jH → Option jO) : jL → List Value → jH → Option jO := fun L S h => match L, S with
  | [some (.ref v0), some (.int v1), some (.int v2), some (.int v3), some (.int v4)], [] => g v0 v1 v2 v3 v4 h
  | _, _ => none
def r_M_row_40 (g : Nat → Int32 → Int32 → Int32 → jH → Option jO) : jL → List Value → jH → Option jO := fun L S h => match L, S with
  | [some (.ref v0), some (.int v1), some (.int v2), some (.int v3), _], [] => g v0 v1 v2 v3 h
  | _, _ => none
def c_M_row (F : Nat × Nat) : jc1 := fun args h k => match args with
  | [w0] => j_rv w0 fun a0 => if j_k h a0 = 17 then (jbI (m_M_row F a0 h) fun r h => k (some (.int r)) h) else none
  | _ => none
set_option maxRecDepth 100000 in
theorem e_M_row_105 (F : Nat × Nat) (k40 : Nat → Int32 → Int32 → Int32 → jH → Option jO) (v0 : Nat) (v1 : Int32) (v2 : Int32) (v3 : Int32) (v4 : Int32) (h : jH) : m_M_row_105 F k40 v0 v1 v2 v3 v4 h = jst (j_C [(158, c_M_refuses F), (159, c_M_good F), (163, c_M_canCell F), (165, c_M_laysCell F)]) 0 (cd_M_row 105) [some (.ref v0), some (.int v1), some (.int v2), some (.int v3), some (.int v4)] [] h (jrun (j_C [(158, c_M_refuses F), (159, c_M_good F), (163, c_M_canCell F), (165, c_M_laysCell F)]) 0 cd_M_row (j_T [(40, r_M_row_40 k40)]) 97) := rfl
set_option maxRecDepth 100000 in
theorem e_M_row_40 (F : Nat × Nat) (f : Nat) (v0 : Nat) (v1 : Int32) (v2 : Int32) (v3 : Int32) (u1 : Option Value) (h : jH) : m_M_row_40 F (f + 1) v0 v1 v2 v3 h = jst (j_C [(158, c_M_refuses F), (159, c_M_good F), (163, c_M_canCell F), (165, c_M_laysCell F)]) 0 (cd_M_row 40) [some (.ref v0), some (.int v1), some (.int v2), some (.int v3), u1] [] h (jrun (j_C [(158, c_M_refuses F), (159, c_M_good F), (163, c_M_canCell F), (165, c_M_laysCell F)]) 0 cd_M_row (j_T [(105, r_M_row_105 (m_M_row_105 F (m_M_row_40 F f)))]) 97) := rfl
set_option maxRecDepth 100000 in
theorem e_M_row (F : Nat × Nat) (o : Nat) (h : jH) : m_M_row F o h = jrun (j_C [(158, c_M_refuses F), (159, c_M_good F), (163, c_M_canCell F), (165, c_M_laysCell F)]) 0 cd_M_row (j_T [(40, r_M_row_40 (m_M_row_40 F F.1))]) 97 0 [some (.ref o), none, none, none, none] [] h := rfl
theorem hc_M_row (F : Nat × Nat) : jCok (3 + 0 * F.2) (j_C [(158, c_M_refuses F), (159, c_M_good F), (163, c_M_canCell F), (165, c_M_laysCell F)]) := jC_ok (List.forall_mem_cons.mpr ⟨(co_M_refuses F).up (by omega), List.forall_mem_cons.mpr ⟨(co_M_good F).up (by omega), List.forall_mem_cons.mpr ⟨(co_M_canCell F).up (by omega), List.forall_mem_cons.mpr ⟨(co_M_laysCell F).up (by omega), fun _ h => absurd h List.not_mem_nil⟩⟩⟩⟩)
theorem g_M_row_105 (F : Nat × Nat) (k40 : Nat → Int32 → Int32 → Int32 → jH → Option jO) (hk40 : jG M_M_row (3 + 0 * F.2) 40 (r_M_row_40 k40)) : jG M_M_row (3 + 0 * F.2) 105 (r_M_row_105 (m_M_row_105 F k40)) := (jst_ok ok_M_row (hc_M_row F) (jrun_ok ok_M_row (hc_M_row F) (jT_ok (List.forall_mem_cons.mpr ⟨hk40, fun _ h => absurd h List.not_mem_nil⟩)) 97) 105).of (fun L S h out e => by unfold r_M_row_105 at e; split at e; exact (e_M_row_105 F k40 _ _ _ _ _ _).symm.trans e; cases e)
theorem g_M_row_40 (F : Nat × Nat) : ∀ f, jG M_M_row (3 + 0 * F.2) 40 (r_M_row_40 (m_M_row_40 F f))
  | 0 => jG.no (fun L S h => by unfold r_M_row_40; split <;> rfl)
  | f + 1 => (jst_ok ok_M_row (hc_M_row F) (jrun_ok ok_M_row (hc_M_row F) (jT_ok (List.forall_mem_cons.mpr ⟨g_M_row_105 F _ (g_M_row_40 F f), fun _ h => absurd h List.not_mem_nil⟩)) 97) 40).of (fun L S h out e => by unfold r_M_row_40 at e; split at e; exact (e_M_row_40 F f _ _ _ _ _ _).symm.trans e; cases e)
theorem k_M_row (F : Nat × Nat) (o : Nat) (h : jH) (r : Option Value) (h1 : jH) (e : m_M_row F o h = some (r, h1)) : jM1 (3 + 0 * F.2) 200 [.ref o] h r h1 := jM_of (M := M_M_row) mok_M_row (by decide +kernel) (by decide +kernel) (Or.inl ⟨rfl, rfl⟩) (fun q => nomatch q) (jrun_ok ok_M_row (hc_M_row F) (jT_ok (List.forall_mem_cons.mpr ⟨g_M_row_40 F F.1, fun _ h => absurd h List.not_mem_nil⟩)) 97 0) (List.all_eq_true.mp rfl) (Nat.le_of_ble_eq_true rfl) (fun E => Nat.le_of_ble_eq_true rfl) ((e_M_row F o h).symm.trans e)
theorem co_M_row (F : Nat × Nat) : jc_ok (3 + 0 * F.2 + 1) 200 (c_M_row F) := by
  intro as h k out e
  unfold c_M_row at e
  split at e
  · obtain ⟨a0, rfl, e1⟩ := js_rv e
    obtain ⟨hg, e2⟩ := js_if e1
    obtain ⟨r, h1, hm, e3⟩ := js_jbI e2
    exact ⟨_, _, _, Nat.le_refl _, k_M_row F _ _ _ _ hm, ⟨fun _ => ⟨_, _, rfl, Or.inl ⟨7, by decide, hg, by decide +kernel⟩⟩, fun q => absurd q (by decide +kernel)⟩, e3⟩
  · cases e
def c_M_blots (F : Nat × Nat) : jc1 := fun args h k => match args with
  | [w0] => j_rv w0 fun a0 => if j_k h a0 = 17 then (jbI (m_M_blots F a0 h) fun r h => k (some (.int r)) h) else none
  | _ => none
set_option maxRecDepth 100000 in
theorem e_M_blots (F : Nat × Nat) (o : Nat) (h : jH) : m_M_blots F o h = jrun (j_C []) 0 cd_M_blots (j_T []) 8 0 [some (.ref o)] [] h := rfl
theorem hc_M_blots (F : Nat × Nat) : jCok (0 + 0 * F.2) (j_C []) := jC_ok (fun _ h => absurd h List.not_mem_nil)
theorem k_M_blots (F : Nat × Nat) (o : Nat) (h : jH) (r : Option Value) (h1 : jH) (e : m_M_blots F o h = some (r, h1)) : jM1 (0 + 0 * F.2) 201 [.ref o] h r h1 := jM_of (M := M_M_blots) mok_M_blots (by decide +kernel) (by decide +kernel) (Or.inl ⟨rfl, rfl⟩) (fun q => nomatch q) (jrun_ok ok_M_blots (hc_M_blots F) (jT_ok (fun _ h => absurd h List.not_mem_nil)) 8 0) (List.all_eq_true.mp rfl) (Nat.le_of_ble_eq_true rfl) (fun E => Nat.le_of_ble_eq_true rfl) ((e_M_blots F o h).symm.trans e)
theorem co_M_blots (F : Nat × Nat) : jc_ok (0 + 0 * F.2 + 1) 201 (c_M_blots F) := by
  intro as h k out e
  unfold c_M_blots at e
  split at e
  · obtain ⟨a0, rfl, e1⟩ := js_rv e
    obtain ⟨hg, e2⟩ := js_if e1
    obtain ⟨r, h1, hm, e3⟩ := js_jbI e2
    exact ⟨_, _, _, Nat.le_refl _, k_M_blots F _ _ _ _ hm, ⟨fun _ => ⟨_, _, rfl, Or.inl ⟨7, by decide, hg, by decide +kernel⟩⟩, fun q => absurd q (by decide +kernel)⟩, e3⟩
  · cases e
def r_M_feed_55 (g : Nat → Int32 → jH → Option jO) : jL → List Value → jH → Option jO := fun L S h => match L, S with
  | [some (.ref v0), _, _, _, _, _, some (.int v6)], [] => g v0 v6 h
  | _, _ => none
def c_M_feed (F : Nat × Nat) : jc1 := fun args h k => match args with
  | [w0, .int a1, .int a2, .int a3, .int a4, .int a5] => j_rv w0 fun a0 => if j_k h a0 = 17 then (jbI (m_M_feed F a0 a1 a2 a3 a4 a5 h) fun r h => k (some (.int r)) h) else none
  | _ => none
set_option maxRecDepth 100000 in
theorem e_M_feed_55 (F : Nat × Nat) (f : Nat) (v0 : Nat) (v6 : Int32) (u1 : Option Value) (u2 : Option Value) (u3 : Option Value) (u4 : Option Value) (u5 : Option Value) (h : jH) : m_M_feed_55 F (f + 1) v0 v6 h = jst (j_C []) 0 (cd_M_feed 55) [some (.ref v0), u1, u2, u3, u4, u5, some (.int v6)] [] h (jrun (j_C []) 0 cd_M_feed (j_T [(55, r_M_feed_55 (m_M_feed_55 F f))]) 76) := rfl
set_option maxRecDepth 100000 in
theorem e_M_feed (F : Nat × Nat) (o : Nat) (a1 : Int32) (a2 : Int32) (a3 : Int32) (a4 : Int32) (a5 : Int32) (h : jH) : m_M_feed F o a1 a2 a3 a4 a5 h = jrun (j_C []) 0 cd_M_feed (j_T [(55, r_M_feed_55 (m_M_feed_55 F F.1))]) 76 0 [some (.ref o), some (.int a1), some (.int a2), some (.int a3), some (.int a4), some (.int a5), none] [] h := rfl
theorem hc_M_feed (F : Nat × Nat) : jCok (0 + 0 * F.2) (j_C []) := jC_ok (fun _ h => absurd h List.not_mem_nil)
theorem g_M_feed_55 (F : Nat × Nat) : ∀ f, jG M_M_feed (0 + 0 * F.2) 55 (r_M_feed_55 (m_M_feed_55 F f))
  | 0 => jG.no (fun L S h => by unfold r_M_feed_55; split <;> rfl)
  | f + 1 => (jst_ok ok_M_feed (hc_M_feed F) (jrun_ok ok_M_feed (hc_M_feed F) (jT_ok (List.forall_mem_cons.mpr ⟨g_M_feed_55 F f, fun _ h => absurd h List.not_mem_nil⟩)) 76) 55).of (fun L S h out e => by unfold r_M_feed_55 at e; split at e; exact (e_M_feed_55 F f _ _ _ _ _ _ _ _).symm.trans e; cases e)
theorem k_M_feed (F : Nat × Nat) (o : Nat) (a1 : Int32) (a2 : Int32) (a3 : Int32) (a4 : Int32) (a5 : Int32) (h : jH) (r : Option Value) (h1 : jH) (e : m_M_feed F o a1 a2 a3 a4 a5 h = some (r, h1)) : jM1 (0 + 0 * F.2) 202 [.ref o, .int a1, .int a2, .int a3, .int a4, .int a5] h r h1 := jM_of (M := M_M_feed) mok_M_feed (by decide +kernel) (by decide +kernel) (Or.inl ⟨rfl, rfl⟩) (fun q => nomatch q) (jrun_ok ok_M_feed (hc_M_feed F) (jT_ok (List.forall_mem_cons.mpr ⟨g_M_feed_55 F F.1, fun _ h => absurd h List.not_mem_nil⟩)) 76 0) (List.all_eq_true.mp rfl) (Nat.le_of_ble_eq_true rfl) (fun E => Nat.le_of_ble_eq_true rfl) ((e_M_feed F o a1 a2 a3 a4 a5 h).symm.trans e)
theorem co_M_feed (F : Nat × Nat) : jc_ok (0 + 0 * F.2 + 1) 202 (c_M_feed F) := by
  intro as h k out e
  unfold c_M_feed at e
  split at e
  · obtain ⟨a0, rfl, e1⟩ := js_rv e
    obtain ⟨hg, e2⟩ := js_if e1
    obtain ⟨r, h1, hm, e3⟩ := js_jbI e2
    exact ⟨_, _, _, Nat.le_refl _, k_M_feed F _ _ _ _ _ _ _ _ _ hm, ⟨fun _ => ⟨_, _, rfl, Or.inl ⟨7, by decide, hg, by decide +kernel⟩⟩, fun q => absurd q (by decide +kernel)⟩, e3⟩
  · cases e
def c_M_end (F : Nat × Nat) : jc1 := fun args h k => match args with
  | [w0, .int a1] => j_rv w0 fun a0 => if j_k h a0 = 17 then (jbI (m_M_end F a0 a1 h) fun r h => k (some (.int r)) h) else none
  | _ => none
set_option maxRecDepth 100000 in
theorem e_M_end (F : Nat × Nat) (o : Nat) (a1 : Int32) (h : jH) : m_M_end F o a1 h = jrun (j_C [(157, c_M_lies F)]) 0 cd_M_end (j_T []) 18 0 [some (.ref o), some (.int a1)] [] h := rfl
theorem hc_M_end (F : Nat × Nat) : jCok (1 + 0 * F.2) (j_C [(157, c_M_lies F)]) := jC_ok (List.forall_mem_cons.mpr ⟨(co_M_lies F).up (by omega), fun _ h => absurd h List.not_mem_nil⟩)
theorem k_M_end (F : Nat × Nat) (o : Nat) (a1 : Int32) (h : jH) (r : Option Value) (h1 : jH) (e : m_M_end F o a1 h = some (r, h1)) : jM1 (1 + 0 * F.2) 203 [.ref o, .int a1] h r h1 := jM_of (M := M_M_end) mok_M_end (by decide +kernel) (by decide +kernel) (Or.inl ⟨rfl, rfl⟩) (fun q => nomatch q) (jrun_ok ok_M_end (hc_M_end F) (jT_ok (fun _ h => absurd h List.not_mem_nil)) 18 0) (List.all_eq_true.mp rfl) (Nat.le_of_ble_eq_true rfl) (fun E => Nat.le_of_ble_eq_true rfl) ((e_M_end F o a1 h).symm.trans e)
theorem co_M_end (F : Nat × Nat) : jc_ok (1 + 0 * F.2 + 1) 203 (c_M_end F) := by
  intro as h k out e
  unfold c_M_end at e
  split at e
  · obtain ⟨a0, rfl, e1⟩ := js_rv e
    obtain ⟨hg, e2⟩ := js_if e1
    obtain ⟨r, h1, hm, e3⟩ := js_jbI e2
    exact ⟨_, _, _, Nat.le_refl _, k_M_end F _ _ _ _ _ hm, ⟨fun _ => ⟨_, _, rfl, Or.inl ⟨7, by decide, hg, by decide +kernel⟩⟩, fun q => absurd q (by decide +kernel)⟩, e3⟩
  · cases e
def c_M_isSmall (F : Nat × Nat) : jc1 := fun args h k => match args with
  | [.int a0] => jbI (m_M_isSmall F a0 h) fun r h => k (some (.int r)) h
  | _ => none
set_option maxRecDepth 100000 in
theorem e_M_isSmall (F : Nat × Nat) (a0 : Int32) (h : jH) : m_M_isSmall F a0 h = jrun (j_C []) 1 cd_M_isSmall (j_T []) 15 0 [some (.int a0)] [] h := rfl
theorem hc_M_isSmall (F : Nat × Nat) : jCok (0 + 0 * F.2) (j_C []) := jC_ok (fun _ h => absurd h List.not_mem_nil)
theorem k_M_isSmall (F : Nat × Nat) (a0 : Int32) (h : jH) (r : Option Value) (h1 : jH) (e : m_M_isSmall F a0 h = some (r, h1)) : jM1 (0 + 0 * F.2) 208 [.int a0] h r h1 := jM_of (M := M_M_isSmall) mok_M_isSmall (by decide +kernel) (by decide +kernel) (Or.inr (Or.inl ⟨rfl, rfl⟩)) (fun q => nomatch q) (jrun_ok ok_M_isSmall (hc_M_isSmall F) (jT_ok (fun _ h => absurd h List.not_mem_nil)) 15 0) (List.all_eq_true.mp rfl) (Nat.le_of_ble_eq_true rfl) (fun E => Nat.le_of_ble_eq_true rfl) ((e_M_isSmall F a0 h).symm.trans e)
theorem co_M_isSmall (F : Nat × Nat) : jc_ok (0 + 0 * F.2 + 1) 208 (c_M_isSmall F) := by
  intro as h k out e
  unfold c_M_isSmall at e
  split at e
  · obtain ⟨r, h1, hm, e1⟩ := js_jbI e
    exact ⟨_, _, _, Nat.le_refl _, k_M_isSmall F _ _ _ _ hm, ⟨fun q => absurd q (by decide +kernel), fun q => absurd q (by decide +kernel)⟩, e1⟩
  · cases e
def c_M_isDigit (F : Nat × Nat) : jc1 := fun args h k => match args with
  | [.int a0] => jbI (m_M_isDigit F a0 h) fun r h => k (some (.int r)) h
  | _ => none
set_option maxRecDepth 100000 in
theorem e_M_isDigit (F : Nat × Nat) (a0 : Int32) (h : jH) : m_M_isDigit F a0 h = jrun (j_C []) 1 cd_M_isDigit (j_T []) 15 0 [some (.int a0)] [] h := rfl
theorem hc_M_isDigit (F : Nat × Nat) : jCok (0 + 0 * F.2) (j_C []) := jC_ok (fun _ h => absurd h List.not_mem_nil)
theorem k_M_isDigit (F : Nat × Nat) (a0 : Int32) (h : jH) (r : Option Value) (h1 : jH) (e : m_M_isDigit F a0 h = some (r, h1)) : jM1 (0 + 0 * F.2) 209 [.int a0] h r h1 := jM_of (M := M_M_isDigit) mok_M_isDigit (by decide +kernel) (by decide +kernel) (Or.inr (Or.inl ⟨rfl, rfl⟩)) (fun q => nomatch q) (jrun_ok ok_M_isDigit (hc_M_isDigit F) (jT_ok (fun _ h => absurd h List.not_mem_nil)) 15 0) (List.all_eq_true.mp rfl) (Nat.le_of_ble_eq_true rfl) (fun E => Nat.le_of_ble_eq_true rfl) ((e_M_isDigit F a0 h).symm.trans e)
theorem co_M_isDigit (F : Nat × Nat) : jc_ok (0 + 0 * F.2 + 1) 209 (c_M_isDigit F) := by
  intro as h k out e
  unfold c_M_isDigit at e
  split at e
  · obtain ⟨r, h1, hm, e1⟩ := js_jbI e
    exact ⟨_, _, _, Nat.le_refl _, k_M_isDigit F _ _ _ _ hm, ⟨fun q => absurd q (by decide +kernel), fun q => absurd q (by decide +kernel)⟩, e1⟩
  · cases e
def r_M_wordOf_57 (g : Nat → Int32 → Int32 → Int32 → Int32 → Int32 → Int32 → Int32 → jH → Option jO) : jL → List Value → jH → Option jO := fun L S h => match L, S with
  | [some (.ref v0), some (.int v1), some (.int v2), some (.int v3), some (.int v4), some (.int v5), some (.int v6), some (.int v7)], [] => g v0 v1 v2 v3 v4 v5 v6 v7 h
  | _, _ => none
def r_M_wordOf_18 (g : Nat → Int32 → Int32 → Int32 → Int32 → Int32 → jH → Option jO) : jL → List Value → jH → Option jO := fun L S h => match L, S with
  | [some (.ref v0), some (.int v1), some (.int v2), some (.int v3), some (.int v4), some (.int v5), _, _], [] => g v0 v1 v2 v3 v4 v5 h
  | _, _ => none
def r_M_wordOf_5 (g : Nat → Int32 → Int32 → Int32 → Int32 → jH → Option jO) : jL → List Value → jH → Option jO := fun L S h => match L, S with
  | [some (.ref v0), some (.int v1), some (.int v2), some (.int v3), some (.int v4), _, _, _], [] => g v0 v1 v2 v3 v4 h
  | _, _ => none
def c_M_wordOf (F : Nat × Nat) : jc1 := fun args h k => match args with
  | [w0, .int a1, .int a2] => j_rv w0 fun a0 => if j_k h a0 = 17 then (jbI (m_M_wordOf F a0 a1 a2 h) fun r h => k (some (.int r)) h) else none
  | _ => none
set_option maxRecDepth 100000 in
theorem e_M_wordOf_57 (F : Nat × Nat) (k5 : Nat → Int32 → Int32 → Int32 → Int32 → jH → Option jO) (f : Nat) (v0 : Nat) (v1 : Int32) (v2 : Int32) (v3 : Int32) (v4 : Int32) (v5 : Int32) (v6 : Int32) (v7 : Int32) (h : jH) : m_M_wordOf_57 F k5 (f + 1) v0 v1 v2 v3 v4 v5 v6 v7 h = jst (j_C []) 0 (cd_M_wordOf 57) [some (.ref v0), some (.int v1), some (.int v2), some (.int v3), some (.int v4), some (.int v5), some (.int v6), some (.int v7)] [] h (jrun (j_C []) 0 cd_M_wordOf (j_T [(5, r_M_wordOf_5 k5), (57, r_M_wordOf_57 (m_M_wordOf_57 F k5 f))]) 75) := rfl
set_option maxRecDepth 100000 in
theorem e_M_wordOf_18 (F : Nat × Nat) (k5 : Nat → Int32 → Int32 → Int32 → Int32 → jH → Option jO) (f : Nat) (v0 : Nat) (v1 : Int32) (v2 : Int32) (v3 : Int32) (v4 : Int32) (v5 : Int32) (u1 : Option Value) (u2 : Option Value) (h : jH) : m_M_wordOf_18 F k5 (f + 1) v0 v1 v2 v3 v4 v5 h = jst (j_C []) 0 (cd_M_wordOf 18) [some (.ref v0), some (.int v1), some (.int v2), some (.int v3), some (.int v4), some (.int v5), u1, u2] [] h (jrun (j_C []) 0 cd_M_wordOf (j_T [(18, r_M_wordOf_18 (m_M_wordOf_18 F k5 f)), (57, r_M_wordOf_57 (m_M_wordOf_57 F k5 F.1))]) 75) := rfl
set_option maxRecDepth 100000 in
theorem e_M_wordOf_5 (F : Nat × Nat) (f : Nat) (v0 : Nat) (v1 : Int32) (v2 : Int32) (v3 : Int32) (v4 : Int32) (u1 : Option Value) (u2 : Option Value) (u3 : Option Value) (h : jH) : m_M_wordOf_5 F (f + 1) v0 v1 v2 v3 v4 h = jst (j_C []) 0 (cd_M_wordOf 5) [some (.ref v0), some (.int v1), some (.int v2), some (.int v3), some (.int v4), u1, u2, u3] [] h (jrun (j_C []) 0 cd_M_wordOf (j_T [(18, r_M_wordOf_18 (m_M_wordOf_18 F (m_M_wordOf_5 F f) F.1))]) 75) := rfl
set_option maxRecDepth 100000 in
theorem e_M_wordOf (F : Nat × Nat) (o : Nat) (a1 : Int32) (a2 : Int32) (h : jH) : m_M_wordOf F o a1 a2 h = jrun (j_C []) 0 cd_M_wordOf (j_T [(5, r_M_wordOf_5 (m_M_wordOf_5 F F.1))]) 75 0 [some (.ref o), some (.int a1), some (.int a2), none, none, none, none, none] [] h := rfl
theorem hc_M_wordOf (F : Nat × Nat) : jCok (0 + 0 * F.2) (j_C []) := jC_ok (fun _ h => absurd h List.not_mem_nil)
theorem g_M_wordOf_57 (F : Nat × Nat) (k5 : Nat → Int32 → Int32 → Int32 → Int32 → jH → Option jO) (hk5 : jG M_M_wordOf (0 + 0 * F.2) 5 (r_M_wordOf_5 k5)) : ∀ f, jG M_M_wordOf (0 + 0 * F.2) 57 (r_M_wordOf_57 (m_M_wordOf_57 F k5 f))
  | 0 => jG.no (fun L S h => by unfold r_M_wordOf_57; split <;> rfl)
  | f + 1 => (jst_ok ok_M_wordOf (hc_M_wordOf F) (jrun_ok ok_M_wordOf (hc_M_wordOf F) (jT_ok (List.forall_mem_cons.mpr ⟨hk5, List.forall_mem_cons.mpr ⟨g_M_wordOf_57 F k5 hk5 f, fun _ h => absurd h List.not_mem_nil⟩⟩)) 75) 57).of (fun L S h out e => by unfold r_M_wordOf_57 at e; split at e; exact (e_M_wordOf_57 F k5 f _ _ _ _ _ _ _ _ _).symm.trans e; cases e)
theorem g_M_wordOf_18 (F : Nat × Nat) (k5 : Nat → Int32 → Int32 → Int32 → Int32 → jH → Option jO) (hk5 : jG M_M_wordOf (0 + 0 * F.2) 5 (r_M_wordOf_5 k5)) : ∀ f, jG M_M_wordOf (0 + 0 * F.2) 18 (r_M_wordOf_18 (m_M_wordOf_18 F k5 f))
  | 0 => jG.no (fun L S h => by unfold r_M_wordOf_18; split <;> rfl)
  | f + 1 => (jst_ok ok_M_wordOf (hc_M_wordOf F) (jrun_ok ok_M_wordOf (hc_M_wordOf F) (jT_ok (List.forall_mem_cons.mpr ⟨g_M_wordOf_18 F k5 hk5 f, List.forall_mem_cons.mpr ⟨g_M_wordOf_57 F k5 hk5 F.1, fun _ h => absurd h List.not_mem_nil⟩⟩)) 75) 18).of (fun L S h out e => by unfold r_M_wordOf_18 at e; split at e; exact (e_M_wordOf_18 F k5 f _ _ _ _ _ _ _ _ _).symm.trans e; cases e)
theorem g_M_wordOf_5 (F : Nat × Nat) : ∀ f, jG M_M_wordOf (0 + 0 * F.2) 5 (r_M_wordOf_5 (m_M_wordOf_5 F f))
  | 0 => jG.no (fun L S h => by unfold r_M_wordOf_5; split <;> rfl)
  | f + 1 => (jst_ok ok_M_wordOf (hc_M_wordOf F) (jrun_ok ok_M_wordOf (hc_M_wordOf F) (jT_ok (List.forall_mem_cons.mpr ⟨g_M_wordOf_18 F _ (g_M_wordOf_5 F f) F.1, fun _ h => absurd h List.not_mem_nil⟩)) 75) 5).of (fun L S h out e => by unfold r_M_wordOf_5 at e; split at e; exact (e_M_wordOf_5 F f _ _ _ _ _ _ _ _ _).symm.trans e; cases e)
theorem k_M_wordOf (F : Nat × Nat) (o : Nat) (a1 : Int32) (a2 : Int32) (h : jH) (r : Option Value) (h1 : jH) (e : m_M_wordOf F o a1 a2 h = some (r, h1)) : jM1 (0 + 0 * F.2) 210 [.ref o, .int a1, .int a2] h r h1 := jM_of (M := M_M_wordOf) mok_M_wordOf (by decide +kernel) (by decide +kernel) (Or.inl ⟨rfl, rfl⟩) (fun q => nomatch q) (jrun_ok ok_M_wordOf (hc_M_wordOf F) (jT_ok (List.forall_mem_cons.mpr ⟨g_M_wordOf_5 F F.1, fun _ h => absurd h List.not_mem_nil⟩)) 75 0) (List.all_eq_true.mp rfl) (Nat.le_of_ble_eq_true rfl) (fun E => Nat.le_of_ble_eq_true rfl) ((e_M_wordOf F o a1 a2 h).symm.trans e)
theorem co_M_wordOf (F : Nat × Nat) : jc_ok (0 + 0 * F.2 + 1) 210 (c_M_wordOf F) := by
  intro as h k out e
  unfold c_M_wordOf at e
  split at e
  · obtain ⟨a0, rfl, e1⟩ := js_rv e
    obtain ⟨hg, e2⟩ := js_if e1
    obtain ⟨r, h1, hm, e3⟩ := js_jbI e2
    exact ⟨_, _, _, Nat.le_refl _, k_M_wordOf F _ _ _ _ _ _ hm, ⟨fun _ => ⟨_, _, rfl, Or.inl ⟨7, by decide, hg, by decide +kernel⟩⟩, fun q => absurd q (by decide +kernel)⟩, e3⟩
  · cases e
