def c_M_leftWith (F : Nat × Nat) : jc1 := fun args h k => match args with
  | [w0, .int a1, .int a2, .int a3] => j_rv w0 fun a0 => if j_k h a0 = 17 then (jbI (m_M_leftWith F a0 a1 a2 a3 h) fun r h => k (some (.int r)) h) else none
  | _ => none
set_option maxRecDepth 100000 in
theorem e_M_leftWith (F : Nat × Nat) (o : Nat) (a1 : Int32) (a2 : Int32) (a3 : Int32) (h : jH) : m_M_leftWith F o a1 a2 a3 h = jrun (j_C [(193, c_M_cellAt F), (265, c_M_leftAt F), (267, c_M_lesser F)]) 0 cd_M_leftWith (j_T []) 37 0 [some (.ref o), some (.int a1), some (.int a2), some (.int a3), none, none] [] h := rfl
theorem hc_M_leftWith (F : Nat × Nat) : jCok (1 + 0 * F.2) (j_C [(193, c_M_cellAt F), (265, c_M_leftAt F), (267, c_M_lesser F)]) := jC_ok (List.forall_mem_cons.mpr ⟨(co_M_cellAt F).up (by omega), List.forall_mem_cons.mpr ⟨(co_M_leftAt F).up (by omega), List.forall_mem_cons.mpr ⟨(co_M_lesser F).up (by omega), fun _ h => absurd h List.not_mem_nil⟩⟩⟩)
theorem k_M_leftWith (F : Nat × Nat) (o : Nat) (a1 : Int32) (a2 : Int32) (a3 : Int32) (h : jH) (r : Option Value) (h1 : jH) (e : m_M_leftWith F o a1 a2 a3 h = some (r, h1)) : jM1 (1 + 0 * F.2) 266 [.ref o, .int a1, .int a2, .int a3] h r h1 := jM_of (M := M_M_leftWith) mok_M_leftWith (by decide +kernel) (by decide +kernel) (Or.inl ⟨rfl, rfl⟩) (fun q => nomatch q) (jrun_ok ok_M_leftWith (hc_M_leftWith F) (jT_ok (fun _ h => absurd h List.not_mem_nil)) 37 0) (List.all_eq_true.mp rfl) (Nat.le_of_ble_eq_true rfl) (fun E => Nat.le_of_ble_eq_true rfl) ((e_M_leftWith F o a1 a2 a3 h).symm.trans e)
theorem co_M_leftWith (F : Nat × Nat) : jc_ok (1 + 0 * F.2 + 1) 266 (c_M_leftWith F) := by
  intro as h k out e
  unfold c_M_leftWith at e
  split at e
  · obtain ⟨a0, rfl, e1⟩ := js_rv e
    obtain ⟨hg, e2⟩ := js_if e1
    obtain ⟨r, h1, hm, e3⟩ := js_jbI e2
    exact ⟨_, _, _, Nat.le_refl _, k_M_leftWith F _ _ _ _ _ _ _ hm, ⟨fun _ => ⟨_, _, rfl, Or.inl ⟨7, by decide, hg, by decide +kernel⟩⟩, fun q => absurd q (by decide +kernel)⟩, e3⟩
  · cases e
def r_M_isNearer_10 (g : Nat → Int32 → Int32 → Int32 → Int32 → jH → Option jO) : jL → List Value → jH → Option jO := fun L S h => match L, S with
  | [some (.ref v0), some (.int v1), some (.int v2), some (.int v3), some (.int v4)], [] => g v0 v1 v2 v3 v4 h
  | _, _ => none
def c_M_isNearer (F : Nat × Nat) : jc1 := fun args h k => match args with
  | [w0, .int a1, .int a2] => j_rv w0 fun a0 => if j_k h a0 = 17 then (jbI (m_M_isNearer F a0 a1 a2 h) fun r h => k (some (.int r)) h) else none
  | _ => none
set_option maxRecDepth 100000 in
theorem e_M_isNearer_10 (F : Nat × Nat) (f : Nat) (v0 : Nat) (v1 : Int32) (v2 : Int32) (v3 : Int32) (v4 : Int32) (h : jH) : m_M_isNearer_10 F (f + 1) v0 v1 v2 v3 v4 h = jst (j_C [(265, c_M_leftAt F), (266, c_M_leftWith F), (267, c_M_lesser F)]) 1 (cd_M_isNearer 10) [some (.ref v0), some (.int v1), some (.int v2), some (.int v3), some (.int v4)] [] h (jrun (j_C [(265, c_M_leftAt F), (266, c_M_leftWith F), (267, c_M_lesser F)]) 1 cd_M_isNearer (j_T [(10, r_M_isNearer_10 (m_M_isNearer_10 F f))]) 46) := rfl
set_option maxRecDepth 100000 in
theorem e_M_isNearer (F : Nat × Nat) (o : Nat) (a1 : Int32) (a2 : Int32) (h : jH) : m_M_isNearer F o a1 a2 h = jrun (j_C [(265, c_M_leftAt F), (266, c_M_leftWith F), (267, c_M_lesser F)]) 1 cd_M_isNearer (j_T [(10, r_M_isNearer_10 (m_M_isNearer_10 F F.1))]) 46 0 [some (.ref o), some (.int a1), some (.int a2), none, none] [] h := rfl
theorem hc_M_isNearer (F : Nat × Nat) : jCok (2 + 0 * F.2) (j_C [(265, c_M_leftAt F), (266, c_M_leftWith F), (267, c_M_lesser F)]) := jC_ok (List.forall_mem_cons.mpr ⟨(co_M_leftAt F).up (by omega), List.forall_mem_cons.mpr ⟨(co_M_leftWith F).up (by omega), List.forall_mem_cons.mpr ⟨(co_M_lesser F).up (by omega), fun _ h => absurd h List.not_mem_nil⟩⟩⟩)
theorem g_M_isNearer_10 (F : Nat × Nat) : ∀ f, jG M_M_isNearer (2 + 0 * F.2) 10 (r_M_isNearer_10 (m_M_isNearer_10 F f))
  | 0 => jG.no (fun L S h => by unfold r_M_isNearer_10; split <;> rfl)
  | f + 1 => (jst_ok ok_M_isNearer (hc_M_isNearer F) (jrun_ok ok_M_isNearer (hc_M_isNearer F) (jT_ok (List.forall_mem_cons.mpr ⟨g_M_isNearer_10 F f, fun _ h => absurd h List.not_mem_nil⟩)) 46) 10).of (fun L S h out e => by unfold r_M_isNearer_10 at e; split at e; exact (e_M_isNearer_10 F f _ _ _ _ _ _).symm.trans e; cases e)
theorem k_M_isNearer (F : Nat × Nat) (o : Nat) (a1 : Int32) (a2 : Int32) (h : jH) (r : Option Value) (h1 : jH) (e : m_M_isNearer F o a1 a2 h = some (r, h1)) : jM1 (2 + 0 * F.2) 264 [.ref o, .int a1, .int a2] h r h1 := jM_of (M := M_M_isNearer) mok_M_isNearer (by decide +kernel) (by decide +kernel) (Or.inr (Or.inl ⟨rfl, rfl⟩)) (fun q => nomatch q) (jrun_ok ok_M_isNearer (hc_M_isNearer F) (jT_ok (List.forall_mem_cons.mpr ⟨g_M_isNearer_10 F F.1, fun _ h => absurd h List.not_mem_nil⟩)) 46 0) (List.all_eq_true.mp rfl) (Nat.le_of_ble_eq_true rfl) (fun E => Nat.le_of_ble_eq_true rfl) ((e_M_isNearer F o a1 a2 h).symm.trans e)
theorem co_M_isNearer (F : Nat × Nat) : jc_ok (2 + 0 * F.2 + 1) 264 (c_M_isNearer F) := by
  intro as h k out e
  unfold c_M_isNearer at e
  split at e
  · obtain ⟨a0, rfl, e1⟩ := js_rv e
    obtain ⟨hg, e2⟩ := js_if e1
    obtain ⟨r, h1, hm, e3⟩ := js_jbI e2
    exact ⟨_, _, _, Nat.le_refl _, k_M_isNearer F _ _ _ _ _ _ hm, ⟨fun _ => ⟨_, _, rfl, Or.inl ⟨7, by decide, hg, by decide +kernel⟩⟩, fun q => absurd q (by decide +kernel)⟩, e3⟩
  · cases e
def r_M_laysTours_166 (g : Nat → Int32 → Int32 → Int32 → Int32 → jH → Option jO) : jL → List Value → jH → Option jO := fun L S h => match L, S with
  | [some (.ref v0), _, some (.int v2), some (.int v3), some (.int v4), some (.int v5)], [] => g v0 v2 v3 v4 v5 h
  | _, _ => none
def r_M_laysTours_156 (g : Nat → Int32 → Int32 → Int32 → jH → Option jO) : jL → List Value → jH → Option jO := fun L S h => match L, S with
  | [some (.ref v0), _, some (.int v2), some (.int v3), some (.int v4), _], [] => g v0 v2 v3 v4 h
  | _, _ => none
def r_M_laysTours_147 (g : Nat → Int32 → Int32 → jH → Option jO) : jL → List Value → jH → Option jO := fun L S h => match L, S with
  | [some (.ref v0), _, some (.int v2), some (.int v3), _, _], [] => g v0 v2 v3 h
  | _, _ => none
def r_M_laysTours_103 (g : Nat → Int32 → Int32 → Int32 → Int32 → jH → Option jO) : jL → List Value → jH → Option jO := fun L S h => match L, S with
  | [some (.ref v0), some (.int v1), some (.int v2), some (.int v3), some (.int v4), _], [] => g v0 v1 v2 v3 v4 h
  | _, _ => none
def r_M_laysTours_78 (g : Nat → Int32 → Int32 → Int32 → jH → Option jO) : jL → List Value → jH → Option jO := fun L S h => match L, S with
  | [some (.ref v0), some (.int v1), some (.int v2), some (.int v3), _, _], [] => g v0 v1 v2 v3 h
  | _, _ => none
def r_M_laysTours_7 (g : Nat → Int32 → Int32 → jH → Option jO) : jL → List Value → jH → Option jO := fun L S h => match L, S with
  | [some (.ref v0), some (.int v1), some (.int v2), _, _, _], [] => g v0 v1 v2 h
  | _, _ => none
def c_M_laysTours (F : Nat × Nat) : jc1 := fun args h k => match args with
  | [w0, .int a1] => j_rv w0 fun a0 => if j_k h a0 = 17 then (jbV (m_M_laysTours F a0 a1 h) fun h => k none h) else none
  | _ => none
set_option maxRecDepth 100000 in
theorem e_M_laysTours_166 (F : Nat × Nat) (k147 : Nat → Int32 → Int32 → jH → Option jO) (k156 : Nat → Int32 → Int32 → Int32 → jH → Option jO) (f : Nat) (v0 : Nat) (v2 : Int32) (v3 : Int32) (v4 : Int32) (v5 : Int32) (u1 : Option Value) (h : jH) : m_M_laysTours_166 F k147 k156 (f + 1) v0 v2 v3 v4 v5 h = jst (j_C [(237, c_M_seenFrom F), (240, c_M_isIn F), (250, c_M_allCells F), (252, c_M_laysSteps F), (263, c_M_wantedIn F), (264, c_M_isNearer F)]) 4 (cd_M_laysTours 166) [some (.ref v0), u1, some (.int v2), some (.int v3), some (.int v4), some (.int v5)] [] h (jrun (j_C [(237, c_M_seenFrom F), (240, c_M_isIn F), (250, c_M_allCells F), (252, c_M_laysSteps F), (263, c_M_wantedIn F), (264, c_M_isNearer F)]) 4 cd_M_laysTours (j_T [(156, r_M_laysTours_156 k156), (166, r_M_laysTours_166 (m_M_laysTours_166 F k147 k156 f))]) 119) := rfl
set_option maxRecDepth 100000 in
theorem e_M_laysTours_156 (F : Nat × Nat) (k147 : Nat → Int32 → Int32 → jH → Option jO) (f : Nat) (v0 : Nat) (v2 : Int32) (v3 : Int32) (v4 : Int32) (u1 : Option Value) (u2 : Option Value) (h : jH) : m_M_laysTours_156 F k147 (f + 1) v0 v2 v3 v4 h = jst (j_C [(237, c_M_seenFrom F), (240, c_M_isIn F), (250, c_M_allCells F), (252, c_M_laysSteps F), (263, c_M_wantedIn F), (264, c_M_isNearer F)]) 4 (cd_M_laysTours 156) [some (.ref v0), u1, some (.int v2), some (.int v3), some (.int v4), u2] [] h (jrun (j_C [(237, c_M_seenFrom F), (240, c_M_isIn F), (250, c_M_allCells F), (252, c_M_laysSteps F), (263, c_M_wantedIn F), (264, c_M_isNearer F)]) 4 cd_M_laysTours (j_T [(147, r_M_laysTours_147 k147), (166, r_M_laysTours_166 (m_M_laysTours_166 F k147 (m_M_laysTours_156 F k147 f) F.1))]) 119) := rfl
set_option maxRecDepth 100000 in
theorem e_M_laysTours_147 (F : Nat × Nat) (f : Nat) (v0 : Nat) (v2 : Int32) (v3 : Int32) (u1 : Option Value) (u2 : Option Value) (u3 : Option Value) (h : jH) : m_M_laysTours_147 F (f + 1) v0 v2 v3 h = jst (j_C [(237, c_M_seenFrom F), (240, c_M_isIn F), (250, c_M_allCells F), (252, c_M_laysSteps F), (263, c_M_wantedIn F), (264, c_M_isNearer F)]) 4 (cd_M_laysTours 147) [some (.ref v0), u1, some (.int v2), some (.int v3), u2, u3] [] h (jrun (j_C [(237, c_M_seenFrom F), (240, c_M_isIn F), (250, c_M_allCells F), (252, c_M_laysSteps F), (263, c_M_wantedIn F), (264, c_M_isNearer F)]) 4 cd_M_laysTours (j_T [(156, r_M_laysTours_156 (m_M_laysTours_156 F (m_M_laysTours_147 F f) F.1))]) 119) := rfl
set_option maxRecDepth 100000 in
theorem e_M_laysTours_103 (F : Nat × Nat) (k78 : Nat → Int32 → Int32 → Int32 → jH → Option jO) (f : Nat) (v0 : Nat) (v1 : Int32) (v2 : Int32) (v3 : Int32) (v4 : Int32) (u1 : Option Value) (h : jH) : m_M_laysTours_103 F k78 (f + 1) v0 v1 v2 v3 v4 h = jst (j_C [(237, c_M_seenFrom F), (240, c_M_isIn F), (250, c_M_allCells F), (252, c_M_laysSteps F), (263, c_M_wantedIn F), (264, c_M_isNearer F)]) 4 (cd_M_laysTours 103) [some (.ref v0), some (.int v1), some (.int v2), some (.int v3), some (.int v4), u1] [] h (jrun (j_C [(237, c_M_seenFrom F), (240, c_M_isIn F), (250, c_M_allCells F), (252, c_M_laysSteps F), (263, c_M_wantedIn F), (264, c_M_isNearer F)]) 4 cd_M_laysTours (j_T [(78, r_M_laysTours_78 k78), (103, r_M_laysTours_103 (m_M_laysTours_103 F k78 f))]) 119) := rfl
set_option maxRecDepth 100000 in
theorem e_M_laysTours_78 (F : Nat × Nat) (f : Nat) (v0 : Nat) (v1 : Int32) (v2 : Int32) (v3 : Int32) (u1 : Option Value) (u2 : Option Value) (h : jH) : m_M_laysTours_78 F (f + 1) v0 v1 v2 v3 h = jst (j_C [(237, c_M_seenFrom F), (240, c_M_isIn F), (250, c_M_allCells F), (252, c_M_laysSteps F), (263, c_M_wantedIn F), (264, c_M_isNearer F)]) 4 (cd_M_laysTours 78) [some (.ref v0), some (.int v1), some (.int v2), some (.int v3), u1, u2] [] h (jrun (j_C [(237, c_M_seenFrom F), (240, c_M_isIn F), (250, c_M_allCells F), (252, c_M_laysSteps F), (263, c_M_wantedIn F), (264, c_M_isNearer F)]) 4 cd_M_laysTours (j_T [(103, r_M_laysTours_103 (m_M_laysTours_103 F (m_M_laysTours_78 F f) F.1)), (147, r_M_laysTours_147 (m_M_laysTours_147 F F.1))]) 119) := rfl
set_option maxRecDepth 100000 in
theorem e_M_laysTours_7 (F : Nat × Nat) (f : Nat) (v0 : Nat) (v1 : Int32) (v2 : Int32) (u1 : Option Value) (u2 : Option Value) (u3 : Option Value) (h : jH) : m_M_laysTours_7 F (f + 1) v0 v1 v2 h = jst (j_C [(237, c_M_seenFrom F), (240, c_M_isIn F), (250, c_M_allCells F), (252, c_M_laysSteps F), (263, c_M_wantedIn F), (264, c_M_isNearer F)]) 4 (cd_M_laysTours 7) [some (.ref v0), some (.int v1), some (.int v2), u1, u2, u3] [] h (jrun (j_C [(237, c_M_seenFrom F), (240, c_M_isIn F), (250, c_M_allCells F), (252, c_M_laysSteps F), (263, c_M_wantedIn F), (264, c_M_isNearer F)]) 4 cd_M_laysTours (j_T [(7, r_M_laysTours_7 (m_M_laysTours_7 F f)), (78, r_M_laysTours_78 (m_M_laysTours_78 F F.1))]) 119) := rfl
set_option maxRecDepth 100000 in
theorem e_M_laysTours (F : Nat × Nat) (o : Nat) (a1 : Int32) (h : jH) : m_M_laysTours F o a1 h = jrun (j_C [(237, c_M_seenFrom F), (240, c_M_isIn F), (250, c_M_allCells F), (252, c_M_laysSteps F), (263, c_M_wantedIn F), (264, c_M_isNearer F)]) 4 cd_M_laysTours (j_T [(7, r_M_laysTours_7 (m_M_laysTours_7 F F.1))]) 119 0 [some (.ref o), some (.int a1), none, none, none, none] [] h := rfl
theorem hc_M_laysTours (F : Nat × Nat) : jCok (8 + 2 * F.2) (j_C [(237, c_M_seenFrom F), (240, c_M_isIn F), (250, c_M_allCells F), (252, c_M_laysSteps F), (263, c_M_wantedIn F), (264, c_M_isNearer F)]) := jC_ok (List.forall_mem_cons.mpr ⟨(co_M_seenFrom F).up (by omega), List.forall_mem_cons.mpr ⟨(co_M_isIn F).up (by omega), List.forall_mem_cons.mpr ⟨(co_M_allCells F).up (by omega), List.forall_mem_cons.mpr ⟨(co_M_laysSteps F).up (by omega), List.forall_mem_cons.mpr ⟨(co_M_wantedIn F).up (by omega), List.forall_mem_cons.mpr ⟨(co_M_isNearer F).up (by omega), fun _ h => absurd h List.not_mem_nil⟩⟩⟩⟩⟩⟩)
theorem g_M_laysTours_166 (F : Nat × Nat) (k147 : Nat → Int32 → Int32 → jH → Option jO) (hk147 : jG M_M_laysTours (8 + 2 * F.2) 147 (r_M_laysTours_147 k147)) (k156 : Nat → Int32 → Int32 → Int32 → jH → Option jO) (hk156 : jG M_M_laysTours (8 + 2 * F.2) 156 (r_M_laysTours_156 k156)) : ∀ f, jG M_M_laysTours (8 + 2 * F.2) 166 (r_M_laysTours_166 (m_M_laysTours_166 F k147 k156 f))
  | 0 => jG.no (fun L S h => by unfold r_M_laysTours_166; split <;> rfl)
  | f + 1 => (jst_ok ok_M_laysTours (hc_M_laysTours F) (jrun_ok ok_M_laysTours (hc_M_laysTours F) (jT_ok (List.forall_mem_cons.mpr ⟨hk156, List.forall_mem_cons.mpr ⟨g_M_laysTours_166 F k147 hk147 k156 hk156 f, fun _ h => absurd h List.not_mem_nil⟩⟩)) 119) 166).of (fun L S h out e => by unfold r_M_laysTours_166 at e; split at e; exact (e_M_laysTours_166 F k147 k156 f _ _ _ _ _ _ _).symm.trans e; cases e)
theorem g_M_laysTours_156 (F : Nat × Nat) (k147 : Nat → Int32 → Int32 → jH → Option jO) (hk147 : jG M_M_laysTours (8 + 2 * F.2) 147 (r_M_laysTours_147 k147)) : ∀ f, jG M_M_laysTours (8 + 2 * F.2) 156 (r_M_laysTours_156 (m_M_laysTours_156 F k147 f))
  | 0 => jG.no (fun L S h => by unfold r_M_laysTours_156; split <;> rfl)
  | f + 1 => (jst_ok ok_M_laysTours (hc_M_laysTours F) (jrun_ok ok_M_laysTours (hc_M_laysTours F) (jT_ok (List.forall_mem_cons.mpr ⟨hk147, List.forall_mem_cons.mpr ⟨g_M_laysTours_166 F k147 hk147 _ (g_M_laysTours_156 F k147 hk147 f) F.1, fun _ h => absurd h List.not_mem_nil⟩⟩)) 119) 156).of (fun L S h out e => by unfold r_M_laysTours_156 at e; split at e; exact (e_M_laysTours_156 F k147 f _ _ _ _ _ _ _).symm.trans e; cases e)
theorem g_M_laysTours_147 (F : Nat × Nat) : ∀ f, jG M_M_laysTours (8 + 2 * F.2) 147 (r_M_laysTours_147 (m_M_laysTours_147 F f))
  | 0 => jG.no (fun L S h => by unfold r_M_laysTours_147; split <;> rfl)
  | f + 1 => (jst_ok ok_M_laysTours (hc_M_laysTours F) (jrun_ok ok_M_laysTours (hc_M_laysTours F) (jT_ok (List.forall_mem_cons.mpr ⟨g_M_laysTours_156 F _ (g_M_laysTours_147 F f) F.1, fun _ h => absurd h List.not_mem_nil⟩)) 119) 147).of (fun L S h out e => by unfold r_M_laysTours_147 at e; split at e; exact (e_M_laysTours_147 F f _ _ _ _ _ _ _).symm.trans e; cases e)
theorem g_M_laysTours_103 (F : Nat × Nat) (k78 : Nat → Int32 → Int32 → Int32 → jH → Option jO) (hk78 : jG M_M_laysTours (8 + 2 * F.2) 78 (r_M_laysTours_78 k78)) : ∀ f, jG M_M_laysTours (8 + 2 * F.2) 103 (r_M_laysTours_103 (m_M_laysTours_103 F k78 f))
  | 0 => jG.no (fun L S h => by unfold r_M_laysTours_103; split <;> rfl)
  | f + 1 => (jst_ok ok_M_laysTours (hc_M_laysTours F) (jrun_ok ok_M_laysTours (hc_M_laysTours F) (jT_ok (List.forall_mem_cons.mpr ⟨hk78, List.forall_mem_cons.mpr ⟨g_M_laysTours_103 F k78 hk78 f, fun _ h => absurd h List.not_mem_nil⟩⟩)) 119) 103).of (fun L S h out e => by unfold r_M_laysTours_103 at e; split at e; exact (e_M_laysTours_103 F k78 f _ _ _ _ _ _ _).symm.trans e; cases e)
theorem g_M_laysTours_78 (F : Nat × Nat) : ∀ f, jG M_M_laysTours (8 + 2 * F.2) 78 (r_M_laysTours_78 (m_M_laysTours_78 F f))
  | 0 => jG.no (fun L S h => by unfold r_M_laysTours_78; split <;> rfl)
  | f + 1 => (jst_ok ok_M_laysTours (hc_M_laysTours F) (jrun_ok ok_M_laysTours (hc_M_laysTours F) (jT_ok (List.forall_mem_cons.mpr ⟨g_M_laysTours_103 F _ (g_M_laysTours_78 F f) F.1, List.forall_mem_cons.mpr ⟨g_M_laysTours_147 F F.1, fun _ h => absurd h List.not_mem_nil⟩⟩)) 119) 78).of (fun L S h out e => by unfold r_M_laysTours_78 at e; split at e; exact (e_M_laysTours_78 F f _ _ _ _ _ _ _).symm.trans e; cases e)
theorem g_M_laysTours_7 (F : Nat × Nat) : ∀ f, jG M_M_laysTours (8 + 2 * F.2) 7 (r_M_laysTours_7 (m_M_laysTours_7 F f))
  | 0 => jG.no (fun L S h => by unfold r_M_laysTours_7; split <;> rfl)
  | f + 1 => (jst_ok ok_M_laysTours (hc_M_laysTours F) (jrun_ok ok_M_laysTours (hc_M_laysTours F) (jT_ok (List.forall_mem_cons.mpr ⟨g_M_laysTours_7 F f, List.forall_mem_cons.mpr ⟨g_M_laysTours_78 F F.1, fun _ h => absurd h List.not_mem_nil⟩⟩)) 119) 7).of (fun L S h out e => by unfold r_M_laysTours_7 at e; split at e; exact (e_M_laysTours_7 F f _ _ _ _ _ _ _).symm.trans e; cases e)
theorem k_M_laysTours (F : Nat × Nat) (o : Nat) (a1 : Int32) (h : jH) (r : Option Value) (h1 : jH) (e : m_M_laysTours F o a1 h = some (r, h1)) : jM1 (8 + 2 * F.2) 262 [.ref o, .int a1] h r h1 := jM_of (M := M_M_laysTours) mok_M_laysTours (by decide +kernel) (by decide +kernel) (Or.inr (Or.inr (Or.inr (Or.inr ⟨rfl, rfl⟩)))) (fun q => nomatch q) (jrun_ok ok_M_laysTours (hc_M_laysTours F) (jT_ok (List.forall_mem_cons.mpr ⟨g_M_laysTours_7 F F.1, fun _ h => absurd h List.not_mem_nil⟩)) 119 0) (List.all_eq_true.mp rfl) (Nat.le_of_ble_eq_true rfl) (fun E => Nat.le_of_ble_eq_true rfl) ((e_M_laysTours F o a1 h).symm.trans e)
theorem co_M_laysTours (F : Nat × Nat) : jc_ok (8 + 2 * F.2 + 1) 262 (c_M_laysTours F) := by
  intro as h k out e
  unfold c_M_laysTours at e
  split at e
  · obtain ⟨a0, rfl, e1⟩ := js_rv e
    obtain ⟨hg, e2⟩ := js_if e1
    obtain ⟨h1, hm, e3⟩ := js_jbV e2
    exact ⟨_, _, _, Nat.le_refl _, k_M_laysTours F _ _ _ _ _ hm, ⟨fun _ => ⟨_, _, rfl, Or.inl ⟨7, by decide, hg, by decide +kernel⟩⟩, fun q => absurd q (by decide +kernel)⟩, e3⟩
  · cases e
def r_M_tour_105 (g : Nat → Int32 → Int32 → Int32 → Int32 → Int32 → Int32 → jH → Option jO) : jL → List Value → jH → Option jO := fun L S h => match L, S with
  | [some (.ref v0), _, some (.int v2), some (.int v3), some (.int v4), some (.int v5), some (.int v6), some (.int v7), _], [] => g v0 v2 v3 v4 v5 v6 v7 h
  | _, _ => none
def r_M_tour_81 (g : Nat → Int32 → Int32 → Int32 → Int32 → jH → Option jO) : jL → List Value → jH → Option jO := fun L S h => match L, S with
  | [some (.ref v0), _, some (.int v2), some (.int v3), some (.int v4), some (.int v5), _, _, _], [] => g v0 v2 v3 v4 v5 h
  | _, _ => none
def c_M_tour (F : Nat × Nat) : jc1 := fun args h k => match args with
  | [w0, .int a1, .int a2] => j_rv w0 fun a0 => if j_k h a0 = 17 then (jbI (m_M_tour F a0 a1 a2 h) fun r h => k (some (.int r)) h) else none
  | _ => none
set_option maxRecDepth 100000 in
theorem e_M_tour_105 (F : Nat × Nat) (k81 : Nat → Int32 → Int32 → Int32 → Int32 → jH → Option jO) (f : Nat) (v0 : Nat) (v2 : Int32) (v3 : Int32) (v4 : Int32) (v5 : Int32) (v6 : Int32) (v7 : Int32) (u1 : Option Value) (u2 : Option Value) (h : jH) : m_M_tour_105 F k81 (f + 1) v0 v2 v3 v4 v5 v6 v7 h = jst (j_C [(169, c_M_spotOf F), (172, c_M_isWalker F), (173, c_M_sheetOf F), (193, c_M_cellAt F), (262, c_M_laysTours F), (263, c_M_wantedIn F), (265, c_M_leftAt F), (266, c_M_leftWith F)]) 0 (cd_M_tour 105) [some (.ref v0), u1, some (.int v2), some (.int v3), some (.int v4), some (.int v5), some (.int v6), some (.int v7), u2] [] h (jrun (j_C [(169, c_M_spotOf F), (172, c_M_isWalker F), (173, c_M_sheetOf F), (193, c_M_cellAt F), (262, c_M_laysTours F), (263, c_M_wantedIn F), (265, c_M_leftAt F), (266, c_M_leftWith F)]) 0 cd_M_tour (j_T [(81, r_M_tour_81 k81), (105, r_M_tour_105 (m_M_tour_105 F k81 f))]) 105) := rfl
set_option maxRecDepth 100000 in
theorem e_M_tour_81 (F : Nat × Nat) (f : Nat) (v0 : Nat) (v2 : Int32) (v3 : Int32) (v4 : Int32) (v5 : Int32) (u1 : Option Value) (u2 : Option Value) (u3 : Option Value) (u4 : Option Value) (h : jH) : m_M_tour_81 F (f + 1) v0 v2 v3 v4 v5 h = jst (j_C [(169, c_M_spotOf F), (172, c_M_isWalker F), (173, c_M_sheetOf F), (193, c_M_cellAt F), (262, c_M_laysTours F), (263, c_M_wantedIn F), (265, c_M_leftAt F), (266, c_M_leftWith F)]) 0 (cd_M_tour 81) [some (.ref v0), u1, some (.int v2), some (.int v3), some (.int v4), some (.int v5), u2, u3, u4] [] h (jrun (j_C [(169, c_M_spotOf F), (172, c_M_isWalker F), (173, c_M_sheetOf F), (193, c_M_cellAt F), (262, c_M_laysTours F), (263, c_M_wantedIn F), (265, c_M_leftAt F), (266, c_M_leftWith F)]) 0 cd_M_tour (j_T [(105, r_M_tour_105 (m_M_tour_105 F (m_M_tour_81 F f) F.1))]) 105) := rfl
set_option maxRecDepth 100000 in
theorem e_M_tour (F : Nat × Nat) (o : Nat) (a1 : Int32) (a2 : Int32) (h : jH) : m_M_tour F o a1 a2 h = jrun (j_C [(169, c_M_spotOf F), (172, c_M_isWalker F), (173, c_M_sheetOf F), (193, c_M_cellAt F), (262, c_M_laysTours F), (263, c_M_wantedIn F), (265, c_M_leftAt F), (266, c_M_leftWith F)]) 0 cd_M_tour (j_T [(81, r_M_tour_81 (m_M_tour_81 F F.1))]) 105 0 [some (.ref o), some (.int a1), some (.int a2), none, none, none, none, none, none] [] h := rfl
theorem hc_M_tour (F : Nat × Nat) : jCok (9 + 2 * F.2) (j_C [(169, c_M_spotOf F), (172, c_M_isWalker F), (173, c_M_sheetOf F), (193, c_M_cellAt F), (262, c_M_laysTours F), (263, c_M_wantedIn F), (265, c_M_leftAt F), (266, c_M_leftWith F)]) := jC_ok (List.forall_mem_cons.mpr ⟨(co_M_spotOf F).up (by omega), List.forall_mem_cons.mpr ⟨(co_M_isWalker F).up (by omega), List.forall_mem_cons.mpr ⟨(co_M_sheetOf F).up (by omega), List.forall_mem_cons.mpr ⟨(co_M_cellAt F).up (by omega), List.forall_mem_cons.mpr ⟨(co_M_laysTours F).up (by omega), List.forall_mem_cons.mpr ⟨(co_M_wantedIn F).up (by omega), List.forall_mem_cons.mpr ⟨(co_M_leftAt F).up (by omega), List.forall_mem_cons.mpr ⟨(co_M_leftWith F).up (by omega), fun _ h => absurd h List.not_mem_nil⟩⟩⟩⟩⟩⟩⟩⟩)
theorem g_M_tour_105 (F : Nat × Nat) (k81 : Nat → Int32 → Int32 → Int32 → Int32 → jH → Option jO) (hk81 : jG M_M_tour (9 + 2 * F.2) 81 (r_M_tour_81 k81)) : ∀ f, jG M_M_tour (9 + 2 * F.2) 105 (r_M_tour_105 (m_M_tour_105 F k81 f))
  | 0 => jG.no (fun L S h => by unfold r_M_tour_105; split <;> rfl)
  | f + 1 => (jst_ok ok_M_tour (hc_M_tour F) (jrun_ok ok_M_tour (hc_M_tour F) (jT_ok (List.forall_mem_cons.mpr ⟨hk81, List.forall_mem_cons.mpr ⟨g_M_tour_105 F k81 hk81 f, fun _ h => absurd h List.not_mem_nil⟩⟩)) 105) 105).of (fun L S h out e => by unfold r_M_tour_105 at e; split at e; exact (e_M_tour_105 F k81 f _ _ _ _ _ _ _ _ _ _).symm.trans e; cases e)
theorem g_M_tour_81 (F : Nat × Nat) : ∀ f, jG M_M_tour (9 + 2 * F.2) 81 (r_M_tour_81 (m_M_tour_81 F f))
  | 0 => jG.no (fun L S h => by unfold r_M_tour_81; split <;> rfl)
  | f + 1 => (jst_ok ok_M_tour (hc_M_tour F) (jrun_ok ok_M_tour (hc_M_tour F) (jT_ok (List.forall_mem_cons.mpr ⟨g_M_tour_105 F _ (g_M_tour_81 F f) F.1, fun _ h => absurd h List.not_mem_nil⟩)) 105) 81).of (fun L S h out e => by unfold r_M_tour_81 at e; split at e; exact (e_M_tour_81 F f _ _ _ _ _ _ _ _ _ _).symm.trans e; cases e)
theorem k_M_tour (F : Nat × Nat) (o : Nat) (a1 : Int32) (a2 : Int32) (h : jH) (r : Option Value) (h1 : jH) (e : m_M_tour F o a1 a2 h = some (r, h1)) : jM1 (9 + 2 * F.2) 261 [.ref o, .int a1, .int a2] h r h1 := jM_of (M := M_M_tour) mok_M_tour (by decide +kernel) (by decide +kernel) (Or.inl ⟨rfl, rfl⟩) (fun q => nomatch q) (jrun_ok ok_M_tour (hc_M_tour F) (jT_ok (List.forall_mem_cons.mpr ⟨g_M_tour_81 F F.1, fun _ h => absurd h List.not_mem_nil⟩)) 105 0) (List.all_eq_true.mp rfl) (Nat.le_of_ble_eq_true rfl) (fun E => Nat.le_of_ble_eq_true rfl) ((e_M_tour F o a1 a2 h).symm.trans e)
theorem co_M_tour (F : Nat × Nat) : jc_ok (9 + 2 * F.2 + 1) 261 (c_M_tour F) := by
  intro as h k out e
  unfold c_M_tour at e
  split at e
  · obtain ⟨a0, rfl, e1⟩ := js_rv e
    obtain ⟨hg, e2⟩ := js_if e1
    obtain ⟨r, h1, hm, e3⟩ := js_jbI e2
    exact ⟨_, _, _, Nat.le_refl _, k_M_tour F _ _ _ _ _ _ hm, ⟨fun _ => ⟨_, _, rfl, Or.inl ⟨7, by decide, hg, by decide +kernel⟩⟩, fun q => absurd q (by decide +kernel)⟩, e3⟩
  · cases e
def r_M_stale_14 (g : Nat → Int32 → Int32 → Int32 → jH → Option jO) : jL → List Value → jH → Option jO := fun L S h => match L, S with
  | [some (.ref v0), some (.int v1), some (.int v2), some (.int v3)], [] => g v0 v1 v2 v3 h
  | _, _ => none
def c_M_stale (F : Nat × Nat) : jc1 := fun args h k => match args with
  | [w0, .int a1] => j_rv w0 fun a0 => if j_k h a0 = 17 then (jbI (m_M_stale F a0 a1 h) fun r h => k (some (.int r)) h) else none
  | _ => none
set_option maxRecDepth 100000 in
theorem e_M_stale_14 (F : Nat × Nat) (f : Nat) (v0 : Nat) (v1 : Int32) (v2 : Int32) (v3 : Int32) (h : jH) : m_M_stale_14 F (f + 1) v0 v1 v2 v3 h = jst (j_C [(172, c_M_isWalker F), (174, c_M_onSheet F)]) 0 (cd_M_stale 14) [some (.ref v0), some (.int v1), some (.int v2), some (.int v3)] [] h (jrun (j_C [(172, c_M_isWalker F), (174, c_M_onSheet F)]) 0 cd_M_stale (j_T [(14, r_M_stale_14 (m_M_stale_14 F f))]) 48) := rfl
set_option maxRecDepth 100000 in
theorem e_M_stale (F : Nat × Nat) (o : Nat) (a1 : Int32) (h : jH) : m_M_stale F o a1 h = jrun (j_C [(172, c_M_isWalker F), (174, c_M_onSheet F)]) 0 cd_M_stale (j_T [(14, r_M_stale_14 (m_M_stale_14 F F.1))]) 48 0 [some (.ref o), some (.int a1), none, none] [] h := rfl
theorem hc_M_stale (F : Nat × Nat) : jCok (2 + 0 * F.2) (j_C [(172, c_M_isWalker F), (174, c_M_onSheet F)]) := jC_ok (List.forall_mem_cons.mpr ⟨(co_M_isWalker F).up (by omega), List.forall_mem_cons.mpr ⟨(co_M_onSheet F).up (by omega), fun _ h => absurd h List.not_mem_nil⟩⟩)
theorem g_M_stale_14 (F : Nat × Nat) : ∀ f, jG M_M_stale (2 + 0 * F.2) 14 (r_M_stale_14 (m_M_stale_14 F f))
  | 0 => jG.no (fun L S h => by unfold r_M_stale_14; split <;> rfl)
  | f + 1 => (jst_ok ok_M_stale (hc_M_stale F) (jrun_ok ok_M_stale (hc_M_stale F) (jT_ok (List.forall_mem_cons.mpr ⟨g_M_stale_14 F f, fun _ h => absurd h List.not_mem_nil⟩)) 48) 14).of (fun L S h out e => by unfold r_M_stale_14 at e; split at e; exact (e_M_stale_14 F f _ _ _ _ _).symm.trans e; cases e)
theorem k_M_stale (F : Nat × Nat) (o : Nat) (a1 : Int32) (h : jH) (r : Option Value) (h1 : jH) (e : m_M_stale F o a1 h = some (r, h1)) : jM1 (2 + 0 * F.2) 268 [.ref o, .int a1] h r h1 := jM_of (M := M_M_stale) mok_M_stale (by decide +kernel) (by decide +kernel) (Or.inl ⟨rfl, rfl⟩) (fun q => nomatch q) (jrun_ok ok_M_stale (hc_M_stale F) (jT_ok (List.forall_mem_cons.mpr ⟨g_M_stale_14 F F.1, fun _ h => absurd h List.not_mem_nil⟩)) 48 0) (List.all_eq_true.mp rfl) (Nat.le_of_ble_eq_true rfl) (fun E => Nat.le_of_ble_eq_true rfl) ((e_M_stale F o a1 h).symm.trans e)
theorem co_M_stale (F : Nat × Nat) : jc_ok (2 + 0 * F.2 + 1) 268 (c_M_stale F) := by
  intro as h k out e
  unfold c_M_stale at e
  split at e
  · obtain ⟨a0, rfl, e1⟩ := js_rv e
    obtain ⟨hg, e2⟩ := js_if e1
    obtain ⟨r, h1, hm, e3⟩ := js_jbI e2
    exact ⟨_, _, _, Nat.le_refl _, k_M_stale F _ _ _ _ _ hm, ⟨fun _ => ⟨_, _, rfl, Or.inl ⟨7, by decide, hg, by decide +kernel⟩⟩, fun q => absurd q (by decide +kernel)⟩, e3⟩
  · cases e
def c_M_gains (F : Nat × Nat) : jc1 := fun args h k => match args with
  | [w0, .int a1, .int a2] => j_rv w0 fun a0 => if j_k h a0 = 17 then (jbI (m_M_gains F a0 a1 a2 h) fun r h => k (some (.int r)) h) else none
  | _ => none
set_option maxRecDepth 100000 in
theorem e_M_gains (F : Nat × Nat) (o : Nat) (a1 : Int32) (a2 : Int32) (h : jH) : m_M_gains F o a1 a2 h = jrun (j_C [(173, c_M_sheetOf F)]) 1 cd_M_gains (j_T []) 26 0 [some (.ref o), some (.int a1), some (.int a2)] [] h := rfl
theorem hc_M_gains (F : Nat × Nat) : jCok (2 + 0 * F.2) (j_C [(173, c_M_sheetOf F)]) := jC_ok (List.forall_mem_cons.mpr ⟨(co_M_sheetOf F).up (by omega), fun _ h => absurd h List.not_mem_nil⟩)
theorem k_M_gains (F : Nat × Nat) (o : Nat) (a1 : Int32) (a2 : Int32) (h : jH) (r : Option Value) (h1 : jH) (e : m_M_gains F o a1 a2 h = some (r, h1)) : jM1 (2 + 0 * F.2) 270 [.ref o, .int a1, .int a2] h r h1 := jM_of (M := M_M_gains) mok_M_gains (by decide +kernel) (by decide +kernel) (Or.inr (Or.inl ⟨rfl, rfl⟩)) (fun q => nomatch q) (jrun_ok ok_M_gains (hc_M_gains F) (jT_ok (fun _ h => absurd h List.not_mem_nil)) 26 0) (List.all_eq_true.mp rfl) (Nat.le_of_ble_eq_true rfl) (fun E => Nat.le_of_ble_eq_true rfl) ((e_M_gains F o a1 a2 h).symm.trans e)
theorem co_M_gains (F : Nat × Nat) : jc_ok (2 + 0 * F.2 + 1) 270 (c_M_gains F) := by
  intro as h k out e
  unfold c_M_gains at e
  split at e
  · obtain ⟨a0, rfl, e1⟩ := js_rv e
    obtain ⟨hg, e2⟩ := js_if e1
    obtain ⟨r, h1, hm, e3⟩ := js_jbI e2
    exact ⟨_, _, _, Nat.le_refl _, k_M_gains F _ _ _ _ _ _ hm, ⟨fun _ => ⟨_, _, rfl, Or.inl ⟨7, by decide, hg, by decide +kernel⟩⟩, fun q => absurd q (by decide +kernel)⟩, e3⟩
  · cases e
def r_M_both_24 (g : Nat → Int32 → Int32 → Int32 → Int32 → jH → Option jO) : jL → List Value → jH → Option jO := fun L S h => match L, S with
  | [some (.ref v0), some (.int v1), some (.int v2), some (.int v3), some (.int v4)], [] => g v0 v1 v2 v3 v4 h
  | _, _ => none
def r_M_both_11 (g : Nat → Int32 → Int32 → Int32 → jH → Option jO) : jL → List Value → jH → Option jO := fun L S h => match L, S with
  | [some (.ref v0), some (.int v1), some (.int v2), some (.int v3), _], [] => g v0 v1 v2 v3 h
  | _, _ => none
def c_M_both (F : Nat × Nat) : jc1 := fun args h k => match args with
  | [w0, .int a1] => j_rv w0 fun a0 => if j_k h a0 = 17 then (jbI (m_M_both F a0 a1 h) fun r h => k (some (.int r)) h) else none
  | _ => none
set_option maxRecDepth 100000 in
theorem e_M_both_24 (F : Nat × Nat) (k11 : Nat → Int32 → Int32 → Int32 → jH → Option jO) (f : Nat) (v0 : Nat) (v1 : Int32) (v2 : Int32) (v3 : Int32) (v4 : Int32) (h : jH) : m_M_both_24 F k11 (f + 1) v0 v1 v2 v3 v4 h = jst (j_C [(168, c_M_many F), (270, c_M_gains F)]) 0 (cd_M_both 24) [some (.ref v0), some (.int v1), some (.int v2), some (.int v3), some (.int v4)] [] h (jrun (j_C [(168, c_M_many F), (270, c_M_gains F)]) 0 cd_M_both (j_T [(11, r_M_both_11 k11), (24, r_M_both_24 (m_M_both_24 F k11 f))]) 58) := rfl
set_option maxRecDepth 100000 in
theorem e_M_both_11 (F : Nat × Nat) (f : Nat) (v0 : Nat) (v1 : Int32) (v2 : Int32) (v3 : Int32) (u1 : Option Value) (h : jH) : m_M_both_11 F (f + 1) v0 v1 v2 v3 h = jst (j_C [(168, c_M_many F), (270, c_M_gains F)]) 0 (cd_M_both 11) [some (.ref v0), some (.int v1), some (.int v2), some (.int v3), u1] [] h (jrun (j_C [(168, c_M_many F), (270, c_M_gains F)]) 0 cd_M_both (j_T [(24, r_M_both_24 (m_M_both_24 F (m_M_both_11 F f) F.1))]) 58) := rfl
set_option maxRecDepth 100000 in
theorem e_M_both (F : Nat × Nat) (o : Nat) (a1 : Int32) (h : jH) : m_M_both F o a1 h = jrun (j_C [(168, c_M_many F), (270, c_M_gains F)]) 0 cd_M_both (j_T [(11, r_M_both_11 (m_M_both_11 F F.1))]) 58 0 [some (.ref o), some (.int a1), none, none, none] [] h := rfl
theorem hc_M_both (F : Nat × Nat) : jCok (3 + 0 * F.2) (j_C [(168, c_M_many F), (270, c_M_gains F)]) := jC_ok (List.forall_mem_cons.mpr ⟨(co_M_many F).up (by omega), List.forall_mem_cons.mpr ⟨(co_M_gains F).up (by omega), fun _ h => absurd h List.not_mem_nil⟩⟩)
theorem g_M_both_24 (F : Nat × Nat) (k11 : Nat → Int32 → Int32 → Int32 → jH → Option jO) (hk11 : jG M_M_both (3 + 0 * F.2) 11 (r_M_both_11 k11)) : ∀ f, jG M_M_both (3 + 0 * F.2) 24 (r_M_both_24 (m_M_both_24 F k11 f))
  | 0 => jG.no (fun L S h => by unfold r_M_both_24; split <;> rfl)
  | f + 1 => (jst_ok ok_M_both (hc_M_both F) (jrun_ok ok_M_both (hc_M_both F) (jT_ok (List.forall_mem_cons.mpr ⟨hk11, List.forall_mem_cons.mpr ⟨g_M_both_24 F k11 hk11 f, fun _ h => absurd h List.not_mem_nil⟩⟩)) 58) 24).of (fun L S h out e => by unfold r_M_both_24 at e; split at e; exact (e_M_both_24 F k11 f _ _ _ _ _ _).symm.trans e; cases e)
theorem g_M_both_11 (F : Nat × Nat) : ∀ f, jG M_M_both (3 + 0 * F.2) 11 (r_M_both_11 (m_M_both_11 F f))
  | 0 => jG.no (fun L S h => by unfold r_M_both_11; split <;> rfl)
  | f + 1 => (jst_ok ok_M_both (hc_M_both F) (jrun_ok ok_M_both (hc_M_both F) (jT_ok (List.forall_mem_cons.mpr ⟨g_M_both_24 F _ (g_M_both_11 F f) F.1, fun _ h => absurd h List.not_mem_nil⟩)) 58) 11).of (fun L S h out e => by unfold r_M_both_11 at e; split at e; exact (e_M_both_11 F f _ _ _ _ _ _).symm.trans e; cases e)
theorem k_M_both (F : Nat × Nat) (o : Nat) (a1 : Int32) (h : jH) (r : Option Value) (h1 : jH) (e : m_M_both F o a1 h = some (r, h1)) : jM1 (3 + 0 * F.2) 269 [.ref o, .int a1] h r h1 := jM_of (M := M_M_both) mok_M_both (by decide +kernel) (by decide +kernel) (Or.inl ⟨rfl, rfl⟩) (fun q => nomatch q) (jrun_ok ok_M_both (hc_M_both F) (jT_ok (List.forall_mem_cons.mpr ⟨g_M_both_11 F F.1, fun _ h => absurd h List.not_mem_nil⟩)) 58 0) (List.all_eq_true.mp rfl) (Nat.le_of_ble_eq_true rfl) (fun E => Nat.le_of_ble_eq_true rfl) ((e_M_both F o a1 h).symm.trans e)
theorem co_M_both (F : Nat × Nat) : jc_ok (3 + 0 * F.2 + 1) 269 (c_M_both F) := by
  intro as h k out e
  unfold c_M_both at e
  split at e
  · obtain ⟨a0, rfl, e1⟩ := js_rv e
    obtain ⟨hg, e2⟩ := js_if e1
    obtain ⟨r, h1, hm, e3⟩ := js_jbI e2
    exact ⟨_, _, _, Nat.le_refl _, k_M_both F _ _ _ _ _ hm, ⟨fun _ => ⟨_, _, rfl, Or.inl ⟨7, by decide, hg, by decide +kernel⟩⟩, fun q => absurd q (by decide +kernel)⟩, e3⟩
  · cases e
def r_M_sheetsOf_4 (g : Nat → Int32 → Int32 → Int32 → jH → Option jO) : jL → List Value → jH → Option jO := fun L S h => match L, S with
  | [some (.ref v0), some (.int v1), some (.int v2), some (.int v3)], [] => g v0 v1 v2 v3 h
  | _, _ => none
def c_M_sheetsOf (F : Nat × Nat) : jc1 := fun args h k => match args with
  | [w0, .int a1] => j_rv w0 fun a0 => if j_k h a0 = 17 then (jbI (m_M_sheetsOf F a0 a1 h) fun r h => k (some (.int r)) h) else none
  | _ => none
set_option maxRecDepth 100000 in
theorem e_M_sheetsOf_4 (F : Nat × Nat) (f : Nat) (v0 : Nat) (v1 : Int32) (v2 : Int32) (v3 : Int32) (h : jH) : m_M_sheetsOf_4 F (f + 1) v0 v1 v2 v3 h = jst (j_C [(168, c_M_many F), (173, c_M_sheetOf F), (240, c_M_isIn F)]) 0 (cd_M_sheetsOf 4) [some (.ref v0), some (.int v1), some (.int v2), some (.int v3)] [] h (jrun (j_C [(168, c_M_many F), (173, c_M_sheetOf F), (240, c_M_isIn F)]) 0 cd_M_sheetsOf (j_T [(4, r_M_sheetsOf_4 (m_M_sheetsOf_4 F f))]) 29) := rfl
set_option maxRecDepth 100000 in
theorem e_M_sheetsOf (F : Nat × Nat) (o : Nat) (a1 : Int32) (h : jH) : m_M_sheetsOf F o a1 h = jrun (j_C [(168, c_M_many F), (173, c_M_sheetOf F), (240, c_M_isIn F)]) 0 cd_M_sheetsOf (j_T [(4, r_M_sheetsOf_4 (m_M_sheetsOf_4 F F.1))]) 29 0 [some (.ref o), some (.int a1), none, none] [] h := rfl
theorem hc_M_sheetsOf (F : Nat × Nat) : jCok (2 + 0 * F.2) (j_C [(168, c_M_many F), (173, c_M_sheetOf F), (240, c_M_isIn F)]) := jC_ok (List.forall_mem_cons.mpr ⟨(co_M_many F).up (by omega), List.forall_mem_cons.mpr ⟨(co_M_sheetOf F).up (by omega), List.forall_mem_cons.mpr ⟨(co_M_isIn F).up (by omega), fun _ h => absurd h List.not_mem_nil⟩⟩⟩)
theorem g_M_sheetsOf_4 (F : Nat × Nat) : ∀ f, jG M_M_sheetsOf (2 + 0 * F.2) 4 (r_M_sheetsOf_4 (m_M_sheetsOf_4 F f))
  | 0 => jG.no (fun L S h => by unfold r_M_sheetsOf_4; split <;> rfl)
  | f + 1 => (jst_ok ok_M_sheetsOf (hc_M_sheetsOf F) (jrun_ok ok_M_sheetsOf (hc_M_sheetsOf F) (jT_ok (List.forall_mem_cons.mpr ⟨g_M_sheetsOf_4 F f, fun _ h => absurd h List.not_mem_nil⟩)) 29) 4).of (fun L S h out e => by unfold r_M_sheetsOf_4 at e; split at e; exact (e_M_sheetsOf_4 F f _ _ _ _ _).symm.trans e; cases e)
theorem k_M_sheetsOf (F : Nat × Nat) (o : Nat) (a1 : Int32) (h : jH) (r : Option Value) (h1 : jH) (e : m_M_sheetsOf F o a1 h = some (r, h1)) : jM1 (2 + 0 * F.2) 272 [.ref o, .int a1] h r h1 := jM_of (M := M_M_sheetsOf) mok_M_sheetsOf (by decide +kernel) (by decide +kernel) (Or.inl ⟨rfl, rfl⟩) (fun q => nomatch q) (jrun_ok ok_M_sheetsOf (hc_M_sheetsOf F) (jT_ok (List.forall_mem_cons.mpr ⟨g_M_sheetsOf_4 F F.1, fun _ h => absurd h List.not_mem_nil⟩)) 29 0) (List.all_eq_true.mp rfl) (Nat.le_of_ble_eq_true rfl) (fun E => Nat.le_of_ble_eq_true rfl) ((e_M_sheetsOf F o a1 h).symm.trans e)
theorem co_M_sheetsOf (F : Nat × Nat) : jc_ok (2 + 0 * F.2 + 1) 272 (c_M_sheetsOf F) := by
  intro as h k out e
  unfold c_M_sheetsOf at e
  split at e
  · obtain ⟨a0, rfl, e1⟩ := js_rv e
    obtain ⟨hg, e2⟩ := js_if e1
    obtain ⟨r, h1, hm, e3⟩ := js_jbI e2
    exact ⟨_, _, _, Nat.le_refl _, k_M_sheetsOf F _ _ _ _ _ hm, ⟨fun _ => ⟨_, _, rfl, Or.inl ⟨7, by decide, hg, by decide +kernel⟩⟩, fun q => absurd q (by decide +kernel)⟩, e3⟩
  · cases e
def r_M_cover_25 (g : Nat → Int32 → Int32 → Int32 → Int32 → jH → Option jO) : jL → List Value → jH → Option jO := fun L S h => match L, S with
  | [some (.ref v0), some (.int v1), some (.int v2), some (.int v3), some (.int v4)], [] => g v0 v1 v2 v3 v4 h
  | _, _ => none
def c_M_cover (F : Nat × Nat) : jc1 := fun args h k => match args with
  | [w0, .int a1] => j_rv w0 fun a0 => if j_k h a0 = 17 then (jbI (m_M_cover F a0 a1 h) fun r h => k (some (.int r)) h) else none
  | _ => none
set_option maxRecDepth 100000 in
theorem e_M_cover_25 (F : Nat × Nat) (f : Nat) (v0 : Nat) (v1 : Int32) (v2 : Int32) (v3 : Int32) (v4 : Int32) (h : jH) : m_M_cover_25 F (f + 1) v0 v1 v2 v3 v4 h = jst (j_C [(157, c_M_lies F), (168, c_M_many F), (175, c_M_ones F), (272, c_M_sheetsOf F)]) 0 (cd_M_cover 25) [some (.ref v0), some (.int v1), some (.int v2), some (.int v3), some (.int v4)] [] h (jrun (j_C [(157, c_M_lies F), (168, c_M_many F), (175, c_M_ones F), (272, c_M_sheetsOf F)]) 0 cd_M_cover (j_T [(25, r_M_cover_25 (m_M_cover_25 F f))]) 49) := rfl
set_option maxRecDepth 100000 in
theorem e_M_cover (F : Nat × Nat) (o : Nat) (a1 : Int32) (h : jH) : m_M_cover F o a1 h = jrun (j_C [(157, c_M_lies F), (168, c_M_many F), (175, c_M_ones F), (272, c_M_sheetsOf F)]) 0 cd_M_cover (j_T [(25, r_M_cover_25 (m_M_cover_25 F F.1))]) 49 0 [some (.ref o), some (.int a1), none, none, none] [] h := rfl
theorem hc_M_cover (F : Nat × Nat) : jCok (3 + 0 * F.2) (j_C [(157, c_M_lies F), (168, c_M_many F), (175, c_M_ones F), (272, c_M_sheetsOf F)]) := jC_ok (List.forall_mem_cons.mpr ⟨(co_M_lies F).up (by omega), List.forall_mem_cons.mpr ⟨(co_M_many F).up (by omega), List.forall_mem_cons.mpr ⟨(co_M_ones F).up (by omega), List.forall_mem_cons.mpr ⟨(co_M_sheetsOf F).up (by omega), fun _ h => absurd h List.not_mem_nil⟩⟩⟩⟩)
theorem g_M_cover_25 (F : Nat × Nat) : ∀ f, jG M_M_cover (3 + 0 * F.2) 25 (r_M_cover_25 (m_M_cover_25 F f))
  | 0 => jG.no (fun L S h => by unfold r_M_cover_25; split <;> rfl)
  | f + 1 => (jst_ok ok_M_cover (hc_M_cover F) (jrun_ok ok_M_cover (hc_M_cover F) (jT_ok (List.forall_mem_cons.mpr ⟨g_M_cover_25 F f, fun _ h => absurd h List.not_mem_nil⟩)) 49) 25).of (fun L S h out e => by unfold r_M_cover_25 at e; split at e; exact (e_M_cover_25 F f _ _ _ _ _ _).symm.trans e; cases e)
theorem k_M_cover (F : Nat × Nat) (o : Nat) (a1 : Int32) (h : jH) (r : Option Value) (h1 : jH) (e : m_M_cover F o a1 h = some (r, h1)) : jM1 (3 + 0 * F.2) 271 [.ref o, .int a1] h r h1 := jM_of (M := M_M_cover) mok_M_cover (by decide +kernel) (by decide +kernel) (Or.inl ⟨rfl, rfl⟩) (fun q => nomatch q) (jrun_ok ok_M_cover (hc_M_cover F) (jT_ok (List.forall_mem_cons.mpr ⟨g_M_cover_25 F F.1, fun _ h => absurd h List.not_mem_nil⟩)) 49 0) (List.all_eq_true.mp rfl) (Nat.le_of_ble_eq_true rfl) (fun E => Nat.le_of_ble_eq_true rfl) ((e_M_cover F o a1 h).symm.trans e)
theorem co_M_cover (F : Nat × Nat) : jc_ok (3 + 0 * F.2 + 1) 271 (c_M_cover F) := by
  intro as h k out e
  unfold c_M_cover at e
  split at e
  · obtain ⟨a0, rfl, e1⟩ := js_rv e
    obtain ⟨hg, e2⟩ := js_if e1
    obtain ⟨r, h1, hm, e3⟩ := js_jbI e2
    exact ⟨_, _, _, Nat.le_refl _, k_M_cover F _ _ _ _ _ hm, ⟨fun _ => ⟨_, _, rfl, Or.inl ⟨7, by decide, hg, by decide +kernel⟩⟩, fun q => absurd q (by decide +kernel)⟩, e3⟩
  · cases e
def c_M_glimpse (F : Nat × Nat) : jc1 := fun args h k => match args with
  | [w0, .int a1, .int a2] => j_rv w0 fun a0 => if j_k h a0 = 17 then (jbI (m_M_glimpse F a0 a1 a2 h) fun r h => k (some (.int r)) h) else none
  | _ => none
set_option maxRecDepth 100000 in
theorem e_M_glimpse (F : Nat × Nat) (o : Nat) (a1 : Int32) (a2 : Int32) (h : jH) : m_M_glimpse F o a1 a2 h = jrun (j_C [(157, c_M_lies F), (158, c_M_refuses F), (159, c_M_good F)]) 0 cd_M_glimpse (j_T []) 65 0 [some (.ref o), some (.int a1), some (.int a2), none] [] h := rfl
theorem hc_M_glimpse (F : Nat × Nat) : jCok (1 + 0 * F.2) (j_C [(157, c_M_lies F), (158, c_M_refuses F), (159, c_M_good F)]) := jC_ok (List.forall_mem_cons.mpr ⟨(co_M_lies F).up (by omega), List.forall_mem_cons.mpr ⟨(co_M_refuses F).up (by omega), List.forall_mem_cons.mpr ⟨(co_M_good F).up (by omega), fun _ h => absurd h List.not_mem_nil⟩⟩⟩)
theorem k_M_glimpse (F : Nat × Nat) (o : Nat) (a1 : Int32) (a2 : Int32) (h : jH) (r : Option Value) (h1 : jH) (e : m_M_glimpse F o a1 a2 h = some (r, h1)) : jM1 (1 + 0 * F.2) 273 [.ref o, .int a1, .int a2] h r h1 := jM_of (M := M_M_glimpse) mok_M_glimpse (by decide +kernel) (by decide +kernel) (Or.inl ⟨rfl, rfl⟩) (fun q => nomatch q) (jrun_ok ok_M_glimpse (hc_M_glimpse F) (jT_ok (fun _ h => absurd h List.not_mem_nil)) 65 0) (List.all_eq_true.mp rfl) (Nat.le_of_ble_eq_true rfl) (fun E => Nat.le_of_ble_eq_true rfl) ((e_M_glimpse F o a1 a2 h).symm.trans e)
theorem co_M_glimpse (F : Nat × Nat) : jc_ok (1 + 0 * F.2 + 1) 273 (c_M_glimpse F) := by
  intro as h k out e
  unfold c_M_glimpse at e
  split at e
  · obtain ⟨a0, rfl, e1⟩ := js_rv e
    obtain ⟨hg, e2⟩ := js_if e1
    obtain ⟨r, h1, hm, e3⟩ := js_jbI e2
    exact ⟨_, _, _, Nat.le_refl _, k_M_glimpse F _ _ _ _ _ _ hm, ⟨fun _ => ⟨_, _, rfl, Or.inl ⟨7, by decide, hg, by decide +kernel⟩⟩, fun q => absurd q (by decide +kernel)⟩, e3⟩
  · cases e
def c_M_forget (F : Nat × Nat) : jc1 := fun args h k => match args with
  | [w0] => j_rv w0 fun a0 => if j_k h a0 = 17 then (jbI (m_M_forget F a0 h) fun r h => k (some (.int r)) h) else none
  | _ => none
set_option maxRecDepth 100000 in
theorem e_M_forget (F : Nat × Nat) (o : Nat) (h : jH) : m_M_forget F o h = jrun (j_C []) 0 cd_M_forget (j_T []) 17 0 [some (.ref o), none] [] h := rfl
theorem hc_M_forget (F : Nat × Nat) : jCok (0 + 0 * F.2) (j_C []) := jC_ok (fun _ h => absurd h List.not_mem_nil)
theorem k_M_forget (F : Nat × Nat) (o : Nat) (h : jH) (r : Option Value) (h1 : jH) (e : m_M_forget F o h = some (r, h1)) : jM1 (0 + 0 * F.2) 274 [.ref o] h r h1 := jM_of (M := M_M_forget) mok_M_forget (by decide +kernel) (by decide +kernel) (Or.inl ⟨rfl, rfl⟩) (fun q => nomatch q) (jrun_ok ok_M_forget (hc_M_forget F) (jT_ok (fun _ h => absurd h List.not_mem_nil)) 17 0) (List.all_eq_true.mp rfl) (Nat.le_of_ble_eq_true rfl) (fun E => Nat.le_of_ble_eq_true rfl) ((e_M_forget F o h).symm.trans e)
theorem co_M_forget (F : Nat × Nat) : jc_ok (0 + 0 * F.2 + 1) 274 (c_M_forget F) := by
  intro as h k out e
  unfold c_M_forget at e
  split at e
  · obtain ⟨a0, rfl, e1⟩ := js_rv e
    obtain ⟨hg, e2⟩ := js_if e1
    obtain ⟨r, h1, hm, e3⟩ := js_jbI e2
    exact ⟨_, _, _, Nat.le_refl _, k_M_forget F _ _ _ _ hm, ⟨fun _ => ⟨_, _, rfl, Or.inl ⟨7, by decide, hg, by decide +kernel⟩⟩, fun q => absurd q (by decide +kernel)⟩, e3⟩
  · cases e
def c_M_glimpsed (F : Nat × Nat) : jc1 := fun args h k => match args with
  | [w0, .int a1, .int a2] => j_rv w0 fun a0 => if j_k h a0 = 17 then (jbI (m_M_glimpsed F a0 a1 a2 h) fun r h => k (some (.int r)) h) else none
  | _ => none
set_option maxRecDepth 100000 in
theorem e_M_glimpsed (F : Nat × Nat) (o : Nat) (a1 : Int32) (a2 : Int32) (h : jH) : m_M_glimpsed F o a1 a2 h = jrun (j_C [(193, c_M_cellAt F)]) 0 cd_M_glimpsed (j_T []) 21 0 [some (.ref o), some (.int a1), some (.int a2), none] [] h := rfl
theorem hc_M_glimpsed (F : Nat × Nat) : jCok (1 + 0 * F.2) (j_C [(193, c_M_cellAt F)]) := jC_ok (List.forall_mem_cons.mpr ⟨(co_M_cellAt F).up (by omega), fun _ h => absurd h List.not_mem_nil⟩)
theorem k_M_glimpsed (F : Nat × Nat) (o : Nat) (a1 : Int32) (a2 : Int32) (h : jH) (r : Option Value) (h1 : jH) (e : m_M_glimpsed F o a1 a2 h = some (r, h1)) : jM1 (1 + 0 * F.2) 276 [.ref o, .int a1, .int a2] h r h1 := jM_of (M := M_M_glimpsed) mok_M_glimpsed (by decide +kernel) (by decide +kernel) (Or.inl ⟨rfl, rfl⟩) (fun q => nomatch q) (jrun_ok ok_M_glimpsed (hc_M_glimpsed F) (jT_ok (fun _ h => absurd h List.not_mem_nil)) 21 0) (List.all_eq_true.mp rfl) (Nat.le_of_ble_eq_true rfl) (fun E => Nat.le_of_ble_eq_true rfl) ((e_M_glimpsed F o a1 a2 h).symm.trans e)
theorem co_M_glimpsed (F : Nat × Nat) : jc_ok (1 + 0 * F.2 + 1) 276 (c_M_glimpsed F) := by
  intro as h k out e
  unfold c_M_glimpsed at e
  split at e
  · obtain ⟨a0, rfl, e1⟩ := js_rv e
    obtain ⟨hg, e2⟩ := js_if e1
    obtain ⟨r, h1, hm, e3⟩ := js_jbI e2
    exact ⟨_, _, _, Nat.le_refl _, k_M_glimpsed F _ _ _ _ _ _ hm, ⟨fun _ => ⟨_, _, rfl, Or.inl ⟨7, by decide, hg, by decide +kernel⟩⟩, fun q => absurd q (by decide +kernel)⟩, e3⟩
  · cases e
def r_M_yard_15 (g : Nat → Int32 → Int32 → Int32 → Int32 → jH → Option jO) : jL → List Value → jH → Option jO := fun L S h => match L, S with
  | [some (.ref v0), some (.int v1), some (.int v2), some (.int v3), some (.int v4)], [] => g v0 v1 v2 v3 v4 h
  | _, _ => none
def r_M_yard_4 (g : Nat → Int32 → Int32 → jH → Option jO) : jL → List Value → jH → Option jO := fun L S h => match L, S with
  | [some (.ref v0), some (.int v1), some (.int v2), _, _], [] => g v0 v1 v2 h
  | _, _ => none
def c_M_yard (F : Nat × Nat) : jc1 := fun args h k => match args with
  | [w0] => j_rv w0 fun a0 => if j_k h a0 = 17 then (jbI (m_M_yard F a0 h) fun r h => k (some (.int r)) h) else none
  | _ => none
set_option maxRecDepth 100000 in
theorem e_M_yard_15 (F : Nat × Nat) (k4 : Nat → Int32 → Int32 → jH → Option jO) (f : Nat) (v0 : Nat) (v1 : Int32) (v2 : Int32) (v3 : Int32) (v4 : Int32) (h : jH) : m_M_yard_15 F k4 (f + 1) v0 v1 v2 v3 v4 h = jst (j_C [(276, c_M_glimpsed F)]) 0 (cd_M_yard 15) [some (.ref v0), some (.int v1), some (.int v2), some (.int v3), some (.int v4)] [] h (jrun (j_C [(276, c_M_glimpsed F)]) 0 cd_M_yard (j_T [(4, r_M_yard_4 k4), (15, r_M_yard_15 (m_M_yard_15 F k4 f))]) 66) := rfl
set_option maxRecDepth 100000 in
theorem e_M_yard_4 (F : Nat × Nat) (f : Nat) (v0 : Nat) (v1 : Int32) (v2 : Int32) (u1 : Option Value) (u2 : Option Value) (h : jH) : m_M_yard_4 F (f + 1) v0 v1 v2 h = jst (j_C [(276, c_M_glimpsed F)]) 0 (cd_M_yard 4) [some (.ref v0), some (.int v1), some (.int v2), u1, u2] [] h (jrun (j_C [(276, c_M_glimpsed F)]) 0 cd_M_yard (j_T [(15, r_M_yard_15 (m_M_yard_15 F (m_M_yard_4 F f) F.1))]) 66) := rfl
set_option maxRecDepth 100000 in
theorem e_M_yard (F : Nat × Nat) (o : Nat) (h : jH) : m_M_yard F o h = jrun (j_C [(276, c_M_glimpsed F)]) 0 cd_M_yard (j_T [(4, r_M_yard_4 (m_M_yard_4 F F.1))]) 66 0 [some (.ref o), none, none, none, none] [] h := rfl
theorem hc_M_yard (F : Nat × Nat) : jCok (2 + 0 * F.2) (j_C [(276, c_M_glimpsed F)]) := jC_ok (List.forall_mem_cons.mpr ⟨(co_M_glimpsed F).up (by omega), fun _ h => absurd h List.not_mem_nil⟩)
theorem g_M_yard_15 (F : Nat × Nat) (k4 : Nat → Int32 → Int32 → jH → Option jO) (hk4 : jG M_M_yard (2 + 0 * F.2) 4 (r_M_yard_4 k4)) : ∀ f, jG M_M_yard (2 + 0 * F.2) 15 (r_M_yard_15 (m_M_yard_15 F k4 f))
  | 0 => jG.no (fun L S h => by unfold r_M_yard_15; split <;> rfl)
  | f + 1 => (jst_ok ok_M_yard (hc_M_yard F) (jrun_ok ok_M_yard (hc_M_yard F) (jT_ok (List.forall_mem_cons.mpr ⟨hk4, List.forall_mem_cons.mpr ⟨g_M_yard_15 F k4 hk4 f, fun _ h => absurd h List.not_mem_nil⟩⟩)) 66) 15).of (fun L S h out e => by unfold r_M_yard_15 at e; split at e; exact (e_M_yard_15 F k4 f _ _ _ _ _ _).symm.trans e; cases e)
theorem g_M_yard_4 (F : Nat × Nat) : ∀ f, jG M_M_yard (2 + 0 * F.2) 4 (r_M_yard_4 (m_M_yard_4 F f))
  | 0 => jG.no (fun L S h => by unfold r_M_yard_4; split <;> rfl)
  | f + 1 => (jst_ok ok_M_yard (hc_M_yard F) (jrun_ok ok_M_yard (hc_M_yard F) (jT_ok (List.forall_mem_cons.mpr ⟨g_M_yard_15 F _ (g_M_yard_4 F f) F.1, fun _ h => absurd h List.not_mem_nil⟩)) 66) 4).of (fun L S h out e => by unfold r_M_yard_4 at e; split at e; exact (e_M_yard_4 F f _ _ _ _ _ _).symm.trans e; cases e)
theorem k_M_yard (F : Nat × Nat) (o : Nat) (h : jH) (r : Option Value) (h1 : jH) (e : m_M_yard F o h = some (r, h1)) : jM1 (2 + 0 * F.2) 275 [.ref o] h r h1 := jM_of (M := M_M_yard) mok_M_yard (by decide +kernel) (by decide +kernel) (Or.inl ⟨rfl, rfl⟩) (fun q => nomatch q) (jrun_ok ok_M_yard (hc_M_yard F) (jT_ok (List.forall_mem_cons.mpr ⟨g_M_yard_4 F F.1, fun _ h => absurd h List.not_mem_nil⟩)) 66 0) (List.all_eq_true.mp rfl) (Nat.le_of_ble_eq_true rfl) (fun E => Nat.le_of_ble_eq_true rfl) ((e_M_yard F o h).symm.trans e)
theorem co_M_yard (F : Nat × Nat) : jc_ok (2 + 0 * F.2 + 1) 275 (c_M_yard F) := by
  intro as h k out e
  unfold c_M_yard at e
  split at e
  · obtain ⟨a0, rfl, e1⟩ := js_rv e
    obtain ⟨hg, e2⟩ := js_if e1
    obtain ⟨r, h1, hm, e3⟩ := js_jbI e2
    exact ⟨_, _, _, Nat.le_refl _, k_M_yard F _ _ _ _ hm, ⟨fun _ => ⟨_, _, rfl, Or.inl ⟨7, by decide, hg, by decide +kernel⟩⟩, fun q => absurd q (by decide +kernel)⟩, e3⟩
  · cases e
def r_M_look_64 (g : Nat → Int32 → Int32 → Int32 → Int32 → Int32 → Int32 → Int32 → jH → Option jO) : jL → List Value → jH → Option jO := fun L S h => match L, S with
  | [some (.ref v0), some (.int v1), some (.int v2), some (.int v3), some (.int v4), some (.int v5), some (.int v6), some (.int v7)], [] => g v0 v1 v2 v3 v4 v5 v6 v7 h
  | _, _ => none
def r_M_look_38 (g : Nat → Int32 → Int32 → Int32 → Int32 → Int32 → Int32 → jH → Option jO) : jL → List Value → jH → Option jO := fun L S h => match L, S with
  | [some (.ref v0), some (.int v1), some (.int v2), some (.int v3), some (.int v4), some (.int v5), some (.int v6), _], [] => g v0 v1 v2 v3 v4 v5 v6 h
  | _, _ => none
def r_M_look_25 (g : Nat → Int32 → Int32 → Int32 → Int32 → Int32 → jH → Option jO) : jL → List Value → jH → Option jO := fun L S h => match L, S with
  | [some (.ref v0), some (.int v1), some (.int v2), some (.int v3), some (.int v4), some (.int v5), _, _], [] => g v0 v1 v2 v3 v4 v5 h
  | _, _ => none
def c_M_look (F : Nat × Nat) : jc1 := fun args h k => match args with
  | [w0, .int a1] => j_rv w0 fun a0 => if j_k h a0 = 17 then (jbI (m_M_look F a0 a1 h) fun r h => k (some (.int r)) h) else none
  | _ => none
set_option maxRecDepth 100000 in
theorem e_M_look_64 (F : Nat × Nat) (k25 : Nat → Int32 → Int32 → Int32 → Int32 → Int32 → jH → Option jO) (f : Nat) (v0 : Nat) (v1 : Int32) (v2 : Int32) (v3 : Int32) (v4 : Int32) (v5 : Int32) (v6 : Int32) (v7 : Int32) (h : jH) : m_M_look_64 F k25 (f + 1) v0 v1 v2 v3 v4 v5 v6 v7 h = jst (j_C [(157, c_M_lies F), (240, c_M_isIn F), (259, c_M_greater F), (275, c_M_yard F), (276, c_M_glimpsed F)]) 0 (cd_M_look 64) [some (.ref v0), some (.int v1), some (.int v2), some (.int v3), some (.int v4), some (.int v5), some (.int v6), some (.int v7)] [] h (jrun (j_C [(157, c_M_lies F), (240, c_M_isIn F), (259, c_M_greater F), (275, c_M_yard F), (276, c_M_glimpsed F)]) 0 cd_M_look (j_T [(25, r_M_look_25 k25), (64, r_M_look_64 (m_M_look_64 F k25 f))]) 92) := rfl
set_option maxRecDepth 100000 in
theorem e_M_look_38 (F : Nat × Nat) (k25 : Nat → Int32 → Int32 → Int32 → Int32 → Int32 → jH → Option jO) (f : Nat) (v0 : Nat) (v1 : Int32) (v2 : Int32) (v3 : Int32) (v4 : Int32) (v5 : Int32) (v6 : Int32) (u1 : Option Value) (h : jH) : m_M_look_38 F k25 (f + 1) v0 v1 v2 v3 v4 v5 v6 h = jst (j_C [(157, c_M_lies F), (240, c_M_isIn F), (259, c_M_greater F), (275, c_M_yard F), (276, c_M_glimpsed F)]) 0 (cd_M_look 38) [some (.ref v0), some (.int v1), some (.int v2), some (.int v3), some (.int v4), some (.int v5), some (.int v6), u1] [] h (jrun (j_C [(157, c_M_lies F), (240, c_M_isIn F), (259, c_M_greater F), (275, c_M_yard F), (276, c_M_glimpsed F)]) 0 cd_M_look (j_T [(38, r_M_look_38 (m_M_look_38 F k25 f)), (64, r_M_look_64 (m_M_look_64 F k25 F.1))]) 92) := rfl
set_option maxRecDepth 100000 in
theorem e_M_look_25 (F : Nat × Nat) (f : Nat) (v0 : Nat) (v1 : Int32) (v2 : Int32) (v3 : Int32) (v4 : Int32) (v5 : Int32) (u1 : Option Value) (u2 : Option Value) (h : jH) : m_M_look_25 F (f + 1) v0 v1 v2 v3 v4 v5 h = jst (j_C [(157, c_M_lies F), (240, c_M_isIn F), (259, c_M_greater F), (275, c_M_yard F), (276, c_M_glimpsed F)]) 0 (cd_M_look 25) [some (.ref v0), some (.int v1), some (.int v2), some (.int v3), some (.int v4), some (.int v5), u1, u2] [] h (jrun (j_C [(157, c_M_lies F), (240, c_M_isIn F), (259, c_M_greater F), (275, c_M_yard F), (276, c_M_glimpsed F)]) 0 cd_M_look (j_T [(38, r_M_look_38 (m_M_look_38 F (m_M_look_25 F f) F.1))]) 92) := rfl
set_option maxRecDepth 100000 in
theorem e_M_look (F : Nat × Nat) (o : Nat) (a1 : Int32) (h : jH) : m_M_look F o a1 h = jrun (j_C [(157, c_M_lies F), (240, c_M_isIn F), (259, c_M_greater F), (275, c_M_yard F), (276, c_M_glimpsed F)]) 0 cd_M_look (j_T [(25, r_M_look_25 (m_M_look_25 F F.1))]) 92 0 [some (.ref o), some (.int a1), none, none, none, none, none, none] [] h := rfl
theorem hc_M_look (F : Nat × Nat) : jCok (3 + 0 * F.2) (j_C [(157, c_M_lies F), (240, c_M_isIn F), (259, c_M_greater F), (275, c_M_yard F), (276, c_M_glimpsed F)]) := jC_ok (List.forall_mem_cons.mpr ⟨(co_M_lies F).up (by omega), List.forall_mem_cons.mpr ⟨(co_M_isIn F).up (by omega), List.forall_mem_cons.mpr ⟨(co_M_greater F).up (by omega), List.forall_mem_cons.mpr ⟨(co_M_yard F).up (by omega), List.forall_mem_cons.mpr ⟨(co_M_glimpsed F).up (by omega), fun _ h => absurd h List.not_mem_nil⟩⟩⟩⟩⟩)
theorem g_M_look_64 (F : Nat × Nat) (k25 : Nat → Int32 → Int32 → Int32 → Int32 → Int32 → jH → Option jO) (hk25 : jG M_M_look (3 + 0 * F.2) 25 (r_M_look_25 k25)) : ∀ f, jG M_M_look (3 + 0 * F.2) 64 (r_M_look_64 (m_M_look_64 F k25 f))
  | 0 => jG.no (fun L S h => by unfold r_M_look_64; split <;> rfl)
  | f + 1 => (jst_ok ok_M_look (hc_M_look F) (jrun_ok ok_M_look (hc_M_look F) (jT_ok (List.forall_mem_cons.mpr ⟨hk25, List.forall_mem_cons.mpr ⟨g_M_look_64 F k25 hk25 f, fun _ h => absurd h List.not_mem_nil⟩⟩)) 92) 64).of (fun L S h out e => by unfold r_M_look_64 at e; split at e; exact (e_M_look_64 F k25 f _ _ _ _ _ _ _ _ _).symm.trans e; cases e)
theorem g_M_look_38 (F : Nat × Nat) (k25 : Nat → Int32 → Int32 → Int32 → Int32 → Int32 → jH → Option jO) (hk25 : jG M_M_look (3 + 0 * F.2) 25 (r_M_look_25 k25)) : ∀ f, jG M_M_look (3 + 0 * F.2) 38 (r_M_look_38 (m_M_look_38 F k25 f))
  | 0 => jG.no (fun L S h => by unfold r_M_look_38; split <;> rfl)
  | f + 1 => (jst_ok ok_M_look (hc_M_look F) (jrun_ok ok_M_look (hc_M_look F) (jT_ok (List.forall_mem_cons.mpr ⟨g_M_look_38 F k25 hk25 f, List.forall_mem_cons.mpr ⟨g_M_look_64 F k25 hk25 F.1, fun _ h => absurd h List.not_mem_nil⟩⟩)) 92) 38).of (fun L S h out e => by unfold r_M_look_38 at e; split at e; exact (e_M_look_38 F k25 f _ _ _ _ _ _ _ _ _).symm.trans e; cases e)
theorem g_M_look_25 (F : Nat × Nat) : ∀ f, jG M_M_look (3 + 0 * F.2) 25 (r_M_look_25 (m_M_look_25 F f))
  | 0 => jG.no (fun L S h => by unfold r_M_look_25; split <;> rfl)
  | f + 1 => (jst_ok ok_M_look (hc_M_look F) (jrun_ok ok_M_look (hc_M_look F) (jT_ok (List.forall_mem_cons.mpr ⟨g_M_look_38 F _ (g_M_look_25 F f) F.1, fun _ h => absurd h List.not_mem_nil⟩)) 92) 25).of (fun L S h out e => by unfold r_M_look_25 at e; split at e; exact (e_M_look_25 F f _ _ _ _ _ _ _ _ _).symm.trans e; cases e)
theorem k_M_look (F : Nat × Nat) (o : Nat) (a1 : Int32) (h : jH) (r : Option Value) (h1 : jH) (e : m_M_look F o a1 h = some (r, h1)) : jM1 (3 + 0 * F.2) 277 [.ref o, .int a1] h r h1 := jM_of (M := M_M_look) mok_M_look (by decide +kernel) (by decide +kernel) (Or.inl ⟨rfl, rfl⟩) (fun q => nomatch q) (jrun_ok ok_M_look (hc_M_look F) (jT_ok (List.forall_mem_cons.mpr ⟨g_M_look_25 F F.1, fun _ h => absurd h List.not_mem_nil⟩)) 92 0) (List.all_eq_true.mp rfl) (Nat.le_of_ble_eq_true rfl) (fun E => Nat.le_of_ble_eq_true rfl) ((e_M_look F o a1 h).symm.trans e)
theorem co_M_look (F : Nat × Nat) : jc_ok (3 + 0 * F.2 + 1) 277 (c_M_look F) := by
  intro as h k out e
  unfold c_M_look at e
  split at e
  · obtain ⟨a0, rfl, e1⟩ := js_rv e
    obtain ⟨hg, e2⟩ := js_if e1
    obtain ⟨r, h1, hm, e3⟩ := js_jbI e2
    exact ⟨_, _, _, Nat.le_refl _, k_M_look F _ _ _ _ _ hm, ⟨fun _ => ⟨_, _, rfl, Or.inl ⟨7, by decide, hg, by decide +kernel⟩⟩, fun q => absurd q (by decide +kernel)⟩, e3⟩
  · cases e
def r_M_few_153 (g : Nat → Int32 → Int64 → Int32 → jH → Option jO) : jL → List Value → jH → Option jO := fun L S h => match L, S with
  | [some (.ref v0), some (.int v1), _, some (.long v3), some (.float _), some (.int v5)], [] => g v0 v1 v3 v5 h
  | _, _ => none
def r_M_few_67 (g : Nat → Int32 → Int32 → Int32 → Int32 → jH → Option jO) : jL → List Value → jH → Option jO := fun L S h => match L, S with
  | [some (.ref v0), some (.int v1), some (.int v2), some (.int v3), some (.int v4), _], [] => g v0 v1 v2 v3 v4 h
  | _, _ => none
def r_M_few_57 (g : Nat → Int32 → Int32 → Int32 → jH → Option jO) : jL → List Value → jH → Option jO := fun L S h => match L, S with
  | [some (.ref v0), some (.int v1), some (.int v2), some (.int v3), _, _], [] => g v0 v1 v2 v3 h
  | _, _ => none
def r_M_few_26 (g : Nat → Int32 → Int32 → Int32 → jH → Option jO) : jL → List Value → jH → Option jO := fun L S h => match L, S with
  | [some (.ref v0), some (.int v1), some (.int v2), some (.int v3), _, _], [] => g v0 v1 v2 v3 h
  | _, _ => none
def c_M_few (F : Nat × Nat) : jc1 := fun args h k => match args with
  | [w0, .int a1, .int a2] => j_rv w0 fun a0 => if j_k h a0 = 17 then (jbJ (m_M_few F a0 a1 a2 h) fun r h => k (some (.long r)) h) else none
  | _ => none
set_option maxRecDepth 100000 in
theorem e_M_few_153 (F : Nat × Nat) (f : Nat) (v0 : Nat) (v1 : Int32) (v3 : Int64) (v5 : Int32) (u1 : Option Value) (w1 : UInt32) (h : jH) : m_M_few_153 F (f + 1) v0 v1 v3 v5 h = jst (j_C [(157, c_M_lies F)]) 2 (cd_M_few 153) [some (.ref v0), some (.int v1), u1, some (.long v3), some (.float w1), some (.int v5)] [] h (jrun (j_C [(157, c_M_lies F)]) 2 cd_M_few (j_T [(153, r_M_few_153 (m_M_few_153 F f))]) 105) := rfl
set_option maxRecDepth 100000 in
theorem e_M_few_67 (F : Nat × Nat) (k57 : Nat → Int32 → Int32 → Int32 → jH → Option jO) (f : Nat) (v0 : Nat) (v1 : Int32) (v2 : Int32) (v3 : Int32) (v4 : Int32) (u1 : Option Value) (h : jH) : m_M_few_67 F k57 (f + 1) v0 v1 v2 v3 v4 h = jst (j_C [(157, c_M_lies F)]) 2 (cd_M_few 67) [some (.ref v0), some (.int v1), some (.int v2), some (.int v3), some (.int v4), u1] [] h (jrun (j_C [(157, c_M_lies F)]) 2 cd_M_few (j_T [(57, r_M_few_57 k57), (67, r_M_few_67 (m_M_few_67 F k57 f))]) 105) := rfl
set_option maxRecDepth 100000 in
theorem e_M_few_57 (F : Nat × Nat) (f : Nat) (v0 : Nat) (v1 : Int32) (v2 : Int32) (v3 : Int32) (u1 : Option Value) (u2 : Option Value) (h : jH) : m_M_few_57 F (f + 1) v0 v1 v2 v3 h = jst (j_C [(157, c_M_lies F)]) 2 (cd_M_few 57) [some (.ref v0), some (.int v1), some (.int v2), some (.int v3), u1, u2] [] h (jrun (j_C [(157, c_M_lies F)]) 2 cd_M_few (j_T [(67, r_M_few_67 (m_M_few_67 F (m_M_few_57 F f) F.1)), (153, r_M_few_153 (m_M_few_153 F F.1))]) 105) := rfl
set_option maxRecDepth 100000 in
theorem e_M_few_26 (F : Nat × Nat) (f : Nat) (v0 : Nat) (v1 : Int32) (v2 : Int32) (v3 : Int32) (u1 : Option Value) (u2 : Option Value) (h : jH) : m_M_few_26 F (f + 1) v0 v1 v2 v3 h = jst (j_C [(157, c_M_lies F)]) 2 (cd_M_few 26) [some (.ref v0), some (.int v1), some (.int v2), some (.int v3), u1, u2] [] h (jrun (j_C [(157, c_M_lies F)]) 2 cd_M_few (j_T [(26, r_M_few_26 (m_M_few_26 F f)), (57, r_M_few_57 (m_M_few_57 F F.1))]) 105) := rfl
set_option maxRecDepth 100000 in
theorem e_M_few (F : Nat × Nat) (o : Nat) (a1 : Int32) (a2 : Int32) (h : jH) : m_M_few F o a1 a2 h = jrun (j_C [(157, c_M_lies F)]) 2 cd_M_few (j_T [(26, r_M_few_26 (m_M_few_26 F F.1))]) 105 0 [some (.ref o), some (.int a1), some (.int a2), none, none, none] [] h := rfl
theorem hc_M_few (F : Nat × Nat) : jCok (1 + 0 * F.2) (j_C [(157, c_M_lies F)]) := jC_ok (List.forall_mem_cons.mpr ⟨(co_M_lies F).up (by omega), fun _ h => absurd h List.not_mem_nil⟩)
theorem g_M_few_153 (F : Nat × Nat) : ∀ f, jG M_M_few (1 + 0 * F.2) 153 (r_M_few_153 (m_M_few_153 F f))
  | 0 => jG.no (fun L S h => by unfold r_M_few_153; split <;> rfl)
  | f + 1 => (jst_ok ok_M_few (hc_M_few F) (jrun_ok ok_M_few (hc_M_few F) (jT_ok (List.forall_mem_cons.mpr ⟨g_M_few_153 F f, fun _ h => absurd h List.not_mem_nil⟩)) 105) 153).of (fun L S h out e => by unfold r_M_few_153 at e; split at e; exact (e_M_few_153 F f _ _ _ _ _ _ _).symm.trans e; cases e)
theorem g_M_few_67 (F : Nat × Nat) (k57 : Nat → Int32 → Int32 → Int32 → jH → Option jO) (hk57 : jG M_M_few (1 + 0 * F.2) 57 (r_M_few_57 k57)) : ∀ f, jG M_M_few (1 + 0 * F.2) 67 (r_M_few_67 (m_M_few_67 F k57 f))
  | 0 => jG.no (fun L S h => by unfold r_M_few_67; split <;> rfl)
  | f + 1 => (jst_ok ok_M_few (hc_M_few F) (jrun_ok ok_M_few (hc_M_few F) (jT_ok (List.forall_mem_cons.mpr ⟨hk57, List.forall_mem_cons.mpr ⟨g_M_few_67 F k57 hk57 f, fun _ h => absurd h List.not_mem_nil⟩⟩)) 105) 67).of (fun L S h out e => by unfold r_M_few_67 at e; split at e; exact (e_M_few_67 F k57 f _ _ _ _ _ _ _).symm.trans e; cases e)
theorem g_M_few_57 (F : Nat × Nat) : ∀ f, jG M_M_few (1 + 0 * F.2) 57 (r_M_few_57 (m_M_few_57 F f))
  | 0 => jG.no (fun L S h => by unfold r_M_few_57; split <;> rfl)
  | f + 1 => (jst_ok ok_M_few (hc_M_few F) (jrun_ok ok_M_few (hc_M_few F) (jT_ok (List.forall_mem_cons.mpr ⟨g_M_few_67 F _ (g_M_few_57 F f) F.1, List.forall_mem_cons.mpr ⟨g_M_few_153 F F.1, fun _ h => absurd h List.not_mem_nil⟩⟩)) 105) 57).of (fun L S h out e => by unfold r_M_few_57 at e; split at e; exact (e_M_few_57 F f _ _ _ _ _ _ _).symm.trans e; cases e)
theorem g_M_few_26 (F : Nat × Nat) : ∀ f, jG M_M_few (1 + 0 * F.2) 26 (r_M_few_26 (m_M_few_26 F f))
  | 0 => jG.no (fun L S h => by unfold r_M_few_26; split <;> rfl)
  | f + 1 => (jst_ok ok_M_few (hc_M_few F) (jrun_ok ok_M_few (hc_M_few F) (jT_ok (List.forall_mem_cons.mpr ⟨g_M_few_26 F f, List.forall_mem_cons.mpr ⟨g_M_few_57 F F.1, fun _ h => absurd h List.not_mem_nil⟩⟩)) 105) 26).of (fun L S h out e => by unfold r_M_few_26 at e; split at e; exact (e_M_few_26 F f _ _ _ _ _ _ _).symm.trans e; cases e)
theorem k_M_few (F : Nat × Nat) (o : Nat) (a1 : Int32) (a2 : Int32) (h : jH) (r : Option Value) (h1 : jH) (e : m_M_few F o a1 a2 h = some (r, h1)) : jM1 (1 + 0 * F.2) 278 [.ref o, .int a1, .int a2] h r h1 := jM_of (M := M_M_few) mok_M_few (by decide +kernel) (by decide +kernel) (Or.inr (Or.inr (Or.inl ⟨rfl, rfl⟩))) (fun q => nomatch q) (jrun_ok ok_M_few (hc_M_few F) (jT_ok (List.forall_mem_cons.mpr ⟨g_M_few_26 F F.1, fun _ h => absurd h List.not_mem_nil⟩)) 105 0) (List.all_eq_true.mp rfl) (Nat.le_of_ble_eq_true rfl) (fun E => Nat.le_of_ble_eq_true rfl) ((e_M_few F o a1 a2 h).symm.trans e)
theorem co_M_few (F : Nat × Nat) : jc_ok (1 + 0 * F.2 + 1) 278 (c_M_few F) := by
  intro as h k out e
  unfold c_M_few at e
  split at e
  · obtain ⟨a0, rfl, e1⟩ := js_rv e
    obtain ⟨hg, e2⟩ := js_if e1
    obtain ⟨r, h1, hm, e3⟩ := js_jbJ e2
    exact ⟨_, _, _, Nat.le_refl _, k_M_few F _ _ _ _ _ _ hm, ⟨fun _ => ⟨_, _, rfl, Or.inl ⟨7, by decide, hg, by decide +kernel⟩⟩, fun q => absurd q (by decide +kernel)⟩, e3⟩
  · cases e
def c_M_stopped (F : Nat × Nat) : jc1 := fun args h k => match args with
  | [w0] => j_rv w0 fun a0 => if j_k h a0 = 17 then (jbI (m_M_stopped F a0 h) fun r h => k (some (.int r)) h) else none
  | _ => none
set_option maxRecDepth 100000 in
theorem e_M_stopped (F : Nat × Nat) (o : Nat) (h : jH) : m_M_stopped F o h = jrun (j_C []) 0 cd_M_stopped (j_T []) 8 0 [some (.ref o)] [] h := rfl
theorem hc_M_stopped (F : Nat × Nat) : jCok (0 + 0 * F.2) (j_C []) := jC_ok (fun _ h => absurd h List.not_mem_nil)
theorem k_M_stopped (F : Nat × Nat) (o : Nat) (h : jH) (r : Option Value) (h1 : jH) (e : m_M_stopped F o h = some (r, h1)) : jM1 (0 + 0 * F.2) 279 [.ref o] h r h1 := jM_of (M := M_M_stopped) mok_M_stopped (by decide +kernel) (by decide +kernel) (Or.inl ⟨rfl, rfl⟩) (fun q => nomatch q) (jrun_ok ok_M_stopped (hc_M_stopped F) (jT_ok (fun _ h => absurd h List.not_mem_nil)) 8 0) (List.all_eq_true.mp rfl) (Nat.le_of_ble_eq_true rfl) (fun E => Nat.le_of_ble_eq_true rfl) ((e_M_stopped F o h).symm.trans e)
theorem co_M_stopped (F : Nat × Nat) : jc_ok (0 + 0 * F.2 + 1) 279 (c_M_stopped F) := by
  intro as h k out e
  unfold c_M_stopped at e
  split at e
  · obtain ⟨a0, rfl, e1⟩ := js_rv e
    obtain ⟨hg, e2⟩ := js_if e1
    obtain ⟨r, h1, hm, e3⟩ := js_jbI e2
    exact ⟨_, _, _, Nat.le_refl _, k_M_stopped F _ _ _ _ hm, ⟨fun _ => ⟨_, _, rfl, Or.inl ⟨7, by decide, hg, by decide +kernel⟩⟩, fun q => absurd q (by decide +kernel)⟩, e3⟩
  · cases e
def r_M_laysAside_2 (g : Nat → Int32 → Int32 → jH → Option jO) : jL → List Value → jH → Option jO := fun L S h => match L, S with
  | [some (.ref v0), some (.int v1), some (.int v2)], [] => g v0 v1 v2 h
  | _, _ => none
def c_M_laysAside (F : Nat × Nat) : jc1 := fun args h k => match args with
  | [w0, .int a1] => j_rv w0 fun a0 => if j_k h a0 = 17 then (jbV (m_M_laysAside F a0 a1 h) fun h => k none h) else none
  | _ => none
set_option maxRecDepth 100000 in
theorem e_M_laysAside_2 (F : Nat × Nat) (f : Nat) (v0 : Nat) (v1 : Int32) (v2 : Int32) (h : jH) : m_M_laysAside_2 F (f + 1) v0 v1 v2 h = jst (j_C []) 4 (cd_M_laysAside 2) [some (.ref v0), some (.int v1), some (.int v2)] [] h (jrun (j_C []) 4 cd_M_laysAside (j_T [(2, r_M_laysAside_2 (m_M_laysAside_2 F f))]) 25) := rfl
set_option maxRecDepth 100000 in
theorem e_M_laysAside (F : Nat × Nat) (o : Nat) (a1 : Int32) (h : jH) : m_M_laysAside F o a1 h = jrun (j_C []) 4 cd_M_laysAside (j_T [(2, r_M_laysAside_2 (m_M_laysAside_2 F F.1))]) 25 0 [some (.ref o), some (.int a1), none] [] h := rfl
theorem hc_M_laysAside (F : Nat × Nat) : jCok (0 + 0 * F.2) (j_C []) := jC_ok (fun _ h => absurd h List.not_mem_nil)
theorem g_M_laysAside_2 (F : Nat × Nat) : ∀ f, jG M_M_laysAside (0 + 0 * F.2) 2 (r_M_laysAside_2 (m_M_laysAside_2 F f))
  | 0 => jG.no (fun L S h => by unfold r_M_laysAside_2; split <;> rfl)
  | f + 1 => (jst_ok ok_M_laysAside (hc_M_laysAside F) (jrun_ok ok_M_laysAside (hc_M_laysAside F) (jT_ok (List.forall_mem_cons.mpr ⟨g_M_laysAside_2 F f, fun _ h => absurd h List.not_mem_nil⟩)) 25) 2).of (fun L S h out e => by unfold r_M_laysAside_2 at e; split at e; exact (e_M_laysAside_2 F f _ _ _ _).symm.trans e; cases e)
theorem k_M_laysAside (F : Nat × Nat) (o : Nat) (a1 : Int32) (h : jH) (r : Option Value) (h1 : jH) (e : m_M_laysAside F o a1 h = some (r, h1)) : jM1 (0 + 0 * F.2) 281 [.ref o, .int a1] h r h1 := jM_of (M := M_M_laysAside) mok_M_laysAside (by decide +kernel) (by decide +kernel) (Or.inr (Or.inr (Or.inr (Or.inr ⟨rfl, rfl⟩)))) (fun q => nomatch q) (jrun_ok ok_M_laysAside (hc_M_laysAside F) (jT_ok (List.forall_mem_cons.mpr ⟨g_M_laysAside_2 F F.1, fun _ h => absurd h List.not_mem_nil⟩)) 25 0) (List.all_eq_true.mp rfl) (Nat.le_of_ble_eq_true rfl) (fun E => Nat.le_of_ble_eq_true rfl) ((e_M_laysAside F o a1 h).symm.trans e)
theorem co_M_laysAside (F : Nat × Nat) : jc_ok (0 + 0 * F.2 + 1) 281 (c_M_laysAside F) := by
  intro as h k out e
  unfold c_M_laysAside at e
  split at e
  · obtain ⟨a0, rfl, e1⟩ := js_rv e
    obtain ⟨hg, e2⟩ := js_if e1
    obtain ⟨h1, hm, e3⟩ := js_jbV e2
    exact ⟨_, _, _, Nat.le_refl _, k_M_laysAside F _ _ _ _ _ hm, ⟨fun _ => ⟨_, _, rfl, Or.inl ⟨7, by decide, hg, by decide +kernel⟩⟩, fun q => absurd q (by decide +kernel)⟩, e3⟩
  · cases e
