def r_F_few_147 (g : Nat → Int32 → Int64 → Int32 → jH → Option jO) : jL → List Value → jH → Option jO := fun L S h => match L, S with
  | [some (.ref v0), some (.int v1), _, _, some (.long v4), some (.float _), some (.int v6), _, _, _], [] => g v0 v1 v4 v6 h
  | _, _ => none
def r_F_few_66 (g : Nat → Int32 → Int32 → Int32 → Int32 → Int32 → jH → Option jO) : jL → List Value → jH → Option jO := fun L S h => match L, S with
  | [some (.ref v0), some (.int v1), some (.int v2), some (.int v3), some (.int v4), some (.int v5), _, _, _, _], [] => g v0 v1 v2 v3 v4 v5 h
  | _, _ => none
def r_F_few_55 (g : Nat → Int32 → Int32 → Int32 → Int32 → jH → Option jO) : jL → List Value → jH → Option jO := fun L S h => match L, S with
  | [some (.ref v0), some (.int v1), some (.int v2), some (.int v3), some (.int v4), _, _, _, _, _], [] => g v0 v1 v2 v3 v4 h
  | _, _ => none
def c_F_few (F : Nat × Nat) : jc1 := fun args h k => match args with
  | [w0, .int a1, .int a2] => j_rv w0 fun a0 => if j_k h a0 = 10 then (jbJ (m_F_few F a0 a1 a2 h) fun r h => k (some (.long r)) h) else none
  | _ => none
set_option maxRecDepth 100000 in
theorem e_F_few_147 (F : Nat × Nat) (f : Nat) (v0 : Nat) (v1 : Int32) (v4 : Int64) (v6 : Int32) (u1 : Option Value) (u2 : Option Value) (u3 : Option Value) (u4 : Option Value) (u5 : Option Value) (w1 : UInt32) (h : jH) : m_F_few_147 F (f + 1) v0 v1 v4 v6 h = jst (j_C [(143, c_Ja_fill_AJJ F)]) 2 (cd_F_few 147) [some (.ref v0), some (.int v1), u1, u2, some (.long v4), some (.float w1), some (.int v6), u3, u4, u5] [] h (jrun (j_C [(143, c_Ja_fill_AJJ F)]) 2 cd_F_few (j_T [(147, r_F_few_147 (m_F_few_147 F f))]) 101) := rfl
set_option maxRecDepth 100000 in
theorem e_F_few_66 (F : Nat × Nat) (k55 : Nat → Int32 → Int32 → Int32 → Int32 → jH → Option jO) (f : Nat) (v0 : Nat) (v1 : Int32) (v2 : Int32) (v3 : Int32) (v4 : Int32) (v5 : Int32) (u1 : Option Value) (u2 : Option Value) (u3 : Option Value) (u4 : Option Value) (h : jH) : m_F_few_66 F k55 (f + 1) v0 v1 v2 v3 v4 v5 h = jst (j_C [(143, c_Ja_fill_AJJ F)]) 2 (cd_F_few 66) [some (.ref v0), some (.int v1), some (.int v2), some (.int v3), some (.int v4), some (.int v5), u1, u2, u3, u4] [] h (jrun (j_C [(143, c_Ja_fill_AJJ F)]) 2 cd_F_few (j_T [(55, r_F_few_55 k55), (66, r_F_few_66 (m_F_few_66 F k55 f))]) 101) := rfl
set_option maxRecDepth 100000 in
theorem e_F_few_55 (F : Nat × Nat) (f : Nat) (v0 : Nat) (v1 : Int32) (v2 : Int32) (v3 : Int32) (v4 : Int32) (u1 : Option Value) (u2 : Option Value) (u3 : Option Value) (u4 : Option Value) (u5 : Option Value) (h : jH) : m_F_few_55 F (f + 1) v0 v1 v2 v3 v4 h = jst (j_C [(143, c_Ja_fill_AJJ F)]) 2 (cd_F_few 55) [some (.ref v0), some (.int v1), some (.int v2), some (.int v3), some (.int v4), u1, u2, u3, u4, u5] [] h (jrun (j_C [(143, c_Ja_fill_AJJ F)]) 2 cd_F_few (j_T [(66, r_F_few_66 (m_F_few_66 F (m_F_few_55 F f) F.1)), (147, r_F_few_147 (m_F_few_147 F F.1))]) 101) := rfl
set_option maxRecDepth 100000 in
theorem e_F_few (F : Nat × Nat) (o : Nat) (a1 : Int32) (a2 : Int32) (h : jH) : m_F_few F o a1 a2 h = jrun (j_C [(143, c_Ja_fill_AJJ F)]) 2 cd_F_few (j_T [(55, r_F_few_55 (m_F_few_55 F F.1))]) 101 0 [some (.ref o), some (.int a1), some (.int a2), none, none, none, none, none, none, none] [] h := rfl
theorem hc_F_few (F : Nat × Nat) : jCok (1 + 0 * F.2) (j_C [(143, c_Ja_fill_AJJ F)]) := jC_ok (List.forall_mem_cons.mpr ⟨(co_Ja_fill_AJJ F).up (by omega), fun _ h => absurd h List.not_mem_nil⟩)
theorem g_F_few_147 (F : Nat × Nat) : ∀ f, jG M_F_few (1 + 0 * F.2) 147 (r_F_few_147 (m_F_few_147 F f))
  | 0 => jG.no (fun L S h => by unfold r_F_few_147; split <;> rfl)
  | f + 1 => (jst_ok ok_F_few (hc_F_few F) (jrun_ok ok_F_few (hc_F_few F) (jT_ok (List.forall_mem_cons.mpr ⟨g_F_few_147 F f, fun _ h => absurd h List.not_mem_nil⟩)) 101) 147).of (fun L S h out e => by unfold r_F_few_147 at e; split at e; exact (e_F_few_147 F f _ _ _ _ _ _ _ _ _ _ _).symm.trans e; cases e)
theorem g_F_few_66 (F : Nat × Nat) (k55 : Nat → Int32 → Int32 → Int32 → Int32 → jH → Option jO) (hk55 : jG M_F_few (1 + 0 * F.2) 55 (r_F_few_55 k55)) : ∀ f, jG M_F_few (1 + 0 * F.2) 66 (r_F_few_66 (m_F_few_66 F k55 f))
  | 0 => jG.no (fun L S h => by unfold r_F_few_66; split <;> rfl)
  | f + 1 => (jst_ok ok_F_few (hc_F_few F) (jrun_ok ok_F_few (hc_F_few F) (jT_ok (List.forall_mem_cons.mpr ⟨hk55, List.forall_mem_cons.mpr ⟨g_F_few_66 F k55 hk55 f, fun _ h => absurd h List.not_mem_nil⟩⟩)) 101) 66).of (fun L S h out e => by unfold r_F_few_66 at e; split at e; exact (e_F_few_66 F k55 f _ _ _ _ _ _ _ _ _ _ _).symm.trans e; cases e)
theorem g_F_few_55 (F : Nat × Nat) : ∀ f, jG M_F_few (1 + 0 * F.2) 55 (r_F_few_55 (m_F_few_55 F f))
  | 0 => jG.no (fun L S h => by unfold r_F_few_55; split <;> rfl)
  | f + 1 => (jst_ok ok_F_few (hc_F_few F) (jrun_ok ok_F_few (hc_F_few F) (jT_ok (List.forall_mem_cons.mpr ⟨g_F_few_66 F _ (g_F_few_55 F f) F.1, List.forall_mem_cons.mpr ⟨g_F_few_147 F F.1, fun _ h => absurd h List.not_mem_nil⟩⟩)) 101) 55).of (fun L S h out e => by unfold r_F_few_55 at e; split at e; exact (e_F_few_55 F f _ _ _ _ _ _ _ _ _ _ _).symm.trans e; cases e)
theorem k_F_few (F : Nat × Nat) (o : Nat) (a1 : Int32) (a2 : Int32) (h : jH) (r : Option Value) (h1 : jH) (e : m_F_few F o a1 a2 h = some (r, h1)) : jM1 (1 + 0 * F.2) 142 [.ref o, .int a1, .int a2] h r h1 := jM_of (M := M_F_few) mok_F_few (by decide +kernel) (by decide +kernel) (Or.inr (Or.inr (Or.inl ⟨rfl, rfl⟩))) (fun q => nomatch q) (jrun_ok ok_F_few (hc_F_few F) (jT_ok (List.forall_mem_cons.mpr ⟨g_F_few_55 F F.1, fun _ h => absurd h List.not_mem_nil⟩)) 101 0) (List.all_eq_true.mp rfl) (Nat.le_of_ble_eq_true rfl) (fun E => Nat.le_of_ble_eq_true rfl) ((e_F_few F o a1 a2 h).symm.trans e)
theorem co_F_few (F : Nat × Nat) : jc_ok (1 + 0 * F.2 + 1) 142 (c_F_few F) := by
  intro as h k out e
  unfold c_F_few at e
  split at e
  · obtain ⟨a0, rfl, e1⟩ := js_rv e
    obtain ⟨hg, e2⟩ := js_if e1
    obtain ⟨r, h1, hm, e3⟩ := js_jbJ e2
    exact ⟨_, _, _, Nat.le_refl _, k_F_few F _ _ _ _ _ _ hm, ⟨fun _ => ⟨_, _, rfl, Or.inl ⟨0, by decide, hg, by decide +kernel⟩⟩, fun q => absurd q (by decide +kernel)⟩, e3⟩
  · cases e
def r_F_compare_18 (g : Nat → Int32 → Int32 → Int32 → jH → Option jO) : jL → List Value → jH → Option jO := fun L S h => match L, S with
  | [some (.ref v0), some (.int v1), some (.int v2), some (.int v3)], [] => g v0 v1 v2 v3 h
  | _, _ => none
def c_F_compare (F : Nat × Nat) : jc1 := fun args h k => match args with
  | [w0, .int a1, .int a2, .int a3] => j_rv w0 fun a0 => if j_k h a0 = 10 then (jbI (m_F_compare F a0 a1 a2 a3 h) fun r h => k (some (.int r)) h) else none
  | _ => none
set_option maxRecDepth 100000 in
theorem e_F_compare_18 (F : Nat × Nat) (v0 : Nat) (v1 : Int32) (v2 : Int32) (v3 : Int32) (h : jH) : m_F_compare_18 F v0 v1 v2 v3 h = jst (j_C [(9, c_F_isCell F), (19, c_L_hasWalker F), (22, c_L_lawNumbered F), (23, c_L_hasLaw F), (107, c_W_priceSteps F), (108, c_W_countTo F), (112, c_W_wayTold F)]) 0 (cd_F_compare 18) [some (.ref v0), some (.int v1), some (.int v2), some (.int v3)] [] h (jrun (j_C [(9, c_F_isCell F), (19, c_L_hasWalker F), (22, c_L_lawNumbered F), (23, c_L_hasLaw F), (107, c_W_priceSteps F), (108, c_W_countTo F), (112, c_W_wayTold F)]) 0 cd_F_compare (j_T []) 52) := rfl
set_option maxRecDepth 100000 in
theorem e_F_compare (F : Nat × Nat) (o : Nat) (a1 : Int32) (a2 : Int32) (a3 : Int32) (h : jH) : m_F_compare F o a1 a2 a3 h = jrun (j_C [(9, c_F_isCell F), (19, c_L_hasWalker F), (22, c_L_lawNumbered F), (23, c_L_hasLaw F), (107, c_W_priceSteps F), (108, c_W_countTo F), (112, c_W_wayTold F)]) 0 cd_F_compare (j_T [(18, r_F_compare_18 (m_F_compare_18 F))]) 52 0 [some (.ref o), some (.int a1), some (.int a2), some (.int a3)] [] h := rfl
theorem hc_F_compare (F : Nat × Nat) : jCok (5 + 0 * F.2) (j_C [(9, c_F_isCell F), (19, c_L_hasWalker F), (22, c_L_lawNumbered F), (23, c_L_hasLaw F), (107, c_W_priceSteps F), (108, c_W_countTo F), (112, c_W_wayTold F)]) := jC_ok (List.forall_mem_cons.mpr ⟨(co_F_isCell F).up (by omega), List.forall_mem_cons.mpr ⟨(co_L_hasWalker F).up (by omega), List.forall_mem_cons.mpr ⟨(co_L_lawNumbered F).up (by omega), List.forall_mem_cons.mpr ⟨(co_L_hasLaw F).up (by omega), List.forall_mem_cons.mpr ⟨(co_W_priceSteps F).up (by omega), List.forall_mem_cons.mpr ⟨(co_W_countTo F).up (by omega), List.forall_mem_cons.mpr ⟨(co_W_wayTold F).up (by omega), fun _ h => absurd h List.not_mem_nil⟩⟩⟩⟩⟩⟩⟩)
theorem g_F_compare_18 (F : Nat × Nat) : jG M_F_compare (5 + 0 * F.2) 18 (r_F_compare_18 (m_F_compare_18 F)) := (jst_ok ok_F_compare (hc_F_compare F) (jrun_ok ok_F_compare (hc_F_compare F) (jT_ok (fun _ h => absurd h List.not_mem_nil)) 52) 18).of (fun L S h out e => by unfold r_F_compare_18 at e; split at e; exact (e_F_compare_18 F _ _ _ _ _).symm.trans e; cases e)
theorem k_F_compare (F : Nat × Nat) (o : Nat) (a1 : Int32) (a2 : Int32) (a3 : Int32) (h : jH) (r : Option Value) (h1 : jH) (e : m_F_compare F o a1 a2 a3 h = some (r, h1)) : jM1 (5 + 0 * F.2) 144 [.ref o, .int a1, .int a2, .int a3] h r h1 := jM_of (M := M_F_compare) mok_F_compare (by decide +kernel) (by decide +kernel) (Or.inl ⟨rfl, rfl⟩) (fun q => nomatch q) (jrun_ok ok_F_compare (hc_F_compare F) (jT_ok (List.forall_mem_cons.mpr ⟨g_F_compare_18 F, fun _ h => absurd h List.not_mem_nil⟩)) 52 0) (List.all_eq_true.mp rfl) (Nat.le_of_ble_eq_true rfl) (fun E => Nat.le_of_ble_eq_true rfl) ((e_F_compare F o a1 a2 a3 h).symm.trans e)
theorem co_F_compare (F : Nat × Nat) : jc_ok (5 + 0 * F.2 + 1) 144 (c_F_compare F) := by
  intro as h k out e
  unfold c_F_compare at e
  split at e
  · obtain ⟨a0, rfl, e1⟩ := js_rv e
    obtain ⟨hg, e2⟩ := js_if e1
    obtain ⟨r, h1, hm, e3⟩ := js_jbI e2
    exact ⟨_, _, _, Nat.le_refl _, k_F_compare F _ _ _ _ _ _ _ hm, ⟨fun _ => ⟨_, _, rfl, Or.inl ⟨0, by decide, hg, by decide +kernel⟩⟩, fun q => absurd q (by decide +kernel)⟩, e3⟩
  · cases e
def c_F_nextDraw (F : Nat × Nat) : jc1 := fun args h k => match args with
  | [.long a0] => jbJ (m_F_nextDraw F a0 h) fun r h => k (some (.long r)) h
  | _ => none
set_option maxRecDepth 100000 in
theorem e_F_nextDraw (F : Nat × Nat) (a0 : Int64) (h : jH) : m_F_nextDraw F a0 h = jrun (j_C []) 2 cd_F_nextDraw (j_T []) 13 0 [some (.long a0), some (.float 0)] [] h := rfl
theorem hc_F_nextDraw (F : Nat × Nat) : jCok (0 + 0 * F.2) (j_C []) := jC_ok (fun _ h => absurd h List.not_mem_nil)
theorem k_F_nextDraw (F : Nat × Nat) (a0 : Int64) (h : jH) (r : Option Value) (h1 : jH) (e : m_F_nextDraw F a0 h = some (r, h1)) : jM1 (0 + 0 * F.2) 146 [.long a0] h r h1 := jM_of (M := M_F_nextDraw) mok_F_nextDraw (by decide +kernel) (by decide +kernel) (Or.inr (Or.inr (Or.inl ⟨rfl, rfl⟩))) (fun q => nomatch q) (jrun_ok ok_F_nextDraw (hc_F_nextDraw F) (jT_ok (fun _ h => absurd h List.not_mem_nil)) 13 0) (List.all_eq_true.mp rfl) (Nat.le_of_ble_eq_true rfl) (fun E => Nat.le_of_ble_eq_true rfl) ((e_F_nextDraw F a0 h).symm.trans e)
theorem co_F_nextDraw (F : Nat × Nat) : jc_ok (0 + 0 * F.2 + 1) 146 (c_F_nextDraw F) := by
  intro as h k out e
  unfold c_F_nextDraw at e
  split at e
  · obtain ⟨r, h1, hm, e1⟩ := js_jbJ e
    exact ⟨_, _, _, Nat.le_refl _, k_F_nextDraw F _ _ _ _ hm, ⟨fun q => absurd q (by decide +kernel), fun q => absurd q (by decide +kernel)⟩, e1⟩
  · cases e
def c_F_stepOnPaper (F : Nat × Nat) : jc1 := fun args h k => match args with
  | [w0, .int a1, .int a2] => j_rv w0 fun a0 => if j_k h a0 = 10 then (jbI (m_F_stepOnPaper F a0 a1 a2 h) fun r h => k (some (.int r)) h) else none
  | _ => none
set_option maxRecDepth 100000 in
theorem e_F_stepOnPaper (F : Nat × Nat) (o : Nat) (a1 : Int32) (a2 : Int32) (h : jH) : m_F_stepOnPaper F o a1 a2 h = jrun (j_C [(21, c_L_lawInForce F), (24, c_U_sight F), (37, c_F_neighbour F), (38, c_U_cost F), (39, c_U_bars F), (87, c_L_comeTo F)]) 0 cd_F_stepOnPaper (j_T []) 59 0 [some (.ref o), some (.int a1), some (.int a2), none, none, none, none] [] h := rfl
theorem hc_F_stepOnPaper (F : Nat × Nat) : jCok (4 + 0 * F.2) (j_C [(21, c_L_lawInForce F), (24, c_U_sight F), (37, c_F_neighbour F), (38, c_U_cost F), (39, c_U_bars F), (87, c_L_comeTo F)]) := jC_ok (List.forall_mem_cons.mpr ⟨(co_L_lawInForce F).up (by omega), List.forall_mem_cons.mpr ⟨(co_U_sight F).up (by omega), List.forall_mem_cons.mpr ⟨(co_F_neighbour F).up (by omega), List.forall_mem_cons.mpr ⟨(co_U_cost F).up (by omega), List.forall_mem_cons.mpr ⟨(co_U_bars F).up (by omega), List.forall_mem_cons.mpr ⟨(co_L_comeTo F).up (by omega), fun _ h => absurd h List.not_mem_nil⟩⟩⟩⟩⟩⟩)
theorem k_F_stepOnPaper (F : Nat × Nat) (o : Nat) (a1 : Int32) (a2 : Int32) (h : jH) (r : Option Value) (h1 : jH) (e : m_F_stepOnPaper F o a1 a2 h = some (r, h1)) : jM1 (4 + 0 * F.2) 147 [.ref o, .int a1, .int a2] h r h1 := jM_of (M := M_F_stepOnPaper) mok_F_stepOnPaper (by decide +kernel) (by decide +kernel) (Or.inl ⟨rfl, rfl⟩) (fun q => nomatch q) (jrun_ok ok_F_stepOnPaper (hc_F_stepOnPaper F) (jT_ok (fun _ h => absurd h List.not_mem_nil)) 59 0) (List.all_eq_true.mp rfl) (Nat.le_of_ble_eq_true rfl) (fun E => Nat.le_of_ble_eq_true rfl) ((e_F_stepOnPaper F o a1 a2 h).symm.trans e)
theorem co_F_stepOnPaper (F : Nat × Nat) : jc_ok (4 + 0 * F.2 + 1) 147 (c_F_stepOnPaper F) := by
  intro as h k out e
  unfold c_F_stepOnPaper at e
  split at e
  · obtain ⟨a0, rfl, e1⟩ := js_rv e
    obtain ⟨hg, e2⟩ := js_if e1
    obtain ⟨r, h1, hm, e3⟩ := js_jbI e2
    exact ⟨_, _, _, Nat.le_refl _, k_F_stepOnPaper F _ _ _ _ _ _ hm, ⟨fun _ => ⟨_, _, rfl, Or.inl ⟨0, by decide, hg, by decide +kernel⟩⟩, fun q => absurd q (by decide +kernel)⟩, e3⟩
  · cases e
def r_F_joinOnPaper_2 (g : Nat → Int32 → Int32 → jH → Option jO) : jL → List Value → jH → Option jO := fun L S h => match L, S with
  | [some (.ref v0), some (.int v1), some (.int v2)], [] => g v0 v1 v2 h
  | _, _ => none
def c_F_joinOnPaper (F : Nat × Nat) : jc1 := fun args h k => match args with
  | [w0, .int a1] => j_rv w0 fun a0 => if j_k h a0 = 10 then (jbV (m_F_joinOnPaper F a0 a1 h) fun h => k none h) else none
  | _ => none
set_option maxRecDepth 100000 in
theorem e_F_joinOnPaper_2 (F : Nat × Nat) (f : Nat) (v0 : Nat) (v1 : Int32) (v2 : Int32) (h : jH) : m_F_joinOnPaper_2 F (f + 1) v0 v1 v2 h = jst (j_C [(93, c_L_joinSheets F)]) 4 (cd_F_joinOnPaper 2) [some (.ref v0), some (.int v1), some (.int v2)] [] h (jrun (j_C [(93, c_L_joinSheets F)]) 4 cd_F_joinOnPaper (j_T [(2, r_F_joinOnPaper_2 (m_F_joinOnPaper_2 F f))]) 36) := rfl
set_option maxRecDepth 100000 in
theorem e_F_joinOnPaper (F : Nat × Nat) (o : Nat) (a1 : Int32) (h : jH) : m_F_joinOnPaper F o a1 h = jrun (j_C [(93, c_L_joinSheets F)]) 4 cd_F_joinOnPaper (j_T [(2, r_F_joinOnPaper_2 (m_F_joinOnPaper_2 F F.1))]) 36 0 [some (.ref o), some (.int a1), none] [] h := rfl
theorem hc_F_joinOnPaper (F : Nat × Nat) : jCok (3 + 0 * F.2) (j_C [(93, c_L_joinSheets F)]) := jC_ok (List.forall_mem_cons.mpr ⟨(co_L_joinSheets F).up (by omega), fun _ h => absurd h List.not_mem_nil⟩)
theorem g_F_joinOnPaper_2 (F : Nat × Nat) : ∀ f, jG M_F_joinOnPaper (3 + 0 * F.2) 2 (r_F_joinOnPaper_2 (m_F_joinOnPaper_2 F f))
  | 0 => jG.no (fun L S h => by unfold r_F_joinOnPaper_2; split <;> rfl)
  | f + 1 => (jst_ok ok_F_joinOnPaper (hc_F_joinOnPaper F) (jrun_ok ok_F_joinOnPaper (hc_F_joinOnPaper F) (jT_ok (List.forall_mem_cons.mpr ⟨g_F_joinOnPaper_2 F f, fun _ h => absurd h List.not_mem_nil⟩)) 36) 2).of (fun L S h out e => by unfold r_F_joinOnPaper_2 at e; split at e; exact (e_F_joinOnPaper_2 F f _ _ _ _).symm.trans e; cases e)
theorem k_F_joinOnPaper (F : Nat × Nat) (o : Nat) (a1 : Int32) (h : jH) (r : Option Value) (h1 : jH) (e : m_F_joinOnPaper F o a1 h = some (r, h1)) : jM1 (3 + 0 * F.2) 148 [.ref o, .int a1] h r h1 := jM_of (M := M_F_joinOnPaper) mok_F_joinOnPaper (by decide +kernel) (by decide +kernel) (Or.inr (Or.inr (Or.inr (Or.inr ⟨rfl, rfl⟩)))) (fun q => nomatch q) (jrun_ok ok_F_joinOnPaper (hc_F_joinOnPaper F) (jT_ok (List.forall_mem_cons.mpr ⟨g_F_joinOnPaper_2 F F.1, fun _ h => absurd h List.not_mem_nil⟩)) 36 0) (List.all_eq_true.mp rfl) (Nat.le_of_ble_eq_true rfl) (fun E => Nat.le_of_ble_eq_true rfl) ((e_F_joinOnPaper F o a1 h).symm.trans e)
theorem co_F_joinOnPaper (F : Nat × Nat) : jc_ok (3 + 0 * F.2 + 1) 148 (c_F_joinOnPaper F) := by
  intro as h k out e
  unfold c_F_joinOnPaper at e
  split at e
  · obtain ⟨a0, rfl, e1⟩ := js_rv e
    obtain ⟨hg, e2⟩ := js_if e1
    obtain ⟨h1, hm, e3⟩ := js_jbV e2
    exact ⟨_, _, _, Nat.le_refl _, k_F_joinOnPaper F _ _ _ _ _ hm, ⟨fun _ => ⟨_, _, rfl, Or.inl ⟨0, by decide, hg, by decide +kernel⟩⟩, fun q => absurd q (by decide +kernel)⟩, e3⟩
  · cases e
def r_F_days_65 (g : Nat → Int32 → Int64 → Int32 → Int32 → jH → Option jO) : jL → List Value → jH → Option jO := fun L S h => match L, S with
  | [some (.ref v0), _, some (.int v2), some (.long v3), some (.float _), some (.int v5), some (.int v6), _, _], [] => g v0 v2 v3 v5 v6 h
  | _, _ => none
def c_F_days (F : Nat × Nat) : jc1 := fun args h k => match args with
  | [w0, .int a1, .int a2] => j_rv w0 fun a0 => if j_k h a0 = 10 then (jbI (m_F_days F a0 a1 a2 h) fun r h => k (some (.int r)) h) else none
  | _ => none
set_option maxRecDepth 100000 in
theorem e_F_days_65 (F : Nat × Nat) (f : Nat) (v0 : Nat) (v2 : Int32) (v3 : Int64) (v5 : Int32) (v6 : Int32) (u1 : Option Value) (u2 : Option Value) (u3 : Option Value) (w1 : UInt32) (h : jH) : m_F_days_65 F (f + 1) v0 v2 v3 v5 v6 h = jst (j_C [(10, c_F_refuse F), (12, c_F_accept F), (81, c_L_copyFrom F), (146, c_F_nextDraw F), (147, c_F_stepOnPaper F), (148, c_F_joinOnPaper F)]) 0 (cd_F_days 65) [some (.ref v0), u1, some (.int v2), some (.long v3), some (.float w1), some (.int v5), some (.int v6), u2, u3] [] h (jrun (j_C [(10, c_F_refuse F), (12, c_F_accept F), (81, c_L_copyFrom F), (146, c_F_nextDraw F), (147, c_F_stepOnPaper F), (148, c_F_joinOnPaper F)]) 0 cd_F_days (j_T [(65, r_F_days_65 (m_F_days_65 F f))]) 98) := rfl
set_option maxRecDepth 100000 in
theorem e_F_days (F : Nat × Nat) (o : Nat) (a1 : Int32) (a2 : Int32) (h : jH) : m_F_days F o a1 a2 h = jrun (j_C [(10, c_F_refuse F), (12, c_F_accept F), (81, c_L_copyFrom F), (146, c_F_nextDraw F), (147, c_F_stepOnPaper F), (148, c_F_joinOnPaper F)]) 0 cd_F_days (j_T [(65, r_F_days_65 (m_F_days_65 F F.1))]) 98 0 [some (.ref o), some (.int a1), some (.int a2), none, none, none, none, none, none] [] h := rfl
theorem hc_F_days (F : Nat × Nat) : jCok (5 + 0 * F.2) (j_C [(10, c_F_refuse F), (12, c_F_accept F), (81, c_L_copyFrom F), (146, c_F_nextDraw F), (147, c_F_stepOnPaper F), (148, c_F_joinOnPaper F)]) := jC_ok (List.forall_mem_cons.mpr ⟨(co_F_refuse F).up (by omega), List.forall_mem_cons.mpr ⟨(co_F_accept F).up (by omega), List.forall_mem_cons.mpr ⟨(co_L_copyFrom F).up (by omega), List.forall_mem_cons.mpr ⟨(co_F_nextDraw F).up (by omega), List.forall_mem_cons.mpr ⟨(co_F_stepOnPaper F).up (by omega), List.forall_mem_cons.mpr ⟨(co_F_joinOnPaper F).up (by omega), fun _ h => absurd h List.not_mem_nil⟩⟩⟩⟩⟩⟩)
theorem g_F_days_65 (F : Nat × Nat) : ∀ f, jG M_F_days (5 + 0 * F.2) 65 (r_F_days_65 (m_F_days_65 F f))
  | 0 => jG.no (fun L S h => by unfold r_F_days_65; split <;> rfl)
  | f + 1 => (jst_ok ok_F_days (hc_F_days F) (jrun_ok ok_F_days (hc_F_days F) (jT_ok (List.forall_mem_cons.mpr ⟨g_F_days_65 F f, fun _ h => absurd h List.not_mem_nil⟩)) 98) 65).of (fun L S h out e => by unfold r_F_days_65 at e; split at e; exact (e_F_days_65 F f _ _ _ _ _ _ _ _ _ _).symm.trans e; cases e)
theorem k_F_days (F : Nat × Nat) (o : Nat) (a1 : Int32) (a2 : Int32) (h : jH) (r : Option Value) (h1 : jH) (e : m_F_days F o a1 a2 h = some (r, h1)) : jM1 (5 + 0 * F.2) 145 [.ref o, .int a1, .int a2] h r h1 := jM_of (M := M_F_days) mok_F_days (by decide +kernel) (by decide +kernel) (Or.inl ⟨rfl, rfl⟩) (fun q => nomatch q) (jrun_ok ok_F_days (hc_F_days F) (jT_ok (List.forall_mem_cons.mpr ⟨g_F_days_65 F F.1, fun _ h => absurd h List.not_mem_nil⟩)) 98 0) (List.all_eq_true.mp rfl) (Nat.le_of_ble_eq_true rfl) (fun E => Nat.le_of_ble_eq_true rfl) ((e_F_days F o a1 a2 h).symm.trans e)
theorem co_F_days (F : Nat × Nat) : jc_ok (5 + 0 * F.2 + 1) 145 (c_F_days F) := by
  intro as h k out e
  unfold c_F_days at e
  split at e
  · obtain ⟨a0, rfl, e1⟩ := js_rv e
    obtain ⟨hg, e2⟩ := js_if e1
    obtain ⟨r, h1, hm, e3⟩ := js_jbI e2
    exact ⟨_, _, _, Nat.le_refl _, k_F_days F _ _ _ _ _ _ hm, ⟨fun _ => ⟨_, _, rfl, Or.inl ⟨0, by decide, hg, by decide +kernel⟩⟩, fun q => absurd q (by decide +kernel)⟩, e3⟩
  · cases e
def c_F_drawn (F : Nat × Nat) : jc1 := fun args h k => match args with
  | [w0, .int a1, .int a2] => j_rv w0 fun a0 => if j_k h a0 = 10 then (jbI (m_F_drawn F a0 a1 a2 h) fun r h => k (some (.int r)) h) else none
  | _ => none
set_option maxRecDepth 100000 in
theorem e_F_drawn (F : Nat × Nat) (o : Nat) (a1 : Int32) (a2 : Int32) (h : jH) : m_F_drawn F o a1 a2 h = jrun (j_C [(19, c_L_hasWalker F)]) 0 cd_F_drawn (j_T []) 31 0 [some (.ref o), some (.int a1), some (.int a2)] [] h := rfl
theorem hc_F_drawn (F : Nat × Nat) : jCok (1 + 0 * F.2) (j_C [(19, c_L_hasWalker F)]) := jC_ok (List.forall_mem_cons.mpr ⟨(co_L_hasWalker F).up (by omega), fun _ h => absurd h List.not_mem_nil⟩)
theorem k_F_drawn (F : Nat × Nat) (o : Nat) (a1 : Int32) (a2 : Int32) (h : jH) (r : Option Value) (h1 : jH) (e : m_F_drawn F o a1 a2 h = some (r, h1)) : jM1 (1 + 0 * F.2) 149 [.ref o, .int a1, .int a2] h r h1 := jM_of (M := M_F_drawn) mok_F_drawn (by decide +kernel) (by decide +kernel) (Or.inl ⟨rfl, rfl⟩) (fun q => nomatch q) (jrun_ok ok_F_drawn (hc_F_drawn F) (jT_ok (fun _ h => absurd h List.not_mem_nil)) 31 0) (List.all_eq_true.mp rfl) (Nat.le_of_ble_eq_true rfl) (fun E => Nat.le_of_ble_eq_true rfl) ((e_F_drawn F o a1 a2 h).symm.trans e)
theorem co_F_drawn (F : Nat × Nat) : jc_ok (1 + 0 * F.2 + 1) 149 (c_F_drawn F) := by
  intro as h k out e
  unfold c_F_drawn at e
  split at e
  · obtain ⟨a0, rfl, e1⟩ := js_rv e
    obtain ⟨hg, e2⟩ := js_if e1
    obtain ⟨r, h1, hm, e3⟩ := js_jbI e2
    exact ⟨_, _, _, Nat.le_refl _, k_F_drawn F _ _ _ _ _ _ hm, ⟨fun _ => ⟨_, _, rfl, Or.inl ⟨0, by decide, hg, by decide +kernel⟩⟩, fun q => absurd q (by decide +kernel)⟩, e3⟩
  · cases e
def c_F_image (F : Nat × Nat) : jc1 := fun args h k => match args with
  | [w0, .int a1] => j_rv w0 fun a0 => if j_k h a0 = 10 then (jbI (m_F_image F a0 a1 h) fun r h => k (some (.int r)) h) else none
  | _ => none
set_option maxRecDepth 100000 in
theorem e_F_image (F : Nat × Nat) (o : Nat) (a1 : Int32) (h : jH) : m_F_image F o a1 h = jrun (j_C [(1, c_L_new F), (10, c_F_refuse F), (12, c_F_accept F), (81, c_L_copyFrom F)]) 0 cd_F_image (j_T []) 37 0 [some (.ref o), some (.int a1)] [] h := rfl
theorem hc_F_image (F : Nat × Nat) : jCok (1 + 0 * F.2) (j_C [(1, c_L_new F), (10, c_F_refuse F), (12, c_F_accept F), (81, c_L_copyFrom F)]) := jC_ok (List.forall_mem_cons.mpr ⟨(co_L_new F).up (by omega), List.forall_mem_cons.mpr ⟨(co_F_refuse F).up (by omega), List.forall_mem_cons.mpr ⟨(co_F_accept F).up (by omega), List.forall_mem_cons.mpr ⟨(co_L_copyFrom F).up (by omega), fun _ h => absurd h List.not_mem_nil⟩⟩⟩⟩)
theorem k_F_image (F : Nat × Nat) (o : Nat) (a1 : Int32) (h : jH) (r : Option Value) (h1 : jH) (e : m_F_image F o a1 h = some (r, h1)) : jM1 (1 + 0 * F.2) 150 [.ref o, .int a1] h r h1 := jM_of (M := M_F_image) mok_F_image (by decide +kernel) (by decide +kernel) (Or.inl ⟨rfl, rfl⟩) (fun q => nomatch q) (jrun_ok ok_F_image (hc_F_image F) (jT_ok (fun _ h => absurd h List.not_mem_nil)) 37 0) (List.all_eq_true.mp rfl) (Nat.le_of_ble_eq_true rfl) (fun E => Nat.le_of_ble_eq_true rfl) ((e_F_image F o a1 h).symm.trans e)
theorem co_F_image (F : Nat × Nat) : jc_ok (1 + 0 * F.2 + 1) 150 (c_F_image F) := by
  intro as h k out e
  unfold c_F_image at e
  split at e
  · obtain ⟨a0, rfl, e1⟩ := js_rv e
    obtain ⟨hg, e2⟩ := js_if e1
    obtain ⟨r, h1, hm, e3⟩ := js_jbI e2
    exact ⟨_, _, _, Nat.le_refl _, k_F_image F _ _ _ _ _ hm, ⟨fun _ => ⟨_, _, rfl, Or.inl ⟨0, by decide, hg, by decide +kernel⟩⟩, fun q => absurd q (by decide +kernel)⟩, e3⟩
  · cases e
def c_F_back (F : Nat × Nat) : jc1 := fun args h k => match args with
  | [w0, .int a1] => j_rv w0 fun a0 => if j_k h a0 = 10 then (jbI (m_F_back F a0 a1 h) fun r h => k (some (.int r)) h) else none
  | _ => none
set_option maxRecDepth 100000 in
theorem e_F_back (F : Nat × Nat) (o : Nat) (a1 : Int32) (h : jH) : m_F_back F o a1 h = jrun (j_C [(10, c_F_refuse F), (12, c_F_accept F), (17, c_D_clear F), (81, c_L_copyFrom F)]) 0 cd_F_back (j_T []) 37 0 [some (.ref o), some (.int a1)] [] h := rfl
theorem hc_F_back (F : Nat × Nat) : jCok (1 + 0 * F.2) (j_C [(10, c_F_refuse F), (12, c_F_accept F), (17, c_D_clear F), (81, c_L_copyFrom F)]) := jC_ok (List.forall_mem_cons.mpr ⟨(co_F_refuse F).up (by omega), List.forall_mem_cons.mpr ⟨(co_F_accept F).up (by omega), List.forall_mem_cons.mpr ⟨(co_D_clear F).up (by omega), List.forall_mem_cons.mpr ⟨(co_L_copyFrom F).up (by omega), fun _ h => absurd h List.not_mem_nil⟩⟩⟩⟩)
theorem k_F_back (F : Nat × Nat) (o : Nat) (a1 : Int32) (h : jH) (r : Option Value) (h1 : jH) (e : m_F_back F o a1 h = some (r, h1)) : jM1 (1 + 0 * F.2) 151 [.ref o, .int a1] h r h1 := jM_of (M := M_F_back) mok_F_back (by decide +kernel) (by decide +kernel) (Or.inl ⟨rfl, rfl⟩) (fun q => nomatch q) (jrun_ok ok_F_back (hc_F_back F) (jT_ok (fun _ h => absurd h List.not_mem_nil)) 37 0) (List.all_eq_true.mp rfl) (Nat.le_of_ble_eq_true rfl) (fun E => Nat.le_of_ble_eq_true rfl) ((e_F_back F o a1 h).symm.trans e)
theorem co_F_back (F : Nat × Nat) : jc_ok (1 + 0 * F.2 + 1) 151 (c_F_back F) := by
  intro as h k out e
  unfold c_F_back at e
  split at e
  · obtain ⟨a0, rfl, e1⟩ := js_rv e
    obtain ⟨hg, e2⟩ := js_if e1
    obtain ⟨r, h1, hm, e3⟩ := js_jbI e2
    exact ⟨_, _, _, Nat.le_refl _, k_F_back F _ _ _ _ _ hm, ⟨fun _ => ⟨_, _, rfl, Or.inl ⟨0, by decide, hg, by decide +kernel⟩⟩, fun q => absurd q (by decide +kernel)⟩, e3⟩
  · cases e
def r_L_cellsOfAllSheets_4 (g : Nat → Int32 → Int32 → jH → Option jO) : jL → List Value → jH → Option jO := fun L S h => match L, S with
  | [some (.ref v0), some (.int v1), some (.int v2)], [] => g v0 v1 v2 h
  | _, _ => none
def c_L_cellsOfAllSheets (F : Nat × Nat) : jc1 := fun args h k => match args with
  | [w0] => j_rv w0 fun a0 => if j_k h a0 = 12 then (jbI (m_L_cellsOfAllSheets F a0 h) fun r h => k (some (.int r)) h) else none
  | _ => none
set_option maxRecDepth 100000 in
theorem e_L_cellsOfAllSheets_4 (F : Nat × Nat) (f : Nat) (v0 : Nat) (v1 : Int32) (v2 : Int32) (h : jH) : m_L_cellsOfAllSheets_4 F (f + 1) v0 v1 v2 h = jst (j_C [(20, c_Ji_bitCount F)]) 0 (cd_L_cellsOfAllSheets 4) [some (.ref v0), some (.int v1), some (.int v2)] [] h (jrun (j_C [(20, c_Ji_bitCount F)]) 0 cd_L_cellsOfAllSheets (j_T [(4, r_L_cellsOfAllSheets_4 (m_L_cellsOfAllSheets_4 F f))]) 25) := rfl
set_option maxRecDepth 100000 in
theorem e_L_cellsOfAllSheets (F : Nat × Nat) (o : Nat) (h : jH) : m_L_cellsOfAllSheets F o h = jrun (j_C [(20, c_Ji_bitCount F)]) 0 cd_L_cellsOfAllSheets (j_T [(4, r_L_cellsOfAllSheets_4 (m_L_cellsOfAllSheets_4 F F.1))]) 25 0 [some (.ref o), none, none] [] h := rfl
theorem hc_L_cellsOfAllSheets (F : Nat × Nat) : jCok (1 + 0 * F.2) (j_C [(20, c_Ji_bitCount F)]) := jC_ok (List.forall_mem_cons.mpr ⟨(co_Ji_bitCount F).up (by omega), fun _ h => absurd h List.not_mem_nil⟩)
theorem g_L_cellsOfAllSheets_4 (F : Nat × Nat) : ∀ f, jG M_L_cellsOfAllSheets (1 + 0 * F.2) 4 (r_L_cellsOfAllSheets_4 (m_L_cellsOfAllSheets_4 F f))
  | 0 => jG.no (fun L S h => by unfold r_L_cellsOfAllSheets_4; split <;> rfl)
  | f + 1 => (jst_ok ok_L_cellsOfAllSheets (hc_L_cellsOfAllSheets F) (jrun_ok ok_L_cellsOfAllSheets (hc_L_cellsOfAllSheets F) (jT_ok (List.forall_mem_cons.mpr ⟨g_L_cellsOfAllSheets_4 F f, fun _ h => absurd h List.not_mem_nil⟩)) 25) 4).of (fun L S h out e => by unfold r_L_cellsOfAllSheets_4 at e; split at e; exact (e_L_cellsOfAllSheets_4 F f _ _ _ _).symm.trans e; cases e)
theorem k_L_cellsOfAllSheets (F : Nat × Nat) (o : Nat) (h : jH) (r : Option Value) (h1 : jH) (e : m_L_cellsOfAllSheets F o h = some (r, h1)) : jM1 (1 + 0 * F.2) 153 [.ref o] h r h1 := jM_of (M := M_L_cellsOfAllSheets) mok_L_cellsOfAllSheets (by decide +kernel) (by decide +kernel) (Or.inl ⟨rfl, rfl⟩) (fun q => nomatch q) (jrun_ok ok_L_cellsOfAllSheets (hc_L_cellsOfAllSheets F) (jT_ok (List.forall_mem_cons.mpr ⟨g_L_cellsOfAllSheets_4 F F.1, fun _ h => absurd h List.not_mem_nil⟩)) 25 0) (List.all_eq_true.mp rfl) (Nat.le_of_ble_eq_true rfl) (fun E => Nat.le_of_ble_eq_true rfl) ((e_L_cellsOfAllSheets F o h).symm.trans e)
theorem co_L_cellsOfAllSheets (F : Nat × Nat) : jc_ok (1 + 0 * F.2 + 1) 153 (c_L_cellsOfAllSheets F) := by
  intro as h k out e
  unfold c_L_cellsOfAllSheets at e
  split at e
  · obtain ⟨a0, rfl, e1⟩ := js_rv e
    obtain ⟨hg, e2⟩ := js_if e1
    obtain ⟨r, h1, hm, e3⟩ := js_jbI e2
    exact ⟨_, _, _, Nat.le_refl _, k_L_cellsOfAllSheets F _ _ _ _ hm, ⟨fun _ => ⟨_, _, rfl, Or.inl ⟨2, by decide, hg, by decide +kernel⟩⟩, fun q => absurd q (by decide +kernel)⟩, e3⟩
  · cases e
def c_F_count (F : Nat × Nat) : jc1 := fun args h k => match args with
  | [w0, .int a1] => j_rv w0 fun a0 => if j_k h a0 = 10 then (jbI (m_F_count F a0 a1 h) fun r h => k (some (.int r)) h) else none
  | _ => none
set_option maxRecDepth 100000 in
theorem e_F_count (F : Nat × Nat) (o : Nat) (a1 : Int32) (h : jH) : m_F_count F o a1 h = jrun (j_C [(153, c_L_cellsOfAllSheets F)]) 0 cd_F_count (j_T []) 80 0 [some (.ref o), some (.int a1)] [] h := rfl
theorem hc_F_count (F : Nat × Nat) : jCok (2 + 0 * F.2) (j_C [(153, c_L_cellsOfAllSheets F)]) := jC_ok (List.forall_mem_cons.mpr ⟨(co_L_cellsOfAllSheets F).up (by omega), fun _ h => absurd h List.not_mem_nil⟩)
theorem k_F_count (F : Nat × Nat) (o : Nat) (a1 : Int32) (h : jH) (r : Option Value) (h1 : jH) (e : m_F_count F o a1 h = some (r, h1)) : jM1 (2 + 0 * F.2) 152 [.ref o, .int a1] h r h1 := jM_of (M := M_F_count) mok_F_count (by decide +kernel) (by decide +kernel) (Or.inl ⟨rfl, rfl⟩) (fun q => nomatch q) (jrun_ok ok_F_count (hc_F_count F) (jT_ok (fun _ h => absurd h List.not_mem_nil)) 80 0) (List.all_eq_true.mp rfl) (Nat.le_of_ble_eq_true rfl) (fun E => Nat.le_of_ble_eq_true rfl) ((e_F_count F o a1 h).symm.trans e)
theorem co_F_count (F : Nat × Nat) : jc_ok (2 + 0 * F.2 + 1) 152 (c_F_count F) := by
  intro as h k out e
  unfold c_F_count at e
  split at e
  · obtain ⟨a0, rfl, e1⟩ := js_rv e
    obtain ⟨hg, e2⟩ := js_if e1
    obtain ⟨r, h1, hm, e3⟩ := js_jbI e2
    exact ⟨_, _, _, Nat.le_refl _, k_F_count F _ _ _ _ _ hm, ⟨fun _ => ⟨_, _, rfl, Or.inl ⟨0, by decide, hg, by decide +kernel⟩⟩, fun q => absurd q (by decide +kernel)⟩, e3⟩
  · cases e
def c_F_status (F : Nat × Nat) : jc1 := fun args h k => match args with
  | [w0] => j_rv w0 fun a0 => if j_k h a0 = 10 then (jbI (m_F_status F a0 h) fun r h => k (some (.int r)) h) else none
  | _ => none
set_option maxRecDepth 100000 in
theorem e_F_status (F : Nat × Nat) (o : Nat) (h : jH) : m_F_status F o h = jrun (j_C []) 0 cd_F_status (j_T []) 8 0 [some (.ref o)] [] h := rfl
theorem hc_F_status (F : Nat × Nat) : jCok (0 + 0 * F.2) (j_C []) := jC_ok (fun _ h => absurd h List.not_mem_nil)
theorem k_F_status (F : Nat × Nat) (o : Nat) (h : jH) (r : Option Value) (h1 : jH) (e : m_F_status F o h = some (r, h1)) : jM1 (0 + 0 * F.2) 154 [.ref o] h r h1 := jM_of (M := M_F_status) mok_F_status (by decide +kernel) (by decide +kernel) (Or.inl ⟨rfl, rfl⟩) (fun q => nomatch q) (jrun_ok ok_F_status (hc_F_status F) (jT_ok (fun _ h => absurd h List.not_mem_nil)) 8 0) (List.all_eq_true.mp rfl) (Nat.le_of_ble_eq_true rfl) (fun E => Nat.le_of_ble_eq_true rfl) ((e_F_status F o h).symm.trans e)
theorem co_F_status (F : Nat × Nat) : jc_ok (0 + 0 * F.2 + 1) 154 (c_F_status F) := by
  intro as h k out e
  unfold c_F_status at e
  split at e
  · obtain ⟨a0, rfl, e1⟩ := js_rv e
    obtain ⟨hg, e2⟩ := js_if e1
    obtain ⟨r, h1, hm, e3⟩ := js_jbI e2
    exact ⟨_, _, _, Nat.le_refl _, k_F_status F _ _ _ _ hm, ⟨fun _ => ⟨_, _, rfl, Or.inl ⟨0, by decide, hg, by decide +kernel⟩⟩, fun q => absurd q (by decide +kernel)⟩, e3⟩
  · cases e
