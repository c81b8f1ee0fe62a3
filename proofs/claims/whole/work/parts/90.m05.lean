def c_W_tourCountBy (F : Nat × Nat) : jc1 := fun args h k => match args with
  | [w0, .int a1, .int a2, .int a3] => j_rv w0 fun a0 => if j_k h a0 = 16 then (jbI (m_W_tourCountBy F a0 a1 a2 a3 h) fun r h => k (some (.int r)) h) else none
  | _ => none
set_option maxRecDepth 100000 in
theorem e_W_tourCountBy (F : Nat × Nat) (o : Nat) (a1 : Int32) (a2 : Int32) (a3 : Int32) (h : jH) : m_W_tourCountBy F o a1 a2 a3 h = jrun (j_C [(37, c_F_neighbour F), (79, c_Jm_min_II F), (111, c_W_priceOf F)]) 0 cd_W_tourCountBy (j_T []) 39 0 [some (.ref o), some (.int a1), some (.int a2), some (.int a3), none, none] [] h := rfl
theorem hc_W_tourCountBy (F : Nat × Nat) : jCok (1 + 0 * F.2) (j_C [(37, c_F_neighbour F), (79, c_Jm_min_II F), (111, c_W_priceOf F)]) := jC_ok (List.forall_mem_cons.mpr ⟨(co_F_neighbour F).up (by omega), List.forall_mem_cons.mpr ⟨(co_Jm_min_II F).up (by omega), List.forall_mem_cons.mpr ⟨(co_W_priceOf F).up (by omega), fun _ h => absurd h List.not_mem_nil⟩⟩⟩)
theorem k_W_tourCountBy (F : Nat × Nat) (o : Nat) (a1 : Int32) (a2 : Int32) (a3 : Int32) (h : jH) (r : Option Value) (h1 : jH) (e : m_W_tourCountBy F o a1 a2 a3 h = some (r, h1)) : jM1 (1 + 0 * F.2) 120 [.ref o, .int a1, .int a2, .int a3] h r h1 := jM_of (M := M_W_tourCountBy) mok_W_tourCountBy (by decide +kernel) (by decide +kernel) (Or.inl ⟨rfl, rfl⟩) (fun q => nomatch q) (jrun_ok ok_W_tourCountBy (hc_W_tourCountBy F) (jT_ok (fun _ h => absurd h List.not_mem_nil)) 39 0) (List.all_eq_true.mp rfl) (Nat.le_of_ble_eq_true rfl) (fun E => Nat.le_of_ble_eq_true rfl) ((e_W_tourCountBy F o a1 a2 a3 h).symm.trans e)
theorem co_W_tourCountBy (F : Nat × Nat) : jc_ok (1 + 0 * F.2 + 1) 120 (c_W_tourCountBy F) := by
  intro as h k out e
  unfold c_W_tourCountBy at e
  split at e
  · obtain ⟨a0, rfl, e1⟩ := js_rv e
    obtain ⟨hg, e2⟩ := js_if e1
    obtain ⟨r, h1, hm, e3⟩ := js_jbI e2
    exact ⟨_, _, _, Nat.le_refl _, k_W_tourCountBy F _ _ _ _ _ _ _ hm, ⟨fun _ => ⟨_, _, rfl, Or.inl ⟨6, by decide, hg, by decide +kernel⟩⟩, fun q => absurd q (by decide +kernel)⟩, e3⟩
  · cases e
def r_W_sweepTours_13 (g : Nat → Int32 → Int32 → Int32 → Int32 → jH → Option jO) : jL → List Value → jH → Option jO := fun L S h => match L, S with
  | [some (.ref v0), some (.int v1), some (.int v2), some (.int v3), some (.int v4), _], [] => g v0 v1 v2 v3 v4 h
  | _, _ => none
def r_W_sweepTours_4 (g : Nat → Int32 → Int32 → Int32 → jH → Option jO) : jL → List Value → jH → Option jO := fun L S h => match L, S with
  | [some (.ref v0), some (.int v1), some (.int v2), some (.int v3), _, _], [] => g v0 v1 v2 v3 h
  | _, _ => none
def c_W_sweepTours (F : Nat × Nat) : jc1 := fun args h k => match args with
  | [w0, .int a1] => j_rv w0 fun a0 => if j_k h a0 = 16 then (jbI (m_W_sweepTours F a0 a1 h) fun r h => k (some (.int r)) h) else none
  | _ => none
set_option maxRecDepth 100000 in
theorem e_W_sweepTours_13 (F : Nat × Nat) (k4 : Nat → Int32 → Int32 → Int32 → jH → Option jO) (f : Nat) (v0 : Nat) (v1 : Int32) (v2 : Int32) (v3 : Int32) (v4 : Int32) (u1 : Option Value) (h : jH) : m_W_sweepTours_13 F k4 (f + 1) v0 v1 v2 v3 v4 h = jst (j_C [(120, c_W_tourCountBy F)]) 1 (cd_W_sweepTours 13) [some (.ref v0), some (.int v1), some (.int v2), some (.int v3), some (.int v4), u1] [] h (jrun (j_C [(120, c_W_tourCountBy F)]) 1 cd_W_sweepTours (j_T [(4, r_W_sweepTours_4 k4), (13, r_W_sweepTours_13 (m_W_sweepTours_13 F k4 f))]) 50) := rfl
set_option maxRecDepth 100000 in
theorem e_W_sweepTours_4 (F : Nat × Nat) (f : Nat) (v0 : Nat) (v1 : Int32) (v2 : Int32) (v3 : Int32) (u1 : Option Value) (u2 : Option Value) (h : jH) : m_W_sweepTours_4 F (f + 1) v0 v1 v2 v3 h = jst (j_C [(120, c_W_tourCountBy F)]) 1 (cd_W_sweepTours 4) [some (.ref v0), some (.int v1), some (.int v2), some (.int v3), u1, u2] [] h (jrun (j_C [(120, c_W_tourCountBy F)]) 1 cd_W_sweepTours (j_T [(13, r_W_sweepTours_13 (m_W_sweepTours_13 F (m_W_sweepTours_4 F f) F.1))]) 50) := rfl
set_option maxRecDepth 100000 in
theorem e_W_sweepTours (F : Nat × Nat) (o : Nat) (a1 : Int32) (h : jH) : m_W_sweepTours F o a1 h = jrun (j_C [(120, c_W_tourCountBy F)]) 1 cd_W_sweepTours (j_T [(4, r_W_sweepTours_4 (m_W_sweepTours_4 F F.1))]) 50 0 [some (.ref o), some (.int a1), none, none, none, none] [] h := rfl
theorem hc_W_sweepTours (F : Nat × Nat) : jCok (2 + 0 * F.2) (j_C [(120, c_W_tourCountBy F)]) := jC_ok (List.forall_mem_cons.mpr ⟨(co_W_tourCountBy F).up (by omega), fun _ h => absurd h List.not_mem_nil⟩)
theorem g_W_sweepTours_13 (F : Nat × Nat) (k4 : Nat → Int32 → Int32 → Int32 → jH → Option jO) (hk4 : jG M_W_sweepTours (2 + 0 * F.2) 4 (r_W_sweepTours_4 k4)) : ∀ f, jG M_W_sweepTours (2 + 0 * F.2) 13 (r_W_sweepTours_13 (m_W_sweepTours_13 F k4 f))
  | 0 => jG.no (fun L S h => by unfold r_W_sweepTours_13; split <;> rfl)
  | f + 1 => (jst_ok ok_W_sweepTours (hc_W_sweepTours F) (jrun_ok ok_W_sweepTours (hc_W_sweepTours F) (jT_ok (List.forall_mem_cons.mpr ⟨hk4, List.forall_mem_cons.mpr ⟨g_W_sweepTours_13 F k4 hk4 f, fun _ h => absurd h List.not_mem_nil⟩⟩)) 50) 13).of (fun L S h out e => by unfold r_W_sweepTours_13 at e; split at e; exact (e_W_sweepTours_13 F k4 f _ _ _ _ _ _ _).symm.trans e; cases e)
theorem g_W_sweepTours_4 (F : Nat × Nat) : ∀ f, jG M_W_sweepTours (2 + 0 * F.2) 4 (r_W_sweepTours_4 (m_W_sweepTours_4 F f))
  | 0 => jG.no (fun L S h => by unfold r_W_sweepTours_4; split <;> rfl)
  | f + 1 => (jst_ok ok_W_sweepTours (hc_W_sweepTours F) (jrun_ok ok_W_sweepTours (hc_W_sweepTours F) (jT_ok (List.forall_mem_cons.mpr ⟨g_W_sweepTours_13 F _ (g_W_sweepTours_4 F f) F.1, fun _ h => absurd h List.not_mem_nil⟩)) 50) 4).of (fun L S h out e => by unfold r_W_sweepTours_4 at e; split at e; exact (e_W_sweepTours_4 F f _ _ _ _ _ _ _).symm.trans e; cases e)
theorem k_W_sweepTours (F : Nat × Nat) (o : Nat) (a1 : Int32) (h : jH) (r : Option Value) (h1 : jH) (e : m_W_sweepTours F o a1 h = some (r, h1)) : jM1 (2 + 0 * F.2) 119 [.ref o, .int a1] h r h1 := jM_of (M := M_W_sweepTours) mok_W_sweepTours (by decide +kernel) (by decide +kernel) (Or.inr (Or.inl ⟨rfl, rfl⟩)) (fun q => nomatch q) (jrun_ok ok_W_sweepTours (hc_W_sweepTours F) (jT_ok (List.forall_mem_cons.mpr ⟨g_W_sweepTours_4 F F.1, fun _ h => absurd h List.not_mem_nil⟩)) 50 0) (List.all_eq_true.mp rfl) (Nat.le_of_ble_eq_true rfl) (fun E => Nat.le_of_ble_eq_true rfl) ((e_W_sweepTours F o a1 h).symm.trans e)
theorem co_W_sweepTours (F : Nat × Nat) : jc_ok (2 + 0 * F.2 + 1) 119 (c_W_sweepTours F) := by
  intro as h k out e
  unfold c_W_sweepTours at e
  split at e
  · obtain ⟨a0, rfl, e1⟩ := js_rv e
    obtain ⟨hg, e2⟩ := js_if e1
    obtain ⟨r, h1, hm, e3⟩ := js_jbI e2
    exact ⟨_, _, _, Nat.le_refl _, k_W_sweepTours F _ _ _ _ _ hm, ⟨fun _ => ⟨_, _, rfl, Or.inl ⟨6, by decide, hg, by decide +kernel⟩⟩, fun q => absurd q (by decide +kernel)⟩, e3⟩
  · cases e
def r_W_countTours_48 (g : Nat → Int32 → Int32 → Int32 → jH → Option jO) : jL → List Value → jH → Option jO := fun L S h => match L, S with
  | [some (.ref v0), _, some (.int v2), some (.int v3), some (.int v4)], [] => g v0 v2 v3 v4 h
  | _, _ => none
def r_W_countTours_39 (g : Nat → Int32 → jH → Option jO) : jL → List Value → jH → Option jO := fun L S h => match L, S with
  | [some (.ref v0), _, some (.int v2), _, _], [] => g v0 v2 h
  | _, _ => none
def r_W_countTours_11 (g : Nat → Int32 → Int32 → jH → Option jO) : jL → List Value → jH → Option jO := fun L S h => match L, S with
  | [some (.ref v0), some (.int v1), some (.int v2), _, _], [] => g v0 v1 v2 h
  | _, _ => none
def c_W_countTours (F : Nat × Nat) : jc1 := fun args h k => match args with
  | [w0, .int a1] => j_rv w0 fun a0 => if j_k h a0 = 16 then (jbV (m_W_countTours F a0 a1 h) fun h => k none h) else none
  | _ => none
set_option maxRecDepth 100000 in
theorem e_W_countTours_48 (F : Nat × Nat) (k39 : Nat → Int32 → jH → Option jO) (f : Nat) (v0 : Nat) (v2 : Int32) (v3 : Int32) (v4 : Int32) (u1 : Option Value) (h : jH) : m_W_countTours_48 F k39 (f + 1) v0 v2 v3 v4 h = jst (j_C [(110, c_Ja_fill F), (119, c_W_sweepTours F)]) 4 (cd_W_countTours 48) [some (.ref v0), u1, some (.int v2), some (.int v3), some (.int v4)] [] h (jrun (j_C [(110, c_Ja_fill F), (119, c_W_sweepTours F)]) 4 cd_W_countTours (j_T [(39, r_W_countTours_39 k39), (48, r_W_countTours_48 (m_W_countTours_48 F k39 f))]) 49) := rfl
set_option maxRecDepth 100000 in
theorem e_W_countTours_39 (F : Nat × Nat) (f : Nat) (v0 : Nat) (v2 : Int32) (u1 : Option Value) (u2 : Option Value) (u3 : Option Value) (h : jH) : m_W_countTours_39 F (f + 1) v0 v2 h = jst (j_C [(110, c_Ja_fill F), (119, c_W_sweepTours F)]) 4 (cd_W_countTours 39) [some (.ref v0), u1, some (.int v2), u2, u3] [] h (jrun (j_C [(110, c_Ja_fill F), (119, c_W_sweepTours F)]) 4 cd_W_countTours (j_T [(48, r_W_countTours_48 (m_W_countTours_48 F (m_W_countTours_39 F f) F.1))]) 49) := rfl
set_option maxRecDepth 100000 in
theorem e_W_countTours_11 (F : Nat × Nat) (f : Nat) (v0 : Nat) (v1 : Int32) (v2 : Int32) (u1 : Option Value) (u2 : Option Value) (h : jH) : m_W_countTours_11 F (f + 1) v0 v1 v2 h = jst (j_C [(110, c_Ja_fill F), (119, c_W_sweepTours F)]) 4 (cd_W_countTours 11) [some (.ref v0), some (.int v1), some (.int v2), u1, u2] [] h (jrun (j_C [(110, c_Ja_fill F), (119, c_W_sweepTours F)]) 4 cd_W_countTours (j_T [(11, r_W_countTours_11 (m_W_countTours_11 F f)), (39, r_W_countTours_39 (m_W_countTours_39 F F.1))]) 49) := rfl
set_option maxRecDepth 100000 in
theorem e_W_countTours (F : Nat × Nat) (o : Nat) (a1 : Int32) (h : jH) : m_W_countTours F o a1 h = jrun (j_C [(110, c_Ja_fill F), (119, c_W_sweepTours F)]) 4 cd_W_countTours (j_T [(11, r_W_countTours_11 (m_W_countTours_11 F F.1))]) 49 0 [some (.ref o), some (.int a1), none, none, none] [] h := rfl
theorem hc_W_countTours (F : Nat × Nat) : jCok (3 + 0 * F.2) (j_C [(110, c_Ja_fill F), (119, c_W_sweepTours F)]) := jC_ok (List.forall_mem_cons.mpr ⟨(co_Ja_fill F).up (by omega), List.forall_mem_cons.mpr ⟨(co_W_sweepTours F).up (by omega), fun _ h => absurd h List.not_mem_nil⟩⟩)
theorem g_W_countTours_48 (F : Nat × Nat) (k39 : Nat → Int32 → jH → Option jO) (hk39 : jG M_W_countTours (3 + 0 * F.2) 39 (r_W_countTours_39 k39)) : ∀ f, jG M_W_countTours (3 + 0 * F.2) 48 (r_W_countTours_48 (m_W_countTours_48 F k39 f))
  | 0 => jG.no (fun L S h => by unfold r_W_countTours_48; split <;> rfl)
  | f + 1 => (jst_ok ok_W_countTours (hc_W_countTours F) (jrun_ok ok_W_countTours (hc_W_countTours F) (jT_ok (List.forall_mem_cons.mpr ⟨hk39, List.forall_mem_cons.mpr ⟨g_W_countTours_48 F k39 hk39 f, fun _ h => absurd h List.not_mem_nil⟩⟩)) 49) 48).of (fun L S h out e => by unfold r_W_countTours_48 at e; split at e; exact (e_W_countTours_48 F k39 f _ _ _ _ _ _).symm.trans e; cases e)
theorem g_W_countTours_39 (F : Nat × Nat) : ∀ f, jG M_W_countTours (3 + 0 * F.2) 39 (r_W_countTours_39 (m_W_countTours_39 F f))
  | 0 => jG.no (fun L S h => by unfold r_W_countTours_39; split <;> rfl)
  | f + 1 => (jst_ok ok_W_countTours (hc_W_countTours F) (jrun_ok ok_W_countTours (hc_W_countTours F) (jT_ok (List.forall_mem_cons.mpr ⟨g_W_countTours_48 F _ (g_W_countTours_39 F f) F.1, fun _ h => absurd h List.not_mem_nil⟩)) 49) 39).of (fun L S h out e => by unfold r_W_countTours_39 at e; split at e; exact (e_W_countTours_39 F f _ _ _ _ _ _).symm.trans e; cases e)
theorem g_W_countTours_11 (F : Nat × Nat) : ∀ f, jG M_W_countTours (3 + 0 * F.2) 11 (r_W_countTours_11 (m_W_countTours_11 F f))
  | 0 => jG.no (fun L S h => by unfold r_W_countTours_11; split <;> rfl)
  | f + 1 => (jst_ok ok_W_countTours (hc_W_countTours F) (jrun_ok ok_W_countTours (hc_W_countTours F) (jT_ok (List.forall_mem_cons.mpr ⟨g_W_countTours_11 F f, List.forall_mem_cons.mpr ⟨g_W_countTours_39 F F.1, fun _ h => absurd h List.not_mem_nil⟩⟩)) 49) 11).of (fun L S h out e => by unfold r_W_countTours_11 at e; split at e; exact (e_W_countTours_11 F f _ _ _ _ _ _).symm.trans e; cases e)
theorem k_W_countTours (F : Nat × Nat) (o : Nat) (a1 : Int32) (h : jH) (r : Option Value) (h1 : jH) (e : m_W_countTours F o a1 h = some (r, h1)) : jM1 (3 + 0 * F.2) 118 [.ref o, .int a1] h r h1 := jM_of (M := M_W_countTours) mok_W_countTours (by decide +kernel) (by decide +kernel) (Or.inr (Or.inr (Or.inr (Or.inr ⟨rfl, rfl⟩)))) (fun q => nomatch q) (jrun_ok ok_W_countTours (hc_W_countTours F) (jT_ok (List.forall_mem_cons.mpr ⟨g_W_countTours_11 F F.1, fun _ h => absurd h List.not_mem_nil⟩)) 49 0) (List.all_eq_true.mp rfl) (Nat.le_of_ble_eq_true rfl) (fun E => Nat.le_of_ble_eq_true rfl) ((e_W_countTours F o a1 h).symm.trans e)
theorem co_W_countTours (F : Nat × Nat) : jc_ok (3 + 0 * F.2 + 1) 118 (c_W_countTours F) := by
  intro as h k out e
  unfold c_W_countTours at e
  split at e
  · obtain ⟨a0, rfl, e1⟩ := js_rv e
    obtain ⟨hg, e2⟩ := js_if e1
    obtain ⟨h1, hm, e3⟩ := js_jbV e2
    exact ⟨_, _, _, Nat.le_refl _, k_W_countTours F _ _ _ _ _ hm, ⟨fun _ => ⟨_, _, rfl, Or.inl ⟨6, by decide, hg, by decide +kernel⟩⟩, fun q => absurd q (by decide +kernel)⟩, e3⟩
  · cases e
def r_W_nextOfTour_11 (g : Nat → Int32 → Int32 → Nat → Int32 → Int32 → jH → Option jO) : jL → List Value → jH → Option jO := fun L S h => match L, S with
  | [some (.ref v0), some (.int v1), some (.int v2), some (.ref v3), some (.int v4), some (.int v5), _, _], [] => g v0 v1 v2 v3 v4 v5 h
  | _, _ => none
def c_W_nextOfTour (F : Nat × Nat) : jc1 := fun args h k => match args with
  | [w0, .int a1, .int a2] => j_rv w0 fun a0 => if j_k h a0 = 16 then (jbI (m_W_nextOfTour F a0 a1 a2 h) fun r h => k (some (.int r)) h) else none
  | _ => none
set_option maxRecDepth 100000 in
theorem e_W_nextOfTour_11 (F : Nat × Nat) (f : Nat) (v0 : Nat) (v1 : Int32) (v2 : Int32) (v3 : Nat) (v4 : Int32) (v5 : Int32) (u1 : Option Value) (u2 : Option Value) (h : jH) : m_W_nextOfTour_11 F (f + 1) v0 v1 v2 v3 v4 v5 h = jst (j_C [(37, c_F_neighbour F), (120, c_W_tourCountBy F)]) 0 (cd_W_nextOfTour 11) [some (.ref v0), some (.int v1), some (.int v2), some (.ref v3), some (.int v4), some (.int v5), u1, u2] [] h (jrun (j_C [(37, c_F_neighbour F), (120, c_W_tourCountBy F)]) 0 cd_W_nextOfTour (j_T [(11, r_W_nextOfTour_11 (m_W_nextOfTour_11 F f))]) 46) := rfl
set_option maxRecDepth 100000 in
theorem e_W_nextOfTour (F : Nat × Nat) (o : Nat) (a1 : Int32) (a2 : Int32) (h : jH) : m_W_nextOfTour F o a1 a2 h = jrun (j_C [(37, c_F_neighbour F), (120, c_W_tourCountBy F)]) 0 cd_W_nextOfTour (j_T [(11, r_W_nextOfTour_11 (m_W_nextOfTour_11 F F.1))]) 46 0 [some (.ref o), some (.int a1), some (.int a2), none, none, none, none, none] [] h := rfl
theorem hc_W_nextOfTour (F : Nat × Nat) : jCok (2 + 0 * F.2) (j_C [(37, c_F_neighbour F), (120, c_W_tourCountBy F)]) := jC_ok (List.forall_mem_cons.mpr ⟨(co_F_neighbour F).up (by omega), List.forall_mem_cons.mpr ⟨(co_W_tourCountBy F).up (by omega), fun _ h => absurd h List.not_mem_nil⟩⟩)
theorem g_W_nextOfTour_11 (F : Nat × Nat) : ∀ f, jG M_W_nextOfTour (2 + 0 * F.2) 11 (r_W_nextOfTour_11 (m_W_nextOfTour_11 F f))
  | 0 => jG.no (fun L S h => by unfold r_W_nextOfTour_11; split <;> rfl)
  | f + 1 => (jst_ok ok_W_nextOfTour (hc_W_nextOfTour F) (jrun_ok ok_W_nextOfTour (hc_W_nextOfTour F) (jT_ok (List.forall_mem_cons.mpr ⟨g_W_nextOfTour_11 F f, fun _ h => absurd h List.not_mem_nil⟩)) 46) 11).of (fun L S h out e => by unfold r_W_nextOfTour_11 at e; split at e; exact (e_W_nextOfTour_11 F f _ _ _ _ _ _ _ _ _).symm.trans e; cases e)
theorem k_W_nextOfTour (F : Nat × Nat) (o : Nat) (a1 : Int32) (a2 : Int32) (h : jH) (r : Option Value) (h1 : jH) (e : m_W_nextOfTour F o a1 a2 h = some (r, h1)) : jM1 (2 + 0 * F.2) 122 [.ref o, .int a1, .int a2] h r h1 := jM_of (M := M_W_nextOfTour) mok_W_nextOfTour (by decide +kernel) (by decide +kernel) (Or.inl ⟨rfl, rfl⟩) (fun q => nomatch q) (jrun_ok ok_W_nextOfTour (hc_W_nextOfTour F) (jT_ok (List.forall_mem_cons.mpr ⟨g_W_nextOfTour_11 F F.1, fun _ h => absurd h List.not_mem_nil⟩)) 46 0) (List.all_eq_true.mp rfl) (Nat.le_of_ble_eq_true rfl) (fun E => Nat.le_of_ble_eq_true rfl) ((e_W_nextOfTour F o a1 a2 h).symm.trans e)
theorem co_W_nextOfTour (F : Nat × Nat) : jc_ok (2 + 0 * F.2 + 1) 122 (c_W_nextOfTour F) := by
  intro as h k out e
  unfold c_W_nextOfTour at e
  split at e
  · obtain ⟨a0, rfl, e1⟩ := js_rv e
    obtain ⟨hg, e2⟩ := js_if e1
    obtain ⟨r, h1, hm, e3⟩ := js_jbI e2
    exact ⟨_, _, _, Nat.le_refl _, k_W_nextOfTour F _ _ _ _ _ _ hm, ⟨fun _ => ⟨_, _, rfl, Or.inl ⟨6, by decide, hg, by decide +kernel⟩⟩, fun q => absurd q (by decide +kernel)⟩, e3⟩
  · cases e
def r_W_tourTold_34 (g : Nat → Int32 → Int32 → Int32 → Int32 → Int32 → jH → Option jO) : jL → List Value → jH → Option jO := fun L S h => match L, S with
  | [some (.ref v0), _, some (.int v2), some (.int v3), _, some (.int v5), some (.int v6), some (.int v7)], [] => g v0 v2 v3 v5 v6 v7 h
  | _, _ => none
def c_W_tourTold (F : Nat × Nat) : jc1 := fun args h k => match args with
  | [w0, .int a1, .int a2, .int a3] => j_rv w0 fun a0 => if j_k h a0 = 16 then (jbI (m_W_tourTold F a0 a1 a2 a3 h) fun r h => k (some (.int r)) h) else none
  | _ => none
set_option maxRecDepth 100000 in
theorem e_W_tourTold_34 (F : Nat × Nat) (f : Nat) (v0 : Nat) (v2 : Int32) (v3 : Int32) (v5 : Int32) (v6 : Int32) (v7 : Int32) (u1 : Option Value) (u2 : Option Value) (h : jH) : m_W_tourTold_34 F (f + 1) v0 v2 v3 v5 v6 v7 h = jst (j_C [(122, c_W_nextOfTour F)]) 0 (cd_W_tourTold 34) [some (.ref v0), u1, some (.int v2), some (.int v3), u2, some (.int v5), some (.int v6), some (.int v7)] [] h (jrun (j_C [(122, c_W_nextOfTour F)]) 0 cd_W_tourTold (j_T [(34, r_W_tourTold_34 (m_W_tourTold_34 F f))]) 61) := rfl
set_option maxRecDepth 100000 in
theorem e_W_tourTold (F : Nat × Nat) (o : Nat) (a1 : Int32) (a2 : Int32) (a3 : Int32) (h : jH) : m_W_tourTold F o a1 a2 a3 h = jrun (j_C [(122, c_W_nextOfTour F)]) 0 cd_W_tourTold (j_T [(34, r_W_tourTold_34 (m_W_tourTold_34 F F.1))]) 61 0 [some (.ref o), some (.int a1), some (.int a2), some (.int a3), none, none, none, none] [] h := rfl
theorem hc_W_tourTold (F : Nat × Nat) : jCok (3 + 0 * F.2) (j_C [(122, c_W_nextOfTour F)]) := jC_ok (List.forall_mem_cons.mpr ⟨(co_W_nextOfTour F).up (by omega), fun _ h => absurd h List.not_mem_nil⟩)
theorem g_W_tourTold_34 (F : Nat × Nat) : ∀ f, jG M_W_tourTold (3 + 0 * F.2) 34 (r_W_tourTold_34 (m_W_tourTold_34 F f))
  | 0 => jG.no (fun L S h => by unfold r_W_tourTold_34; split <;> rfl)
  | f + 1 => (jst_ok ok_W_tourTold (hc_W_tourTold F) (jrun_ok ok_W_tourTold (hc_W_tourTold F) (jT_ok (List.forall_mem_cons.mpr ⟨g_W_tourTold_34 F f, fun _ h => absurd h List.not_mem_nil⟩)) 61) 34).of (fun L S h out e => by unfold r_W_tourTold_34 at e; split at e; exact (e_W_tourTold_34 F f _ _ _ _ _ _ _ _ _).symm.trans e; cases e)
theorem k_W_tourTold (F : Nat × Nat) (o : Nat) (a1 : Int32) (a2 : Int32) (a3 : Int32) (h : jH) (r : Option Value) (h1 : jH) (e : m_W_tourTold F o a1 a2 a3 h = some (r, h1)) : jM1 (3 + 0 * F.2) 121 [.ref o, .int a1, .int a2, .int a3] h r h1 := jM_of (M := M_W_tourTold) mok_W_tourTold (by decide +kernel) (by decide +kernel) (Or.inl ⟨rfl, rfl⟩) (fun q => nomatch q) (jrun_ok ok_W_tourTold (hc_W_tourTold F) (jT_ok (List.forall_mem_cons.mpr ⟨g_W_tourTold_34 F F.1, fun _ h => absurd h List.not_mem_nil⟩)) 61 0) (List.all_eq_true.mp rfl) (Nat.le_of_ble_eq_true rfl) (fun E => Nat.le_of_ble_eq_true rfl) ((e_W_tourTold F o a1 a2 a3 h).symm.trans e)
theorem co_W_tourTold (F : Nat × Nat) : jc_ok (3 + 0 * F.2 + 1) 121 (c_W_tourTold F) := by
  intro as h k out e
  unfold c_W_tourTold at e
  split at e
  · obtain ⟨a0, rfl, e1⟩ := js_rv e
    obtain ⟨hg, e2⟩ := js_if e1
    obtain ⟨r, h1, hm, e3⟩ := js_jbI e2
    exact ⟨_, _, _, Nat.le_refl _, k_W_tourTold F _ _ _ _ _ _ _ hm, ⟨fun _ => ⟨_, _, rfl, Or.inl ⟨6, by decide, hg, by decide +kernel⟩⟩, fun q => absurd q (by decide +kernel)⟩, e3⟩
  · cases e
def c_F_tour (F : Nat × Nat) : jc1 := fun args h k => match args with
  | [w0, .int a1, .int a2] => j_rv w0 fun a0 => if j_k h a0 = 10 then (jbI (m_F_tour F a0 a1 a2 h) fun r h => k (some (.int r)) h) else none
  | _ => none
set_option maxRecDepth 100000 in
theorem e_F_tour (F : Nat × Nat) (o : Nat) (a1 : Int32) (a2 : Int32) (h : jH) : m_F_tour F o a1 a2 h = jrun (j_C [(19, c_L_hasWalker F), (21, c_L_lawInForce F), (107, c_W_priceSteps F), (116, c_W_seeWanted F), (118, c_W_countTours F), (121, c_W_tourTold F)]) 0 cd_F_tour (j_T []) 51 0 [some (.ref o), some (.int a1), some (.int a2), none] [] h := rfl
theorem hc_F_tour (F : Nat × Nat) : jCok (5 + 0 * F.2) (j_C [(19, c_L_hasWalker F), (21, c_L_lawInForce F), (107, c_W_priceSteps F), (116, c_W_seeWanted F), (118, c_W_countTours F), (121, c_W_tourTold F)]) := jC_ok (List.forall_mem_cons.mpr ⟨(co_L_hasWalker F).up (by omega), List.forall_mem_cons.mpr ⟨(co_L_lawInForce F).up (by omega), List.forall_mem_cons.mpr ⟨(co_W_priceSteps F).up (by omega), List.forall_mem_cons.mpr ⟨(co_W_seeWanted F).up (by omega), List.forall_mem_cons.mpr ⟨(co_W_countTours F).up (by omega), List.forall_mem_cons.mpr ⟨(co_W_tourTold F).up (by omega), fun _ h => absurd h List.not_mem_nil⟩⟩⟩⟩⟩⟩)
theorem k_F_tour (F : Nat × Nat) (o : Nat) (a1 : Int32) (a2 : Int32) (h : jH) (r : Option Value) (h1 : jH) (e : m_F_tour F o a1 a2 h = some (r, h1)) : jM1 (5 + 0 * F.2) 115 [.ref o, .int a1, .int a2] h r h1 := jM_of (M := M_F_tour) mok_F_tour (by decide +kernel) (by decide +kernel) (Or.inl ⟨rfl, rfl⟩) (fun q => nomatch q) (jrun_ok ok_F_tour (hc_F_tour F) (jT_ok (fun _ h => absurd h List.not_mem_nil)) 51 0) (List.all_eq_true.mp rfl) (Nat.le_of_ble_eq_true rfl) (fun E => Nat.le_of_ble_eq_true rfl) ((e_F_tour F o a1 a2 h).symm.trans e)
theorem co_F_tour (F : Nat × Nat) : jc_ok (5 + 0 * F.2 + 1) 115 (c_F_tour F) := by
  intro as h k out e
  unfold c_F_tour at e
  split at e
  · obtain ⟨a0, rfl, e1⟩ := js_rv e
    obtain ⟨hg, e2⟩ := js_if e1
    obtain ⟨r, h1, hm, e3⟩ := js_jbI e2
    exact ⟨_, _, _, Nat.le_refl _, k_F_tour F _ _ _ _ _ _ hm, ⟨fun _ => ⟨_, _, rfl, Or.inl ⟨0, by decide, hg, by decide +kernel⟩⟩, fun q => absurd q (by decide +kernel)⟩, e3⟩
  · cases e
def c_W_countFrom (F : Nat × Nat) : jc1 := fun args h k => match args with
  | [w0, .int a1] => j_rv w0 fun a0 => if j_k h a0 = 16 then (jbV (m_W_countFrom F a0 a1 h) fun h => k none h) else none
  | _ => none
set_option maxRecDepth 100000 in
theorem e_W_countFrom (F : Nat × Nat) (o : Nat) (a1 : Int32) (h : jH) : m_W_countFrom F o a1 h = jrun (j_C [(109, c_W_countAll F)]) 4 cd_W_countFrom (j_T []) 10 0 [some (.ref o), some (.int a1)] [] h := rfl
theorem hc_W_countFrom (F : Nat × Nat) : jCok (2 + 0 * F.2) (j_C [(109, c_W_countAll F)]) := jC_ok (List.forall_mem_cons.mpr ⟨(co_W_countAll F).up (by omega), fun _ h => absurd h List.not_mem_nil⟩)
theorem k_W_countFrom (F : Nat × Nat) (o : Nat) (a1 : Int32) (h : jH) (r : Option Value) (h1 : jH) (e : m_W_countFrom F o a1 h = some (r, h1)) : jM1 (2 + 0 * F.2) 124 [.ref o, .int a1] h r h1 := jM_of (M := M_W_countFrom) mok_W_countFrom (by decide +kernel) (by decide +kernel) (Or.inr (Or.inr (Or.inr (Or.inr ⟨rfl, rfl⟩)))) (fun q => nomatch q) (jrun_ok ok_W_countFrom (hc_W_countFrom F) (jT_ok (fun _ h => absurd h List.not_mem_nil)) 10 0) (List.all_eq_true.mp rfl) (Nat.le_of_ble_eq_true rfl) (fun E => Nat.le_of_ble_eq_true rfl) ((e_W_countFrom F o a1 h).symm.trans e)
theorem co_W_countFrom (F : Nat × Nat) : jc_ok (2 + 0 * F.2 + 1) 124 (c_W_countFrom F) := by
  intro as h k out e
  unfold c_W_countFrom at e
  split at e
  · obtain ⟨a0, rfl, e1⟩ := js_rv e
    obtain ⟨hg, e2⟩ := js_if e1
    obtain ⟨h1, hm, e3⟩ := js_jbV e2
    exact ⟨_, _, _, Nat.le_refl _, k_W_countFrom F _ _ _ _ _ hm, ⟨fun _ => ⟨_, _, rfl, Or.inl ⟨6, by decide, hg, by decide +kernel⟩⟩, fun q => absurd q (by decide +kernel)⟩, e3⟩
  · cases e
def c_W_keepCounts (F : Nat × Nat) : jc1 := fun args h k => match args with
  | [w0] => j_rv w0 fun a0 => if j_k h a0 = 16 then (jbV (m_W_keepCounts F a0 h) fun h => k none h) else none
  | _ => none
set_option maxRecDepth 100000 in
theorem e_W_keepCounts (F : Nat × Nat) (o : Nat) (h : jH) : m_W_keepCounts F o h = jrun (j_C []) 4 cd_W_keepCounts (j_T []) 14 0 [some (.ref o)] [] h := rfl
theorem hc_W_keepCounts (F : Nat × Nat) : jCok (0 + 0 * F.2) (j_C []) := jC_ok (fun _ h => absurd h List.not_mem_nil)
theorem k_W_keepCounts (F : Nat × Nat) (o : Nat) (h : jH) (r : Option Value) (h1 : jH) (e : m_W_keepCounts F o h = some (r, h1)) : jM1 (0 + 0 * F.2) 125 [.ref o] h r h1 := jM_of (M := M_W_keepCounts) mok_W_keepCounts (by decide +kernel) (by decide +kernel) (Or.inr (Or.inr (Or.inr (Or.inr ⟨rfl, rfl⟩)))) (fun q => nomatch q) (jrun_ok ok_W_keepCounts (hc_W_keepCounts F) (jT_ok (fun _ h => absurd h List.not_mem_nil)) 14 0) (List.all_eq_true.mp rfl) (Nat.le_of_ble_eq_true rfl) (fun E => Nat.le_of_ble_eq_true rfl) ((e_W_keepCounts F o h).symm.trans e)
theorem co_W_keepCounts (F : Nat × Nat) : jc_ok (0 + 0 * F.2 + 1) 125 (c_W_keepCounts F) := by
  intro as h k out e
  unfold c_W_keepCounts at e
  split at e
  · obtain ⟨a0, rfl, e1⟩ := js_rv e
    obtain ⟨hg, e2⟩ := js_if e1
    obtain ⟨h1, hm, e3⟩ := js_jbV e2
    exact ⟨_, _, _, Nat.le_refl _, k_W_keepCounts F _ _ _ _ hm, ⟨fun _ => ⟨_, _, rfl, Or.inl ⟨6, by decide, hg, by decide +kernel⟩⟩, fun q => absurd q (by decide +kernel)⟩, e3⟩
  · cases e
def c_W_greaterCount (F : Nat × Nat) : jc1 := fun args h k => match args with
  | [w0, .int a1] => j_rv w0 fun a0 => if j_k h a0 = 16 then (jbI (m_W_greaterCount F a0 a1 h) fun r h => k (some (.int r)) h) else none
  | _ => none
set_option maxRecDepth 100000 in
theorem e_W_greaterCount (F : Nat × Nat) (o : Nat) (a1 : Int32) (h : jH) : m_W_greaterCount F o a1 h = jrun (j_C [(29, c_Jm_max F)]) 0 cd_W_greaterCount (j_T []) 15 0 [some (.ref o), some (.int a1)] [] h := rfl
theorem hc_W_greaterCount (F : Nat × Nat) : jCok (1 + 0 * F.2) (j_C [(29, c_Jm_max F)]) := jC_ok (List.forall_mem_cons.mpr ⟨(co_Jm_max F).up (by omega), fun _ h => absurd h List.not_mem_nil⟩)
theorem k_W_greaterCount (F : Nat × Nat) (o : Nat) (a1 : Int32) (h : jH) (r : Option Value) (h1 : jH) (e : m_W_greaterCount F o a1 h = some (r, h1)) : jM1 (1 + 0 * F.2) 127 [.ref o, .int a1] h r h1 := jM_of (M := M_W_greaterCount) mok_W_greaterCount (by decide +kernel) (by decide +kernel) (Or.inl ⟨rfl, rfl⟩) (fun q => nomatch q) (jrun_ok ok_W_greaterCount (hc_W_greaterCount F) (jT_ok (fun _ h => absurd h List.not_mem_nil)) 15 0) (List.all_eq_true.mp rfl) (Nat.le_of_ble_eq_true rfl) (fun E => Nat.le_of_ble_eq_true rfl) ((e_W_greaterCount F o a1 h).symm.trans e)
theorem co_W_greaterCount (F : Nat × Nat) : jc_ok (1 + 0 * F.2 + 1) 127 (c_W_greaterCount F) := by
  intro as h k out e
  unfold c_W_greaterCount at e
  split at e
  · obtain ⟨a0, rfl, e1⟩ := js_rv e
    obtain ⟨hg, e2⟩ := js_if e1
    obtain ⟨r, h1, hm, e3⟩ := js_jbI e2
    exact ⟨_, _, _, Nat.le_refl _, k_W_greaterCount F _ _ _ _ _ hm, ⟨fun _ => ⟨_, _, rfl, Or.inl ⟨6, by decide, hg, by decide +kernel⟩⟩, fun q => absurd q (by decide +kernel)⟩, e3⟩
  · cases e
def r_W_soonestMeeting_7 (g : Nat → Int32 → Int32 → Int32 → jH → Option jO) : jL → List Value → jH → Option jO := fun L S h => match L, S with
  | [some (.ref v0), some (.int v1), some (.int v2), some (.int v3)], [] => g v0 v1 v2 v3 h
  | _, _ => none
def c_W_soonestMeeting (F : Nat × Nat) : jc1 := fun args h k => match args with
  | [w0] => j_rv w0 fun a0 => if j_k h a0 = 16 then (jbI (m_W_soonestMeeting F a0 h) fun r h => k (some (.int r)) h) else none
  | _ => none
set_option maxRecDepth 100000 in
theorem e_W_soonestMeeting_7 (F : Nat × Nat) (f : Nat) (v0 : Nat) (v1 : Int32) (v2 : Int32) (v3 : Int32) (h : jH) : m_W_soonestMeeting_7 F (f + 1) v0 v1 v2 v3 h = jst (j_C [(127, c_W_greaterCount F)]) 0 (cd_W_soonestMeeting 7) [some (.ref v0), some (.int v1), some (.int v2), some (.int v3)] [] h (jrun (j_C [(127, c_W_greaterCount F)]) 0 cd_W_soonestMeeting (j_T [(7, r_W_soonestMeeting_7 (m_W_soonestMeeting_7 F f))]) 29) := rfl
set_option maxRecDepth 100000 in
theorem e_W_soonestMeeting (F : Nat × Nat) (o : Nat) (h : jH) : m_W_soonestMeeting F o h = jrun (j_C [(127, c_W_greaterCount F)]) 0 cd_W_soonestMeeting (j_T [(7, r_W_soonestMeeting_7 (m_W_soonestMeeting_7 F F.1))]) 29 0 [some (.ref o), none, none, none] [] h := rfl
theorem hc_W_soonestMeeting (F : Nat × Nat) : jCok (2 + 0 * F.2) (j_C [(127, c_W_greaterCount F)]) := jC_ok (List.forall_mem_cons.mpr ⟨(co_W_greaterCount F).up (by omega), fun _ h => absurd h List.not_mem_nil⟩)
theorem g_W_soonestMeeting_7 (F : Nat × Nat) : ∀ f, jG M_W_soonestMeeting (2 + 0 * F.2) 7 (r_W_soonestMeeting_7 (m_W_soonestMeeting_7 F f))
  | 0 => jG.no (fun L S h => by unfold r_W_soonestMeeting_7; split <;> rfl)
  | f + 1 => (jst_ok ok_W_soonestMeeting (hc_W_soonestMeeting F) (jrun_ok ok_W_soonestMeeting (hc_W_soonestMeeting F) (jT_ok (List.forall_mem_cons.mpr ⟨g_W_soonestMeeting_7 F f, fun _ h => absurd h List.not_mem_nil⟩)) 29) 7).of (fun L S h out e => by unfold r_W_soonestMeeting_7 at e; split at e; exact (e_W_soonestMeeting_7 F f _ _ _ _ _).symm.trans e; cases e)
theorem k_W_soonestMeeting (F : Nat × Nat) (o : Nat) (h : jH) (r : Option Value) (h1 : jH) (e : m_W_soonestMeeting F o h = some (r, h1)) : jM1 (2 + 0 * F.2) 126 [.ref o] h r h1 := jM_of (M := M_W_soonestMeeting) mok_W_soonestMeeting (by decide +kernel) (by decide +kernel) (Or.inl ⟨rfl, rfl⟩) (fun q => nomatch q) (jrun_ok ok_W_soonestMeeting (hc_W_soonestMeeting F) (jT_ok (List.forall_mem_cons.mpr ⟨g_W_soonestMeeting_7 F F.1, fun _ h => absurd h List.not_mem_nil⟩)) 29 0) (List.all_eq_true.mp rfl) (Nat.le_of_ble_eq_true rfl) (fun E => Nat.le_of_ble_eq_true rfl) ((e_W_soonestMeeting F o h).symm.trans e)
theorem co_W_soonestMeeting (F : Nat × Nat) : jc_ok (2 + 0 * F.2 + 1) 126 (c_W_soonestMeeting F) := by
  intro as h k out e
  unfold c_W_soonestMeeting at e
  split at e
  · obtain ⟨a0, rfl, e1⟩ := js_rv e
    obtain ⟨hg, e2⟩ := js_if e1
    obtain ⟨r, h1, hm, e3⟩ := js_jbI e2
    exact ⟨_, _, _, Nat.le_refl _, k_W_soonestMeeting F _ _ _ _ hm, ⟨fun _ => ⟨_, _, rfl, Or.inl ⟨6, by decide, hg, by decide +kernel⟩⟩, fun q => absurd q (by decide +kernel)⟩, e3⟩
  · cases e
def c_F_meet (F : Nat × Nat) : jc1 := fun args h k => match args with
  | [w0, .int a1, .int a2, .int a3] => j_rv w0 fun a0 => if j_k h a0 = 10 then (jbI (m_F_meet F a0 a1 a2 a3 h) fun r h => k (some (.int r)) h) else none
  | _ => none
set_option maxRecDepth 100000 in
theorem e_F_meet (F : Nat × Nat) (o : Nat) (a1 : Int32) (a2 : Int32) (a3 : Int32) (h : jH) : m_F_meet F o a1 a2 a3 h = jrun (j_C [(19, c_L_hasWalker F), (21, c_L_lawInForce F), (107, c_W_priceSteps F), (124, c_W_countFrom F), (125, c_W_keepCounts F), (126, c_W_soonestMeeting F), (127, c_W_greaterCount F)]) 0 cd_F_meet (j_T []) 84 0 [some (.ref o), some (.int a1), some (.int a2), some (.int a3), none] [] h := rfl
theorem hc_F_meet (F : Nat × Nat) : jCok (5 + 0 * F.2) (j_C [(19, c_L_hasWalker F), (21, c_L_lawInForce F), (107, c_W_priceSteps F), (124, c_W_countFrom F), (125, c_W_keepCounts F), (126, c_W_soonestMeeting F), (127, c_W_greaterCount F)]) := jC_ok (List.forall_mem_cons.mpr ⟨(co_L_hasWalker F).up (by omega), List.forall_mem_cons.mpr ⟨(co_L_lawInForce F).up (by omega), List.forall_mem_cons.mpr ⟨(co_W_priceSteps F).up (by omega), List.forall_mem_cons.mpr ⟨(co_W_countFrom F).up (by omega), List.forall_mem_cons.mpr ⟨(co_W_keepCounts F).up (by omega), List.forall_mem_cons.mpr ⟨(co_W_soonestMeeting F).up (by omega), List.forall_mem_cons.mpr ⟨(co_W_greaterCount F).up (by omega), fun _ h => absurd h List.not_mem_nil⟩⟩⟩⟩⟩⟩⟩)
theorem k_F_meet (F : Nat × Nat) (o : Nat) (a1 : Int32) (a2 : Int32) (a3 : Int32) (h : jH) (r : Option Value) (h1 : jH) (e : m_F_meet F o a1 a2 a3 h = some (r, h1)) : jM1 (5 + 0 * F.2) 123 [.ref o, .int a1, .int a2, .int a3] h r h1 := jM_of (M := M_F_meet) mok_F_meet (by decide +kernel) (by decide +kernel) (Or.inl ⟨rfl, rfl⟩) (fun q => nomatch q) (jrun_ok ok_F_meet (hc_F_meet F) (jT_ok (fun _ h => absurd h List.not_mem_nil)) 84 0) (List.all_eq_true.mp rfl) (Nat.le_of_ble_eq_true rfl) (fun E => Nat.le_of_ble_eq_true rfl) ((e_F_meet F o a1 a2 a3 h).symm.trans e)
theorem co_F_meet (F : Nat × Nat) : jc_ok (5 + 0 * F.2 + 1) 123 (c_F_meet F) := by
  intro as h k out e
  unfold c_F_meet at e
  split at e
  · obtain ⟨a0, rfl, e1⟩ := js_rv e
    obtain ⟨hg, e2⟩ := js_if e1
    obtain ⟨r, h1, hm, e3⟩ := js_jbI e2
    exact ⟨_, _, _, Nat.le_refl _, k_F_meet F _ _ _ _ _ _ _ hm, ⟨fun _ => ⟨_, _, rfl, Or.inl ⟨0, by decide, hg, by decide +kernel⟩⟩, fun q => absurd q (by decide +kernel)⟩, e3⟩
  · cases e
def r_F_stale_17 (g : Nat → Int32 → Int32 → Int32 → jH → Option jO) : jL → List Value → jH → Option jO := fun L S h => match L, S with
  | [some (.ref v0), some (.int v1), some (.int v2), some (.int v3)], [] => g v0 v1 v2 v3 h
  | _, _ => none
def c_F_stale (F : Nat × Nat) : jc1 := fun args h k => match args with
  | [w0, .int a1] => j_rv w0 fun a0 => if j_k h a0 = 10 then (jbI (m_F_stale F a0 a1 h) fun r h => k (some (.int r)) h) else none
  | _ => none
set_option maxRecDepth 100000 in
theorem e_F_stale_17 (F : Nat × Nat) (f : Nat) (v0 : Nat) (v1 : Int32) (v2 : Int32) (v3 : Int32) (h : jH) : m_F_stale_17 F (f + 1) v0 v1 v2 v3 h = jst (j_C [(19, c_L_hasWalker F), (26, c_L_knows F), (34, c_L_kindOnSheet F)]) 0 (cd_F_stale 17) [some (.ref v0), some (.int v1), some (.int v2), some (.int v3)] [] h (jrun (j_C [(19, c_L_hasWalker F), (26, c_L_knows F), (34, c_L_kindOnSheet F)]) 0 cd_F_stale (j_T [(17, r_F_stale_17 (m_F_stale_17 F f))]) 46) := rfl
set_option maxRecDepth 100000 in
theorem e_F_stale (F : Nat × Nat) (o : Nat) (a1 : Int32) (h : jH) : m_F_stale F o a1 h = jrun (j_C [(19, c_L_hasWalker F), (26, c_L_knows F), (34, c_L_kindOnSheet F)]) 0 cd_F_stale (j_T [(17, r_F_stale_17 (m_F_stale_17 F F.1))]) 46 0 [some (.ref o), some (.int a1), none, none] [] h := rfl
theorem hc_F_stale (F : Nat × Nat) : jCok (2 + 0 * F.2) (j_C [(19, c_L_hasWalker F), (26, c_L_knows F), (34, c_L_kindOnSheet F)]) := jC_ok (List.forall_mem_cons.mpr ⟨(co_L_hasWalker F).up (by omega), List.forall_mem_cons.mpr ⟨(co_L_knows F).up (by omega), List.forall_mem_cons.mpr ⟨(co_L_kindOnSheet F).up (by omega), fun _ h => absurd h List.not_mem_nil⟩⟩⟩)
theorem g_F_stale_17 (F : Nat × Nat) : ∀ f, jG M_F_stale (2 + 0 * F.2) 17 (r_F_stale_17 (m_F_stale_17 F f))
  | 0 => jG.no (fun L S h => by unfold r_F_stale_17; split <;> rfl)
  | f + 1 => (jst_ok ok_F_stale (hc_F_stale F) (jrun_ok ok_F_stale (hc_F_stale F) (jT_ok (List.forall_mem_cons.mpr ⟨g_F_stale_17 F f, fun _ h => absurd h List.not_mem_nil⟩)) 46) 17).of (fun L S h out e => by unfold r_F_stale_17 at e; split at e; exact (e_F_stale_17 F f _ _ _ _ _).symm.trans e; cases e)
theorem k_F_stale (F : Nat × Nat) (o : Nat) (a1 : Int32) (h : jH) (r : Option Value) (h1 : jH) (e : m_F_stale F o a1 h = some (r, h1)) : jM1 (2 + 0 * F.2) 128 [.ref o, .int a1] h r h1 := jM_of (M := M_F_stale) mok_F_stale (by decide +kernel) (by decide +kernel) (Or.inl ⟨rfl, rfl⟩) (fun q => nomatch q) (jrun_ok ok_F_stale (hc_F_stale F) (jT_ok (List.forall_mem_cons.mpr ⟨g_F_stale_17 F F.1, fun _ h => absurd h List.not_mem_nil⟩)) 46 0) (List.all_eq_true.mp rfl) (Nat.le_of_ble_eq_true rfl) (fun E => Nat.le_of_ble_eq_true rfl) ((e_F_stale F o a1 h).symm.trans e)
theorem co_F_stale (F : Nat × Nat) : jc_ok (2 + 0 * F.2 + 1) 128 (c_F_stale F) := by
  intro as h k out e
  unfold c_F_stale at e
  split at e
  · obtain ⟨a0, rfl, e1⟩ := js_rv e
    obtain ⟨hg, e2⟩ := js_if e1
    obtain ⟨r, h1, hm, e3⟩ := js_jbI e2
    exact ⟨_, _, _, Nat.le_refl _, k_F_stale F _ _ _ _ _ hm, ⟨fun _ => ⟨_, _, rfl, Or.inl ⟨0, by decide, hg, by decide +kernel⟩⟩, fun q => absurd q (by decide +kernel)⟩, e3⟩
  · cases e
def c_L_wouldGain (F : Nat × Nat) : jc1 := fun args h k => match args with
  | [w0, .int a1, .int a2] => j_rv w0 fun a0 => if j_k h a0 = 12 then (jbI (m_L_wouldGain F a0 a1 a2 h) fun r h => k (some (.int r)) h) else none
  | _ => none
set_option maxRecDepth 100000 in
theorem e_L_wouldGain (F : Nat × Nat) (o : Nat) (a1 : Int32) (a2 : Int32) (h : jH) : m_L_wouldGain F o a1 a2 h = jrun (j_C []) 1 cd_L_wouldGain (j_T []) 26 0 [some (.ref o), some (.int a1), some (.int a2)] [] h := rfl
theorem hc_L_wouldGain (F : Nat × Nat) : jCok (0 + 0 * F.2) (j_C []) := jC_ok (fun _ h => absurd h List.not_mem_nil)
theorem k_L_wouldGain (F : Nat × Nat) (o : Nat) (a1 : Int32) (a2 : Int32) (h : jH) (r : Option Value) (h1 : jH) (e : m_L_wouldGain F o a1 a2 h = some (r, h1)) : jM1 (0 + 0 * F.2) 130 [.ref o, .int a1, .int a2] h r h1 := jM_of (M := M_L_wouldGain) mok_L_wouldGain (by decide +kernel) (by decide +kernel) (Or.inr (Or.inl ⟨rfl, rfl⟩)) (fun q => nomatch q) (jrun_ok ok_L_wouldGain (hc_L_wouldGain F) (jT_ok (fun _ h => absurd h List.not_mem_nil)) 26 0) (List.all_eq_true.mp rfl) (Nat.le_of_ble_eq_true rfl) (fun E => Nat.le_of_ble_eq_true rfl) ((e_L_wouldGain F o a1 a2 h).symm.trans e)
theorem co_L_wouldGain (F : Nat × Nat) : jc_ok (0 + 0 * F.2 + 1) 130 (c_L_wouldGain F) := by
  intro as h k out e
  unfold c_L_wouldGain at e
  split at e
  · obtain ⟨a0, rfl, e1⟩ := js_rv e
    obtain ⟨hg, e2⟩ := js_if e1
    obtain ⟨r, h1, hm, e3⟩ := js_jbI e2
    exact ⟨_, _, _, Nat.le_refl _, k_L_wouldGain F _ _ _ _ _ _ hm, ⟨fun _ => ⟨_, _, rfl, Or.inl ⟨2, by decide, hg, by decide +kernel⟩⟩, fun q => absurd q (by decide +kernel)⟩, e3⟩
  · cases e
def r_F_both_20 (g : Nat → Int32 → Int32 → Int32 → Int32 → jH → Option jO) : jL → List Value → jH → Option jO := fun L S h => match L, S with
  | [some (.ref v0), some (.int v1), some (.int v2), some (.int v3), some (.int v4)], [] => g v0 v1 v2 v3 v4 h
  | _, _ => none
def r_F_both_4 (g : Nat → Int32 → Int32 → Int32 → jH → Option jO) : jL → List Value → jH → Option jO := fun L S h => match L, S with
  | [some (.ref v0), some (.int v1), some (.int v2), some (.int v3), _], [] => g v0 v1 v2 v3 h
  | _, _ => none
def c_F_both (F : Nat × Nat) : jc1 := fun args h k => match args with
  | [w0, .int a1] => j_rv w0 fun a0 => if j_k h a0 = 10 then (jbI (m_F_both F a0 a1 h) fun r h => k (some (.int r)) h) else none
  | _ => none
set_option maxRecDepth 100000 in
theorem e_F_both_20 (F : Nat × Nat) (k4 : Nat → Int32 → Int32 → Int32 → jH → Option jO) (f : Nat) (v0 : Nat) (v1 : Int32) (v2 : Int32) (v3 : Int32) (v4 : Int32) (h : jH) : m_F_both_20 F k4 (f + 1) v0 v1 v2 v3 v4 h = jst (j_C [(130, c_L_wouldGain F)]) 0 (cd_F_both 20) [some (.ref v0), some (.int v1), some (.int v2), some (.int v3), some (.int v4)] [] h (jrun (j_C [(130, c_L_wouldGain F)]) 0 cd_F_both (j_T [(4, r_F_both_4 k4), (20, r_F_both_20 (m_F_both_20 F k4 f))]) 56) := rfl
set_option maxRecDepth 100000 in
theorem e_F_both_4 (F : Nat × Nat) (f : Nat) (v0 : Nat) (v1 : Int32) (v2 : Int32) (v3 : Int32) (u1 : Option Value) (h : jH) : m_F_both_4 F (f + 1) v0 v1 v2 v3 h = jst (j_C [(130, c_L_wouldGain F)]) 0 (cd_F_both 4) [some (.ref v0), some (.int v1), some (.int v2), some (.int v3), u1] [] h (jrun (j_C [(130, c_L_wouldGain F)]) 0 cd_F_both (j_T [(20, r_F_both_20 (m_F_both_20 F (m_F_both_4 F f) F.1))]) 56) := rfl
set_option maxRecDepth 100000 in
theorem e_F_both (F : Nat × Nat) (o : Nat) (a1 : Int32) (h : jH) : m_F_both F o a1 h = jrun (j_C [(130, c_L_wouldGain F)]) 0 cd_F_both (j_T [(4, r_F_both_4 (m_F_both_4 F F.1))]) 56 0 [some (.ref o), some (.int a1), none, none, none] [] h := rfl
theorem hc_F_both (F : Nat × Nat) : jCok (1 + 0 * F.2) (j_C [(130, c_L_wouldGain F)]) := jC_ok (List.forall_mem_cons.mpr ⟨(co_L_wouldGain F).up (by omega), fun _ h => absurd h List.not_mem_nil⟩)
theorem g_F_both_20 (F : Nat × Nat) (k4 : Nat → Int32 → Int32 → Int32 → jH → Option jO) (hk4 : jG M_F_both (1 + 0 * F.2) 4 (r_F_both_4 k4)) : ∀ f, jG M_F_both (1 + 0 * F.2) 20 (r_F_both_20 (m_F_both_20 F k4 f))
  | 0 => jG.no (fun L S h => by unfold r_F_both_20; split <;> rfl)
  | f + 1 => (jst_ok ok_F_both (hc_F_both F) (jrun_ok ok_F_both (hc_F_both F) (jT_ok (List.forall_mem_cons.mpr ⟨hk4, List.forall_mem_cons.mpr ⟨g_F_both_20 F k4 hk4 f, fun _ h => absurd h List.not_mem_nil⟩⟩)) 56) 20).of (fun L S h out e => by unfold r_F_both_20 at e; split at e; exact (e_F_both_20 F k4 f _ _ _ _ _ _).symm.trans e; cases e)
theorem g_F_both_4 (F : Nat × Nat) : ∀ f, jG M_F_both (1 + 0 * F.2) 4 (r_F_both_4 (m_F_both_4 F f))
  | 0 => jG.no (fun L S h => by unfold r_F_both_4; split <;> rfl)
  | f + 1 => (jst_ok ok_F_both (hc_F_both F) (jrun_ok ok_F_both (hc_F_both F) (jT_ok (List.forall_mem_cons.mpr ⟨g_F_both_20 F _ (g_F_both_4 F f) F.1, fun _ h => absurd h List.not_mem_nil⟩)) 56) 4).of (fun L S h out e => by unfold r_F_both_4 at e; split at e; exact (e_F_both_4 F f _ _ _ _ _ _).symm.trans e; cases e)
theorem k_F_both (F : Nat × Nat) (o : Nat) (a1 : Int32) (h : jH) (r : Option Value) (h1 : jH) (e : m_F_both F o a1 h = some (r, h1)) : jM1 (1 + 0 * F.2) 129 [.ref o, .int a1] h r h1 := jM_of (M := M_F_both) mok_F_both (by decide +kernel) (by decide +kernel) (Or.inl ⟨rfl, rfl⟩) (fun q => nomatch q) (jrun_ok ok_F_both (hc_F_both F) (jT_ok (List.forall_mem_cons.mpr ⟨g_F_both_4 F F.1, fun _ h => absurd h List.not_mem_nil⟩)) 56 0) (List.all_eq_true.mp rfl) (Nat.le_of_ble_eq_true rfl) (fun E => Nat.le_of_ble_eq_true rfl) ((e_F_both F o a1 h).symm.trans e)
theorem co_F_both (F : Nat × Nat) : jc_ok (1 + 0 * F.2 + 1) 129 (c_F_both F) := by
  intro as h k out e
  unfold c_F_both at e
  split at e
  · obtain ⟨a0, rfl, e1⟩ := js_rv e
    obtain ⟨hg, e2⟩ := js_if e1
    obtain ⟨r, h1, hm, e3⟩ := js_jbI e2
    exact ⟨_, _, _, Nat.le_refl _, k_F_both F _ _ _ _ _ hm, ⟨fun _ => ⟨_, _, rfl, Or.inl ⟨0, by decide, hg, by decide +kernel⟩⟩, fun q => absurd q (by decide +kernel)⟩, e3⟩
  · cases e
def c_F_glimpse (F : Nat × Nat) : jc1 := fun args h k => match args with
  | [w0, .int a1, .int a2] => j_rv w0 fun a0 => if j_k h a0 = 10 then (jbI (m_F_glimpse F a0 a1 a2 h) fun r h => k (some (.int r)) h) else none
  | _ => none
set_option maxRecDepth 100000 in
theorem e_F_glimpse (F : Nat × Nat) (o : Nat) (a1 : Int32) (a2 : Int32) (h : jH) : m_F_glimpse F o a1 a2 h = jrun (j_C [(10, c_F_refuse F), (12, c_F_accept F)]) 0 cd_F_glimpse (j_T []) 54 0 [some (.ref o), some (.int a1), some (.int a2), none] [] h := rfl
theorem hc_F_glimpse (F : Nat × Nat) : jCok (1 + 0 * F.2) (j_C [(10, c_F_refuse F), (12, c_F_accept F)]) := jC_ok (List.forall_mem_cons.mpr ⟨(co_F_refuse F).up (by omega), List.forall_mem_cons.mpr ⟨(co_F_accept F).up (by omega), fun _ h => absurd h List.not_mem_nil⟩⟩)
theorem k_F_glimpse (F : Nat × Nat) (o : Nat) (a1 : Int32) (a2 : Int32) (h : jH) (r : Option Value) (h1 : jH) (e : m_F_glimpse F o a1 a2 h = some (r, h1)) : jM1 (1 + 0 * F.2) 131 [.ref o, .int a1, .int a2] h r h1 := jM_of (M := M_F_glimpse) mok_F_glimpse (by decide +kernel) (by decide +kernel) (Or.inl ⟨rfl, rfl⟩) (fun q => nomatch q) (jrun_ok ok_F_glimpse (hc_F_glimpse F) (jT_ok (fun _ h => absurd h List.not_mem_nil)) 54 0) (List.all_eq_true.mp rfl) (Nat.le_of_ble_eq_true rfl) (fun E => Nat.le_of_ble_eq_true rfl) ((e_F_glimpse F o a1 a2 h).symm.trans e)
theorem co_F_glimpse (F : Nat × Nat) : jc_ok (1 + 0 * F.2 + 1) 131 (c_F_glimpse F) := by
  intro as h k out e
  unfold c_F_glimpse at e
  split at e
  · obtain ⟨a0, rfl, e1⟩ := js_rv e
    obtain ⟨hg, e2⟩ := js_if e1
    obtain ⟨r, h1, hm, e3⟩ := js_jbI e2
    exact ⟨_, _, _, Nat.le_refl _, k_F_glimpse F _ _ _ _ _ _ hm, ⟨fun _ => ⟨_, _, rfl, Or.inl ⟨0, by decide, hg, by decide +kernel⟩⟩, fun q => absurd q (by decide +kernel)⟩, e3⟩
  · cases e
def c_F_forget (F : Nat × Nat) : jc1 := fun args h k => match args with
  | [w0] => j_rv w0 fun a0 => if j_k h a0 = 10 then (jbI (m_F_forget F a0 h) fun r h => k (some (.int r)) h) else none
  | _ => none
set_option maxRecDepth 100000 in
theorem e_F_forget (F : Nat × Nat) (o : Nat) (h : jH) : m_F_forget F o h = jrun (j_C []) 0 cd_F_forget (j_T []) 15 0 [some (.ref o), none] [] h := rfl
theorem hc_F_forget (F : Nat × Nat) : jCok (0 + 0 * F.2) (j_C []) := jC_ok (fun _ h => absurd h List.not_mem_nil)
theorem k_F_forget (F : Nat × Nat) (o : Nat) (h : jH) (r : Option Value) (h1 : jH) (e : m_F_forget F o h = some (r, h1)) : jM1 (0 + 0 * F.2) 132 [.ref o] h r h1 := jM_of (M := M_F_forget) mok_F_forget (by decide +kernel) (by decide +kernel) (Or.inl ⟨rfl, rfl⟩) (fun q => nomatch q) (jrun_ok ok_F_forget (hc_F_forget F) (jT_ok (fun _ h => absurd h List.not_mem_nil)) 15 0) (List.all_eq_true.mp rfl) (Nat.le_of_ble_eq_true rfl) (fun E => Nat.le_of_ble_eq_true rfl) ((e_F_forget F o h).symm.trans e)
theorem co_F_forget (F : Nat × Nat) : jc_ok (0 + 0 * F.2 + 1) 132 (c_F_forget F) := by
  intro as h k out e
  unfold c_F_forget at e
  split at e
  · obtain ⟨a0, rfl, e1⟩ := js_rv e
    obtain ⟨hg, e2⟩ := js_if e1
    obtain ⟨r, h1, hm, e3⟩ := js_jbI e2
    exact ⟨_, _, _, Nat.le_refl _, k_F_forget F _ _ _ _ hm, ⟨fun _ => ⟨_, _, rfl, Or.inl ⟨0, by decide, hg, by decide +kernel⟩⟩, fun q => absurd q (by decide +kernel)⟩, e3⟩
  · cases e
def c_L_kindByWay (F : Nat × Nat) : jc1 := fun args h k => match args with
  | [w0, .int a1, .int a2] => j_rv w0 fun a0 => if j_k h a0 = 12 then (jbI (m_L_kindByWay F a0 a1 a2 h) fun r h => k (some (.int r)) h) else none
  | _ => none
set_option maxRecDepth 100000 in
theorem e_L_kindByWay (F : Nat × Nat) (o : Nat) (a1 : Int32) (a2 : Int32) (h : jH) : m_L_kindByWay F o a1 a2 h = jrun (j_C [(37, c_F_neighbour F)]) 0 cd_L_kindByWay (j_T []) 19 0 [some (.ref o), some (.int a1), some (.int a2), none] [] h := rfl
theorem hc_L_kindByWay (F : Nat × Nat) : jCok (1 + 0 * F.2) (j_C [(37, c_F_neighbour F)]) := jC_ok (List.forall_mem_cons.mpr ⟨(co_F_neighbour F).up (by omega), fun _ h => absurd h List.not_mem_nil⟩)
theorem k_L_kindByWay (F : Nat × Nat) (o : Nat) (a1 : Int32) (a2 : Int32) (h : jH) (r : Option Value) (h1 : jH) (e : m_L_kindByWay F o a1 a2 h = some (r, h1)) : jM1 (1 + 0 * F.2) 135 [.ref o, .int a1, .int a2] h r h1 := jM_of (M := M_L_kindByWay) mok_L_kindByWay (by decide +kernel) (by decide +kernel) (Or.inl ⟨rfl, rfl⟩) (fun q => nomatch q) (jrun_ok ok_L_kindByWay (hc_L_kindByWay F) (jT_ok (fun _ h => absurd h List.not_mem_nil)) 19 0) (List.all_eq_true.mp rfl) (Nat.le_of_ble_eq_true rfl) (fun E => Nat.le_of_ble_eq_true rfl) ((e_L_kindByWay F o a1 a2 h).symm.trans e)
theorem co_L_kindByWay (F : Nat × Nat) : jc_ok (1 + 0 * F.2 + 1) 135 (c_L_kindByWay F) := by
  intro as h k out e
  unfold c_L_kindByWay at e
  split at e
  · obtain ⟨a0, rfl, e1⟩ := js_rv e
    obtain ⟨hg, e2⟩ := js_if e1
    obtain ⟨r, h1, hm, e3⟩ := js_jbI e2
    exact ⟨_, _, _, Nat.le_refl _, k_L_kindByWay F _ _ _ _ _ _ hm, ⟨fun _ => ⟨_, _, rfl, Or.inl ⟨2, by decide, hg, by decide +kernel⟩⟩, fun q => absurd q (by decide +kernel)⟩, e3⟩
  · cases e
def r_L_yardCells_13 (g : Nat → Int32 → Int32 → Int32 → jH → Option jO) : jL → List Value → jH → Option jO := fun L S h => match L, S with
  | [some (.ref v0), some (.int v1), some (.int v2), some (.int v3)], [] => g v0 v1 v2 v3 h
  | _, _ => none
def r_L_yardCells_5 (g : Nat → Int32 → Int32 → jH → Option jO) : jL → List Value → jH → Option jO := fun L S h => match L, S with
  | [some (.ref v0), some (.int v1), some (.int v2), _], [] => g v0 v1 v2 h
  | _, _ => none
def c_L_yardCells (F : Nat × Nat) : jc1 := fun args h k => match args with
  | [w0] => j_rv w0 fun a0 => if j_k h a0 = 12 then (jbI (m_L_yardCells F a0 h) fun r h => k (some (.int r)) h) else none
  | _ => none
set_option maxRecDepth 100000 in
theorem e_L_yardCells_13 (F : Nat × Nat) (k5 : Nat → Int32 → Int32 → jH → Option jO) (f : Nat) (v0 : Nat) (v1 : Int32) (v2 : Int32) (v3 : Int32) (h : jH) : m_L_yardCells_13 F k5 (f + 1) v0 v1 v2 v3 h = jst (j_C [(135, c_L_kindByWay F)]) 0 (cd_L_yardCells 13) [some (.ref v0), some (.int v1), some (.int v2), some (.int v3)] [] h (jrun (j_C [(135, c_L_kindByWay F)]) 0 cd_L_yardCells (j_T [(5, r_L_yardCells_5 k5), (13, r_L_yardCells_13 (m_L_yardCells_13 F k5 f))]) 44) := rfl
set_option maxRecDepth 100000 in
theorem e_L_yardCells_5 (F : Nat × Nat) (f : Nat) (v0 : Nat) (v1 : Int32) (v2 : Int32) (u1 : Option Value) (h : jH) : m_L_yardCells_5 F (f + 1) v0 v1 v2 h = jst (j_C [(135, c_L_kindByWay F)]) 0 (cd_L_yardCells 5) [some (.ref v0), some (.int v1), some (.int v2), u1] [] h (jrun (j_C [(135, c_L_kindByWay F)]) 0 cd_L_yardCells (j_T [(13, r_L_yardCells_13 (m_L_yardCells_13 F (m_L_yardCells_5 F f) F.1))]) 44) := rfl
set_option maxRecDepth 100000 in
theorem e_L_yardCells (F : Nat × Nat) (o : Nat) (h : jH) : m_L_yardCells F o h = jrun (j_C [(135, c_L_kindByWay F)]) 0 cd_L_yardCells (j_T [(5, r_L_yardCells_5 (m_L_yardCells_5 F F.1))]) 44 0 [some (.ref o), none, none, none] [] h := rfl
theorem hc_L_yardCells (F : Nat × Nat) : jCok (2 + 0 * F.2) (j_C [(135, c_L_kindByWay F)]) := jC_ok (List.forall_mem_cons.mpr ⟨(co_L_kindByWay F).up (by omega), fun _ h => absurd h List.not_mem_nil⟩)
theorem g_L_yardCells_13 (F : Nat × Nat) (k5 : Nat → Int32 → Int32 → jH → Option jO) (hk5 : jG M_L_yardCells (2 + 0 * F.2) 5 (r_L_yardCells_5 k5)) : ∀ f, jG M_L_yardCells (2 + 0 * F.2) 13 (r_L_yardCells_13 (m_L_yardCells_13 F k5 f))
  | 0 => jG.no (fun L S h => by unfold r_L_yardCells_13; split <;> rfl)
  | f + 1 => (jst_ok ok_L_yardCells (hc_L_yardCells F) (jrun_ok ok_L_yardCells (hc_L_yardCells F) (jT_ok (List.forall_mem_cons.mpr ⟨hk5, List.forall_mem_cons.mpr ⟨g_L_yardCells_13 F k5 hk5 f, fun _ h => absurd h List.not_mem_nil⟩⟩)) 44) 13).of (fun L S h out e => by unfold r_L_yardCells_13 at e; split at e; exact (e_L_yardCells_13 F k5 f _ _ _ _ _).symm.trans e; cases e)
theorem g_L_yardCells_5 (F : Nat × Nat) : ∀ f, jG M_L_yardCells (2 + 0 * F.2) 5 (r_L_yardCells_5 (m_L_yardCells_5 F f))
  | 0 => jG.no (fun L S h => by unfold r_L_yardCells_5; split <;> rfl)
  | f + 1 => (jst_ok ok_L_yardCells (hc_L_yardCells F) (jrun_ok ok_L_yardCells (hc_L_yardCells F) (jT_ok (List.forall_mem_cons.mpr ⟨g_L_yardCells_13 F _ (g_L_yardCells_5 F f) F.1, fun _ h => absurd h List.not_mem_nil⟩)) 44) 5).of (fun L S h out e => by unfold r_L_yardCells_5 at e; split at e; exact (e_L_yardCells_5 F f _ _ _ _ _).symm.trans e; cases e)
theorem k_L_yardCells (F : Nat × Nat) (o : Nat) (h : jH) (r : Option Value) (h1 : jH) (e : m_L_yardCells F o h = some (r, h1)) : jM1 (2 + 0 * F.2) 134 [.ref o] h r h1 := jM_of (M := M_L_yardCells) mok_L_yardCells (by decide +kernel) (by decide +kernel) (Or.inl ⟨rfl, rfl⟩) (fun q => nomatch q) (jrun_ok ok_L_yardCells (hc_L_yardCells F) (jT_ok (List.forall_mem_cons.mpr ⟨g_L_yardCells_5 F F.1, fun _ h => absurd h List.not_mem_nil⟩)) 44 0) (List.all_eq_true.mp rfl) (Nat.le_of_ble_eq_true rfl) (fun E => Nat.le_of_ble_eq_true rfl) ((e_L_yardCells F o h).symm.trans e)
theorem co_L_yardCells (F : Nat × Nat) : jc_ok (2 + 0 * F.2 + 1) 134 (c_L_yardCells F) := by
  intro as h k out e
  unfold c_L_yardCells at e
  split at e
  · obtain ⟨a0, rfl, e1⟩ := js_rv e
    obtain ⟨hg, e2⟩ := js_if e1
    obtain ⟨r, h1, hm, e3⟩ := js_jbI e2
    exact ⟨_, _, _, Nat.le_refl _, k_L_yardCells F _ _ _ _ hm, ⟨fun _ => ⟨_, _, rfl, Or.inl ⟨2, by decide, hg, by decide +kernel⟩⟩, fun q => absurd q (by decide +kernel)⟩, e3⟩
  · cases e
def c_F_yard (F : Nat × Nat) : jc1 := fun args h k => match args with
  | [w0] => j_rv w0 fun a0 => if j_k h a0 = 10 then (jbI (m_F_yard F a0 h) fun r h => k (some (.int r)) h) else none
  | _ => none
set_option maxRecDepth 100000 in
theorem e_F_yard (F : Nat × Nat) (o : Nat) (h : jH) : m_F_yard F o h = jrun (j_C [(134, c_L_yardCells F)]) 0 cd_F_yard (j_T []) 9 0 [some (.ref o)] [] h := rfl
theorem hc_F_yard (F : Nat × Nat) : jCok (3 + 0 * F.2) (j_C [(134, c_L_yardCells F)]) := jC_ok (List.forall_mem_cons.mpr ⟨(co_L_yardCells F).up (by omega), fun _ h => absurd h List.not_mem_nil⟩)
theorem k_F_yard (F : Nat × Nat) (o : Nat) (h : jH) (r : Option Value) (h1 : jH) (e : m_F_yard F o h = some (r, h1)) : jM1 (3 + 0 * F.2) 133 [.ref o] h r h1 := jM_of (M := M_F_yard) mok_F_yard (by decide +kernel) (by decide +kernel) (Or.inl ⟨rfl, rfl⟩) (fun q => nomatch q) (jrun_ok ok_F_yard (hc_F_yard F) (jT_ok (fun _ h => absurd h List.not_mem_nil)) 9 0) (List.all_eq_true.mp rfl) (Nat.le_of_ble_eq_true rfl) (fun E => Nat.le_of_ble_eq_true rfl) ((e_F_yard F o h).symm.trans e)
theorem co_F_yard (F : Nat × Nat) : jc_ok (3 + 0 * F.2 + 1) 133 (c_F_yard F) := by
  intro as h k out e
  unfold c_F_yard at e
  split at e
  · obtain ⟨a0, rfl, e1⟩ := js_rv e
    obtain ⟨hg, e2⟩ := js_if e1
    obtain ⟨r, h1, hm, e3⟩ := js_jbI e2
    exact ⟨_, _, _, Nat.le_refl _, k_F_yard F _ _ _ _ hm, ⟨fun _ => ⟨_, _, rfl, Or.inl ⟨0, by decide, hg, by decide +kernel⟩⟩, fun q => absurd q (by decide +kernel)⟩, e3⟩
  · cases e
def r_F_mostAlike_13 (g : Nat → Int32 → Int32 → Int32 → Int32 → jH → Option jO) : jL → List Value → jH → Option jO := fun L S h => match L, S with
  | [some (.ref v0), some (.int v1), some (.int v2), some (.int v3), some (.int v4), _], [] => g v0 v1 v2 v3 v4 h
  | _, _ => none
def c_F_mostAlike (F : Nat × Nat) : jc1 := fun args h k => match args with
  | [w0, .int a1, .int a2] => j_rv w0 fun a0 => if j_k h a0 = 10 then (jbI (m_F_mostAlike F a0 a1 a2 h) fun r h => k (some (.int r)) h) else none
  | _ => none
set_option maxRecDepth 100000 in
theorem e_F_mostAlike_13 (F : Nat × Nat) (f : Nat) (v0 : Nat) (v1 : Int32) (v2 : Int32) (v3 : Int32) (v4 : Int32) (u1 : Option Value) (h : jH) : m_F_mostAlike_13 F (f + 1) v0 v1 v2 v3 v4 h = jst (j_C [(29, c_Jm_max F), (110, c_Ja_fill F), (135, c_L_kindByWay F)]) 0 (cd_F_mostAlike 13) [some (.ref v0), some (.int v1), some (.int v2), some (.int v3), some (.int v4), u1] [] h (jrun (j_C [(29, c_Jm_max F), (110, c_Ja_fill F), (135, c_L_kindByWay F)]) 0 cd_F_mostAlike (j_T [(13, r_F_mostAlike_13 (m_F_mostAlike_13 F f))]) 48) := rfl
set_option maxRecDepth 100000 in
theorem e_F_mostAlike (F : Nat × Nat) (o : Nat) (a1 : Int32) (a2 : Int32) (h : jH) : m_F_mostAlike F o a1 a2 h = jrun (j_C [(29, c_Jm_max F), (110, c_Ja_fill F), (135, c_L_kindByWay F)]) 0 cd_F_mostAlike (j_T [(13, r_F_mostAlike_13 (m_F_mostAlike_13 F F.1))]) 48 0 [some (.ref o), some (.int a1), some (.int a2), none, none, none] [] h := rfl
theorem hc_F_mostAlike (F : Nat × Nat) : jCok (2 + 0 * F.2) (j_C [(29, c_Jm_max F), (110, c_Ja_fill F), (135, c_L_kindByWay F)]) := jC_ok (List.forall_mem_cons.mpr ⟨(co_Jm_max F).up (by omega), List.forall_mem_cons.mpr ⟨(co_Ja_fill F).up (by omega), List.forall_mem_cons.mpr ⟨(co_L_kindByWay F).up (by omega), fun _ h => absurd h List.not_mem_nil⟩⟩⟩)
theorem g_F_mostAlike_13 (F : Nat × Nat) : ∀ f, jG M_F_mostAlike (2 + 0 * F.2) 13 (r_F_mostAlike_13 (m_F_mostAlike_13 F f))
  | 0 => jG.no (fun L S h => by unfold r_F_mostAlike_13; split <;> rfl)
  | f + 1 => (jst_ok ok_F_mostAlike (hc_F_mostAlike F) (jrun_ok ok_F_mostAlike (hc_F_mostAlike F) (jT_ok (List.forall_mem_cons.mpr ⟨g_F_mostAlike_13 F f, fun _ h => absurd h List.not_mem_nil⟩)) 48) 13).of (fun L S h out e => by unfold r_F_mostAlike_13 at e; split at e; exact (e_F_mostAlike_13 F f _ _ _ _ _ _ _).symm.trans e; cases e)
theorem k_F_mostAlike (F : Nat × Nat) (o : Nat) (a1 : Int32) (a2 : Int32) (h : jH) (r : Option Value) (h1 : jH) (e : m_F_mostAlike F o a1 a2 h = some (r, h1)) : jM1 (2 + 0 * F.2) 137 [.ref o, .int a1, .int a2] h r h1 := jM_of (M := M_F_mostAlike) mok_F_mostAlike (by decide +kernel) (by decide +kernel) (Or.inl ⟨rfl, rfl⟩) (fun q => nomatch q) (jrun_ok ok_F_mostAlike (hc_F_mostAlike F) (jT_ok (List.forall_mem_cons.mpr ⟨g_F_mostAlike_13 F F.1, fun _ h => absurd h List.not_mem_nil⟩)) 48 0) (List.all_eq_true.mp rfl) (Nat.le_of_ble_eq_true rfl) (fun E => Nat.le_of_ble_eq_true rfl) ((e_F_mostAlike F o a1 a2 h).symm.trans e)
theorem co_F_mostAlike (F : Nat × Nat) : jc_ok (2 + 0 * F.2 + 1) 137 (c_F_mostAlike F) := by
  intro as h k out e
  unfold c_F_mostAlike at e
  split at e
  · obtain ⟨a0, rfl, e1⟩ := js_rv e
    obtain ⟨hg, e2⟩ := js_if e1
    obtain ⟨r, h1, hm, e3⟩ := js_jbI e2
    exact ⟨_, _, _, Nat.le_refl _, k_F_mostAlike F _ _ _ _ _ _ hm, ⟨fun _ => ⟨_, _, rfl, Or.inl ⟨0, by decide, hg, by decide +kernel⟩⟩, fun q => absurd q (by decide +kernel)⟩, e3⟩
  · cases e
def r_F_look_23 (g : Nat → Int32 → Int32 → Int32 → Int32 → Int32 → jH → Option jO) : jL → List Value → jH → Option jO := fun L S h => match L, S with
  | [some (.ref v0), some (.int v1), some (.int v2), some (.int v3), some (.int v4), some (.int v5), _], [] => g v0 v1 v2 v3 v4 v5 h
  | _, _ => none
def c_F_look (F : Nat × Nat) : jc1 := fun args h k => match args with
  | [w0, .int a1] => j_rv w0 fun a0 => if j_k h a0 = 10 then (jbI (m_F_look F a0 a1 h) fun r h => k (some (.int r)) h) else none
  | _ => none
set_option maxRecDepth 100000 in
theorem e_F_look_23 (F : Nat × Nat) (f : Nat) (v0 : Nat) (v1 : Int32) (v2 : Int32) (v3 : Int32) (v4 : Int32) (v5 : Int32) (u1 : Option Value) (h : jH) : m_F_look_23 F (f + 1) v0 v1 v2 v3 v4 v5 h = jst (j_C [(134, c_L_yardCells F), (137, c_F_mostAlike F)]) 0 (cd_F_look 23) [some (.ref v0), some (.int v1), some (.int v2), some (.int v3), some (.int v4), some (.int v5), u1] [] h (jrun (j_C [(134, c_L_yardCells F), (137, c_F_mostAlike F)]) 0 cd_F_look (j_T [(23, r_F_look_23 (m_F_look_23 F f))]) 47) := rfl
set_option maxRecDepth 100000 in
theorem e_F_look (F : Nat × Nat) (o : Nat) (a1 : Int32) (h : jH) : m_F_look F o a1 h = jrun (j_C [(134, c_L_yardCells F), (137, c_F_mostAlike F)]) 0 cd_F_look (j_T [(23, r_F_look_23 (m_F_look_23 F F.1))]) 47 0 [some (.ref o), some (.int a1), none, none, none, none, none] [] h := rfl
theorem hc_F_look (F : Nat × Nat) : jCok (3 + 0 * F.2) (j_C [(134, c_L_yardCells F), (137, c_F_mostAlike F)]) := jC_ok (List.forall_mem_cons.mpr ⟨(co_L_yardCells F).up (by omega), List.forall_mem_cons.mpr ⟨(co_F_mostAlike F).up (by omega), fun _ h => absurd h List.not_mem_nil⟩⟩)
theorem g_F_look_23 (F : Nat × Nat) : ∀ f, jG M_F_look (3 + 0 * F.2) 23 (r_F_look_23 (m_F_look_23 F f))
  | 0 => jG.no (fun L S h => by unfold r_F_look_23; split <;> rfl)
  | f + 1 => (jst_ok ok_F_look (hc_F_look F) (jrun_ok ok_F_look (hc_F_look F) (jT_ok (List.forall_mem_cons.mpr ⟨g_F_look_23 F f, fun _ h => absurd h List.not_mem_nil⟩)) 47) 23).of (fun L S h out e => by unfold r_F_look_23 at e; split at e; exact (e_F_look_23 F f _ _ _ _ _ _ _ _).symm.trans e; cases e)
theorem k_F_look (F : Nat × Nat) (o : Nat) (a1 : Int32) (h : jH) (r : Option Value) (h1 : jH) (e : m_F_look F o a1 h = some (r, h1)) : jM1 (3 + 0 * F.2) 136 [.ref o, .int a1] h r h1 := jM_of (M := M_F_look) mok_F_look (by decide +kernel) (by decide +kernel) (Or.inl ⟨rfl, rfl⟩) (fun q => nomatch q) (jrun_ok ok_F_look (hc_F_look F) (jT_ok (List.forall_mem_cons.mpr ⟨g_F_look_23 F F.1, fun _ h => absurd h List.not_mem_nil⟩)) 47 0) (List.all_eq_true.mp rfl) (Nat.le_of_ble_eq_true rfl) (fun E => Nat.le_of_ble_eq_true rfl) ((e_F_look F o a1 h).symm.trans e)
theorem co_F_look (F : Nat × Nat) : jc_ok (3 + 0 * F.2 + 1) 136 (c_F_look F) := by
  intro as h k out e
  unfold c_F_look at e
  split at e
  · obtain ⟨a0, rfl, e1⟩ := js_rv e
    obtain ⟨hg, e2⟩ := js_if e1
    obtain ⟨r, h1, hm, e3⟩ := js_jbI e2
    exact ⟨_, _, _, Nat.le_refl _, k_F_look F _ _ _ _ _ hm, ⟨fun _ => ⟨_, _, rfl, Or.inl ⟨0, by decide, hg, by decide +kernel⟩⟩, fun q => absurd q (by decide +kernel)⟩, e3⟩
  · cases e
def r_W_countedCells_4 (g : Nat → Int32 → Int32 → jH → Option jO) : jL → List Value → jH → Option jO := fun L S h => match L, S with
  | [some (.ref v0), some (.int v1), some (.int v2)], [] => g v0 v1 v2 h
  | _, _ => none
def c_W_countedCells (F : Nat × Nat) : jc1 := fun args h k => match args with
  | [w0] => j_rv w0 fun a0 => if j_k h a0 = 16 then (jbI (m_W_countedCells F a0 h) fun r h => k (some (.int r)) h) else none
  | _ => none
set_option maxRecDepth 100000 in
theorem e_W_countedCells_4 (F : Nat × Nat) (f : Nat) (v0 : Nat) (v1 : Int32) (v2 : Int32) (h : jH) : m_W_countedCells_4 F (f + 1) v0 v1 v2 h = jst (j_C []) 0 (cd_W_countedCells 4) [some (.ref v0), some (.int v1), some (.int v2)] [] h (jrun (j_C []) 0 cd_W_countedCells (j_T [(4, r_W_countedCells_4 (m_W_countedCells_4 F f))]) 28) := rfl
set_option maxRecDepth 100000 in
theorem e_W_countedCells (F : Nat × Nat) (o : Nat) (h : jH) : m_W_countedCells F o h = jrun (j_C []) 0 cd_W_countedCells (j_T [(4, r_W_countedCells_4 (m_W_countedCells_4 F F.1))]) 28 0 [some (.ref o), none, none] [] h := rfl
theorem hc_W_countedCells (F : Nat × Nat) : jCok (0 + 0 * F.2) (j_C []) := jC_ok (fun _ h => absurd h List.not_mem_nil)
theorem g_W_countedCells_4 (F : Nat × Nat) : ∀ f, jG M_W_countedCells (0 + 0 * F.2) 4 (r_W_countedCells_4 (m_W_countedCells_4 F f))
  | 0 => jG.no (fun L S h => by unfold r_W_countedCells_4; split <;> rfl)
  | f + 1 => (jst_ok ok_W_countedCells (hc_W_countedCells F) (jrun_ok ok_W_countedCells (hc_W_countedCells F) (jT_ok (List.forall_mem_cons.mpr ⟨g_W_countedCells_4 F f, fun _ h => absurd h List.not_mem_nil⟩)) 28) 4).of (fun L S h out e => by unfold r_W_countedCells_4 at e; split at e; exact (e_W_countedCells_4 F f _ _ _ _).symm.trans e; cases e)
theorem k_W_countedCells (F : Nat × Nat) (o : Nat) (h : jH) (r : Option Value) (h1 : jH) (e : m_W_countedCells F o h = some (r, h1)) : jM1 (0 + 0 * F.2) 139 [.ref o] h r h1 := jM_of (M := M_W_countedCells) mok_W_countedCells (by decide +kernel) (by decide +kernel) (Or.inl ⟨rfl, rfl⟩) (fun q => nomatch q) (jrun_ok ok_W_countedCells (hc_W_countedCells F) (jT_ok (List.forall_mem_cons.mpr ⟨g_W_countedCells_4 F F.1, fun _ h => absurd h List.not_mem_nil⟩)) 28 0) (List.all_eq_true.mp rfl) (Nat.le_of_ble_eq_true rfl) (fun E => Nat.le_of_ble_eq_true rfl) ((e_W_countedCells F o h).symm.trans e)
theorem co_W_countedCells (F : Nat × Nat) : jc_ok (0 + 0 * F.2 + 1) 139 (c_W_countedCells F) := by
  intro as h k out e
  unfold c_W_countedCells at e
  split at e
  · obtain ⟨a0, rfl, e1⟩ := js_rv e
    obtain ⟨hg, e2⟩ := js_if e1
    obtain ⟨r, h1, hm, e3⟩ := js_jbI e2
    exact ⟨_, _, _, Nat.le_refl _, k_W_countedCells F _ _ _ _ hm, ⟨fun _ => ⟨_, _, rfl, Or.inl ⟨6, by decide, hg, by decide +kernel⟩⟩, fun q => absurd q (by decide +kernel)⟩, e3⟩
  · cases e
def c_F_reach (F : Nat × Nat) : jc1 := fun args h k => match args with
  | [w0, .int a1] => j_rv w0 fun a0 => if j_k h a0 = 10 then (jbI (m_F_reach F a0 a1 h) fun r h => k (some (.int r)) h) else none
  | _ => none
set_option maxRecDepth 100000 in
theorem e_F_reach (F : Nat × Nat) (o : Nat) (a1 : Int32) (h : jH) : m_F_reach F o a1 h = jrun (j_C [(19, c_L_hasWalker F), (21, c_L_lawInForce F), (107, c_W_priceSteps F), (124, c_W_countFrom F), (139, c_W_countedCells F)]) 0 cd_F_reach (j_T []) 36 0 [some (.ref o), some (.int a1)] [] h := rfl
theorem hc_F_reach (F : Nat × Nat) : jCok (5 + 0 * F.2) (j_C [(19, c_L_hasWalker F), (21, c_L_lawInForce F), (107, c_W_priceSteps F), (124, c_W_countFrom F), (139, c_W_countedCells F)]) := jC_ok (List.forall_mem_cons.mpr ⟨(co_L_hasWalker F).up (by omega), List.forall_mem_cons.mpr ⟨(co_L_lawInForce F).up (by omega), List.forall_mem_cons.mpr ⟨(co_W_priceSteps F).up (by omega), List.forall_mem_cons.mpr ⟨(co_W_countFrom F).up (by omega), List.forall_mem_cons.mpr ⟨(co_W_countedCells F).up (by omega), fun _ h => absurd h List.not_mem_nil⟩⟩⟩⟩⟩)
theorem k_F_reach (F : Nat × Nat) (o : Nat) (a1 : Int32) (h : jH) (r : Option Value) (h1 : jH) (e : m_F_reach F o a1 h = some (r, h1)) : jM1 (5 + 0 * F.2) 138 [.ref o, .int a1] h r h1 := jM_of (M := M_F_reach) mok_F_reach (by decide +kernel) (by decide +kernel) (Or.inl ⟨rfl, rfl⟩) (fun q => nomatch q) (jrun_ok ok_F_reach (hc_F_reach F) (jT_ok (fun _ h => absurd h List.not_mem_nil)) 36 0) (List.all_eq_true.mp rfl) (Nat.le_of_ble_eq_true rfl) (fun E => Nat.le_of_ble_eq_true rfl) ((e_F_reach F o a1 h).symm.trans e)
theorem co_F_reach (F : Nat × Nat) : jc_ok (5 + 0 * F.2 + 1) 138 (c_F_reach F) := by
  intro as h k out e
  unfold c_F_reach at e
  split at e
  · obtain ⟨a0, rfl, e1⟩ := js_rv e
    obtain ⟨hg, e2⟩ := js_if e1
    obtain ⟨r, h1, hm, e3⟩ := js_jbI e2
    exact ⟨_, _, _, Nat.le_refl _, k_F_reach F _ _ _ _ _ hm, ⟨fun _ => ⟨_, _, rfl, Or.inl ⟨0, by decide, hg, by decide +kernel⟩⟩, fun q => absurd q (by decide +kernel)⟩, e3⟩
  · cases e
def r_L_mappedBy_4 (g : Nat → Int32 → Int32 → Int32 → jH → Option jO) : jL → List Value → jH → Option jO := fun L S h => match L, S with
  | [some (.ref v0), some (.int v1), some (.int v2), some (.int v3)], [] => g v0 v1 v2 v3 h
  | _, _ => none
def c_L_mappedBy (F : Nat × Nat) : jc1 := fun args h k => match args with
  | [w0, .int a1] => j_rv w0 fun a0 => if j_k h a0 = 12 then (jbI (m_L_mappedBy F a0 a1 h) fun r h => k (some (.int r)) h) else none
  | _ => none
set_option maxRecDepth 100000 in
theorem e_L_mappedBy_4 (F : Nat × Nat) (f : Nat) (v0 : Nat) (v1 : Int32) (v2 : Int32) (v3 : Int32) (h : jH) : m_L_mappedBy_4 F (f + 1) v0 v1 v2 v3 h = jst (j_C []) 0 (cd_L_mappedBy 4) [some (.ref v0), some (.int v1), some (.int v2), some (.int v3)] [] h (jrun (j_C []) 0 cd_L_mappedBy (j_T [(4, r_L_mappedBy_4 (m_L_mappedBy_4 F f))]) 31) := rfl
set_option maxRecDepth 100000 in
theorem e_L_mappedBy (F : Nat × Nat) (o : Nat) (a1 : Int32) (h : jH) : m_L_mappedBy F o a1 h = jrun (j_C []) 0 cd_L_mappedBy (j_T [(4, r_L_mappedBy_4 (m_L_mappedBy_4 F F.1))]) 31 0 [some (.ref o), some (.int a1), none, none] [] h := rfl
theorem hc_L_mappedBy (F : Nat × Nat) : jCok (0 + 0 * F.2) (j_C []) := jC_ok (fun _ h => absurd h List.not_mem_nil)
theorem g_L_mappedBy_4 (F : Nat × Nat) : ∀ f, jG M_L_mappedBy (0 + 0 * F.2) 4 (r_L_mappedBy_4 (m_L_mappedBy_4 F f))
  | 0 => jG.no (fun L S h => by unfold r_L_mappedBy_4; split <;> rfl)
  | f + 1 => (jst_ok ok_L_mappedBy (hc_L_mappedBy F) (jrun_ok ok_L_mappedBy (hc_L_mappedBy F) (jT_ok (List.forall_mem_cons.mpr ⟨g_L_mappedBy_4 F f, fun _ h => absurd h List.not_mem_nil⟩)) 31) 4).of (fun L S h out e => by unfold r_L_mappedBy_4 at e; split at e; exact (e_L_mappedBy_4 F f _ _ _ _ _).symm.trans e; cases e)
theorem k_L_mappedBy (F : Nat × Nat) (o : Nat) (a1 : Int32) (h : jH) (r : Option Value) (h1 : jH) (e : m_L_mappedBy F o a1 h = some (r, h1)) : jM1 (0 + 0 * F.2) 141 [.ref o, .int a1] h r h1 := jM_of (M := M_L_mappedBy) mok_L_mappedBy (by decide +kernel) (by decide +kernel) (Or.inl ⟨rfl, rfl⟩) (fun q => nomatch q) (jrun_ok ok_L_mappedBy (hc_L_mappedBy F) (jT_ok (List.forall_mem_cons.mpr ⟨g_L_mappedBy_4 F F.1, fun _ h => absurd h List.not_mem_nil⟩)) 31 0) (List.all_eq_true.mp rfl) (Nat.le_of_ble_eq_true rfl) (fun E => Nat.le_of_ble_eq_true rfl) ((e_L_mappedBy F o a1 h).symm.trans e)
theorem co_L_mappedBy (F : Nat × Nat) : jc_ok (0 + 0 * F.2 + 1) 141 (c_L_mappedBy F) := by
  intro as h k out e
  unfold c_L_mappedBy at e
  split at e
  · obtain ⟨a0, rfl, e1⟩ := js_rv e
    obtain ⟨hg, e2⟩ := js_if e1
    obtain ⟨r, h1, hm, e3⟩ := js_jbI e2
    exact ⟨_, _, _, Nat.le_refl _, k_L_mappedBy F _ _ _ _ _ hm, ⟨fun _ => ⟨_, _, rfl, Or.inl ⟨2, by decide, hg, by decide +kernel⟩⟩, fun q => absurd q (by decide +kernel)⟩, e3⟩
  · cases e
def r_F_cover_38 (g : Nat → Int32 → Int32 → Int32 → Int32 → Int32 → jH → Option jO) : jL → List Value → jH → Option jO := fun L S h => match L, S with
  | [some (.ref v0), some (.int v1), some (.int v2), some (.int v3), some (.int v4), some (.int v5)], [] => g v0 v1 v2 v3 v4 v5 h
  | _, _ => none
def c_F_cover (F : Nat × Nat) : jc1 := fun args h k => match args with
  | [w0, .int a1] => j_rv w0 fun a0 => if j_k h a0 = 10 then (jbI (m_F_cover F a0 a1 h) fun r h => k (some (.int r)) h) else none
  | _ => none
set_option maxRecDepth 100000 in
theorem e_F_cover_38 (F : Nat × Nat) (f : Nat) (v0 : Nat) (v1 : Int32) (v2 : Int32) (v3 : Int32) (v4 : Int32) (v5 : Int32) (h : jH) : m_F_cover_38 F (f + 1) v0 v1 v2 v3 v4 v5 h = jst (j_C [(20, c_Ji_bitCount F), (141, c_L_mappedBy F)]) 0 (cd_F_cover 38) [some (.ref v0), some (.int v1), some (.int v2), some (.int v3), some (.int v4), some (.int v5)] [] h (jrun (j_C [(20, c_Ji_bitCount F), (141, c_L_mappedBy F)]) 0 cd_F_cover (j_T [(38, r_F_cover_38 (m_F_cover_38 F f))]) 54) := rfl
set_option maxRecDepth 100000 in
theorem e_F_cover (F : Nat × Nat) (o : Nat) (a1 : Int32) (h : jH) : m_F_cover F o a1 h = jrun (j_C [(20, c_Ji_bitCount F), (141, c_L_mappedBy F)]) 0 cd_F_cover (j_T [(38, r_F_cover_38 (m_F_cover_38 F F.1))]) 54 0 [some (.ref o), some (.int a1), none, none, none, none] [] h := rfl
theorem hc_F_cover (F : Nat × Nat) : jCok (1 + 0 * F.2) (j_C [(20, c_Ji_bitCount F), (141, c_L_mappedBy F)]) := jC_ok (List.forall_mem_cons.mpr ⟨(co_Ji_bitCount F).up (by omega), List.forall_mem_cons.mpr ⟨(co_L_mappedBy F).up (by omega), fun _ h => absurd h List.not_mem_nil⟩⟩)
theorem g_F_cover_38 (F : Nat × Nat) : ∀ f, jG M_F_cover (1 + 0 * F.2) 38 (r_F_cover_38 (m_F_cover_38 F f))
  | 0 => jG.no (fun L S h => by unfold r_F_cover_38; split <;> rfl)
  | f + 1 => (jst_ok ok_F_cover (hc_F_cover F) (jrun_ok ok_F_cover (hc_F_cover F) (jT_ok (List.forall_mem_cons.mpr ⟨g_F_cover_38 F f, fun _ h => absurd h List.not_mem_nil⟩)) 54) 38).of (fun L S h out e => by unfold r_F_cover_38 at e; split at e; exact (e_F_cover_38 F f _ _ _ _ _ _ _).symm.trans e; cases e)
theorem k_F_cover (F : Nat × Nat) (o : Nat) (a1 : Int32) (h : jH) (r : Option Value) (h1 : jH) (e : m_F_cover F o a1 h = some (r, h1)) : jM1 (1 + 0 * F.2) 140 [.ref o, .int a1] h r h1 := jM_of (M := M_F_cover) mok_F_cover (by decide +kernel) (by decide +kernel) (Or.inl ⟨rfl, rfl⟩) (fun q => nomatch q) (jrun_ok ok_F_cover (hc_F_cover F) (jT_ok (List.forall_mem_cons.mpr ⟨g_F_cover_38 F F.1, fun _ h => absurd h List.not_mem_nil⟩)) 54 0) (List.all_eq_true.mp rfl) (Nat.le_of_ble_eq_true rfl) (fun E => Nat.le_of_ble_eq_true rfl) ((e_F_cover F o a1 h).symm.trans e)
theorem co_F_cover (F : Nat × Nat) : jc_ok (1 + 0 * F.2 + 1) 140 (c_F_cover F) := by
  intro as h k out e
  unfold c_F_cover at e
  split at e
  · obtain ⟨a0, rfl, e1⟩ := js_rv e
    obtain ⟨hg, e2⟩ := js_if e1
    obtain ⟨r, h1, hm, e3⟩ := js_jbI e2
    exact ⟨_, _, _, Nat.le_refl _, k_F_cover F _ _ _ _ _ hm, ⟨fun _ => ⟨_, _, rfl, Or.inl ⟨0, by decide, hg, by decide +kernel⟩⟩, fun q => absurd q (by decide +kernel)⟩, e3⟩
  · cases e
def r_Ja_fill_AJJ_6 (g : Nat → Int64 → Int32 → Int32 → jH → Option jO) : jL → List Value → jH → Option jO := fun L S h => match L, S with
  | [some (.ref v0), some (.long v1), some (.float _), some (.int v3), some (.int v4)], [] => g v0 v1 v3 v4 h
  | _, _ => none
def c_Ja_fill_AJJ (F : Nat × Nat) : jc1 := fun args h k => match args with
  | [w0, .long a1] => j_rv w0 fun a0 => jbV (m_Ja_fill_AJJ F a0 a1 h) fun h => k none h
  | _ => none
set_option maxRecDepth 100000 in
theorem e_Ja_fill_AJJ_6 (F : Nat × Nat) (f : Nat) (v0 : Nat) (v1 : Int64) (v3 : Int32) (v4 : Int32) (w1 : UInt32) (h : jH) : m_Ja_fill_AJJ_6 F (f + 1) v0 v1 v3 v4 h = jst (j_C []) 4 (cd_Ja_fill_AJJ 6) [some (.ref v0), some (.long v1), some (.float w1), some (.int v3), some (.int v4)] [] h (jrun (j_C []) 4 cd_Ja_fill_AJJ (j_T [(6, r_Ja_fill_AJJ_6 (m_Ja_fill_AJJ_6 F f))]) 20) := rfl
set_option maxRecDepth 100000 in
theorem e_Ja_fill_AJJ (F : Nat × Nat) (a0 : Nat) (a1 : Int64) (h : jH) : m_Ja_fill_AJJ F a0 a1 h = jrun (j_C []) 4 cd_Ja_fill_AJJ (j_T [(6, r_Ja_fill_AJJ_6 (m_Ja_fill_AJJ_6 F F.1))]) 20 0 [some (.ref a0), some (.long a1), some (.float 0), none, none] [] h := rfl
theorem hc_Ja_fill_AJJ (F : Nat × Nat) : jCok (0 + 0 * F.2) (j_C []) := jC_ok (fun _ h => absurd h List.not_mem_nil)
theorem g_Ja_fill_AJJ_6 (F : Nat × Nat) : ∀ f, jG M_Ja_fill_AJJ (0 + 0 * F.2) 6 (r_Ja_fill_AJJ_6 (m_Ja_fill_AJJ_6 F f))
  | 0 => jG.no (fun L S h => by unfold r_Ja_fill_AJJ_6; split <;> rfl)
  | f + 1 => (jst_ok ok_Ja_fill_AJJ (hc_Ja_fill_AJJ F) (jrun_ok ok_Ja_fill_AJJ (hc_Ja_fill_AJJ F) (jT_ok (List.forall_mem_cons.mpr ⟨g_Ja_fill_AJJ_6 F f, fun _ h => absurd h List.not_mem_nil⟩)) 20) 6).of (fun L S h out e => by unfold r_Ja_fill_AJJ_6 at e; split at e; exact (e_Ja_fill_AJJ_6 F f _ _ _ _ _ _).symm.trans e; cases e)
theorem k_Ja_fill_AJJ (F : Nat × Nat) (a0 : Nat) (a1 : Int64) (h : jH) (r : Option Value) (h1 : jH) (e : m_Ja_fill_AJJ F a0 a1 h = some (r, h1)) : jM1 (0 + 0 * F.2) 143 [.ref a0, .long a1] h r h1 := jM_of (M := M_Ja_fill_AJJ) mok_Ja_fill_AJJ (by decide +kernel) (by decide +kernel) (Or.inr (Or.inr (Or.inr (Or.inr ⟨rfl, rfl⟩)))) (fun q => nomatch q) (jrun_ok ok_Ja_fill_AJJ (hc_Ja_fill_AJJ F) (jT_ok (List.forall_mem_cons.mpr ⟨g_Ja_fill_AJJ_6 F F.1, fun _ h => absurd h List.not_mem_nil⟩)) 20 0) (List.all_eq_true.mp rfl) (Nat.le_of_ble_eq_true rfl) (fun E => Nat.le_of_ble_eq_true rfl) ((e_Ja_fill_AJJ F a0 a1 h).symm.trans e)
theorem co_Ja_fill_AJJ (F : Nat × Nat) : jc_ok (0 + 0 * F.2 + 1) 143 (c_Ja_fill_AJJ F) := by
  intro as h k out e
  unfold c_Ja_fill_AJJ at e
  split at e
  · obtain ⟨a0, rfl, e1⟩ := js_rv e
    obtain ⟨h1, hm, e2⟩ := js_jbV e1
    exact ⟨_, _, _, Nat.le_refl _, k_Ja_fill_AJJ F _ _ _ _ _ hm, ⟨fun q => absurd q (by decide +kernel), fun q => absurd q (by decide +kernel)⟩, e2⟩
  · cases e
