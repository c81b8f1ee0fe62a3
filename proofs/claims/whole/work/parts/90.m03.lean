def r_P_reads_78 (g : Nat → Int32 → Int32 → jH → Option jO) : jL → List Value → jH → Option jO := fun L S h => match L, S with
  | [some (.ref v0), some (.int v1), some (.int v2)], [] => g v0 v1 v2 h
  | _, _ => none
def r_P_reads_47 (g : Nat → Int32 → Int32 → jH → Option jO) : jL → List Value → jH → Option jO := fun L S h => match L, S with
  | [some (.ref v0), some (.int v1), some (.int v2)], [] => g v0 v1 v2 h
  | _, _ => none
def c_P_reads (F : Nat × Nat) : jc1 := fun args h k => match args with
  | [w0, .int a1] => j_rv w0 fun a0 => if j_k h a0 = 13 then (jbI (m_P_reads F a0 a1 h) fun r h => k (some (.int r)) h) else none
  | _ => none
set_option maxRecDepth 100000 in
theorem e_P_reads_78 (F : Nat × Nat) (k47 : Nat → Int32 → Int32 → jH → Option jO) (v0 : Nat) (v1 : Int32) (v2 : Int32) (h : jH) : m_P_reads_78 F k47 v0 v1 v2 h = jst (j_C [(49, c_P_findTokens F), (58, c_P_goTo F), (59, c_P_readsOrder F), (60, c_P_fails F), (76, c_P_readsLaw F)]) 1 (cd_P_reads 78) [some (.ref v0), some (.int v1), some (.int v2)] [] h (jrun (j_C [(49, c_P_findTokens F), (58, c_P_goTo F), (59, c_P_readsOrder F), (60, c_P_fails F), (76, c_P_readsLaw F)]) 1 cd_P_reads (j_T [(47, r_P_reads_47 k47)]) 78) := rfl
set_option maxRecDepth 100000 in
theorem e_P_reads_47 (F : Nat × Nat) (f : Nat) (v0 : Nat) (v1 : Int32) (v2 : Int32) (h : jH) : m_P_reads_47 F (f + 1) v0 v1 v2 h = jst (j_C [(49, c_P_findTokens F), (58, c_P_goTo F), (59, c_P_readsOrder F), (60, c_P_fails F), (76, c_P_readsLaw F)]) 1 (cd_P_reads 47) [some (.ref v0), some (.int v1), some (.int v2)] [] h (jrun (j_C [(49, c_P_findTokens F), (58, c_P_goTo F), (59, c_P_readsOrder F), (60, c_P_fails F), (76, c_P_readsLaw F)]) 1 cd_P_reads (j_T [(78, r_P_reads_78 (m_P_reads_78 F (m_P_reads_47 F f)))]) 78) := rfl
set_option maxRecDepth 100000 in
theorem e_P_reads (F : Nat × Nat) (o : Nat) (a1 : Int32) (h : jH) : m_P_reads F o a1 h = jrun (j_C [(49, c_P_findTokens F), (58, c_P_goTo F), (59, c_P_readsOrder F), (60, c_P_fails F), (76, c_P_readsLaw F)]) 1 cd_P_reads (j_T [(47, r_P_reads_47 (m_P_reads_47 F F.1))]) 78 0 [some (.ref o), some (.int a1), none] [] h := rfl
theorem hc_P_reads (F : Nat × Nat) : jCok (10 + 2 * F.2) (j_C [(49, c_P_findTokens F), (58, c_P_goTo F), (59, c_P_readsOrder F), (60, c_P_fails F), (76, c_P_readsLaw F)]) := jC_ok (List.forall_mem_cons.mpr ⟨(co_P_findTokens F).up (by omega), List.forall_mem_cons.mpr ⟨(co_P_goTo F).up (by omega), List.forall_mem_cons.mpr ⟨(co_P_readsOrder F).up (by omega), List.forall_mem_cons.mpr ⟨(co_P_fails F).up (by omega), List.forall_mem_cons.mpr ⟨(co_P_readsLaw F).up (by omega), fun _ h => absurd h List.not_mem_nil⟩⟩⟩⟩⟩)
theorem g_P_reads_78 (F : Nat × Nat) (k47 : Nat → Int32 → Int32 → jH → Option jO) (hk47 : jG M_P_reads (10 + 2 * F.2) 47 (r_P_reads_47 k47)) : jG M_P_reads (10 + 2 * F.2) 78 (r_P_reads_78 (m_P_reads_78 F k47)) := (jst_ok ok_P_reads (hc_P_reads F) (jrun_ok ok_P_reads (hc_P_reads F) (jT_ok (List.forall_mem_cons.mpr ⟨hk47, fun _ h => absurd h List.not_mem_nil⟩)) 78) 78).of (fun L S h out e => by unfold r_P_reads_78 at e; split at e; exact (e_P_reads_78 F k47 _ _ _ _).symm.trans e; cases e)
theorem g_P_reads_47 (F : Nat × Nat) : ∀ f, jG M_P_reads (10 + 2 * F.2) 47 (r_P_reads_47 (m_P_reads_47 F f))
  | 0 => jG.no (fun L S h => by unfold r_P_reads_47; split <;> rfl)
  | f + 1 => (jst_ok ok_P_reads (hc_P_reads F) (jrun_ok ok_P_reads (hc_P_reads F) (jT_ok (List.forall_mem_cons.mpr ⟨g_P_reads_78 F _ (g_P_reads_47 F f), fun _ h => absurd h List.not_mem_nil⟩)) 78) 47).of (fun L S h out e => by unfold r_P_reads_47 at e; split at e; exact (e_P_reads_47 F f _ _ _ _).symm.trans e; cases e)
theorem k_P_reads (F : Nat × Nat) (o : Nat) (a1 : Int32) (h : jH) (r : Option Value) (h1 : jH) (e : m_P_reads F o a1 h = some (r, h1)) : jM1 (10 + 2 * F.2) 48 [.ref o, .int a1] h r h1 := jM_of (M := M_P_reads) mok_P_reads (by decide +kernel) (by decide +kernel) (Or.inr (Or.inl ⟨rfl, rfl⟩)) (fun q => nomatch q) (jrun_ok ok_P_reads (hc_P_reads F) (jT_ok (List.forall_mem_cons.mpr ⟨g_P_reads_47 F F.1, fun _ h => absurd h List.not_mem_nil⟩)) 78 0) (List.all_eq_true.mp rfl) (Nat.le_of_ble_eq_true rfl) (fun E => Nat.le_of_ble_eq_true rfl) ((e_P_reads F o a1 h).symm.trans e)
theorem co_P_reads (F : Nat × Nat) : jc_ok (10 + 2 * F.2 + 1) 48 (c_P_reads F) := by
  intro as h k out e
  unfold c_P_reads at e
  split at e
  · obtain ⟨a0, rfl, e1⟩ := js_rv e
    obtain ⟨hg, e2⟩ := js_if e1
    obtain ⟨r, h1, hm, e3⟩ := js_jbI e2
    exact ⟨_, _, _, Nat.le_refl _, k_P_reads F _ _ _ _ _ hm, ⟨fun _ => ⟨_, _, rfl, Or.inl ⟨3, by decide, hg, by decide +kernel⟩⟩, fun q => absurd q (by decide +kernel)⟩, e3⟩
  · cases e
def c_Jm_min_II (F : Nat × Nat) : jc1 := fun args h k => match args with
  | [.int a0, .int a1] => jbI (m_Jm_min_II F a0 a1 h) fun r h => k (some (.int r)) h
  | _ => none
set_option maxRecDepth 100000 in
theorem e_Jm_min_II (F : Nat × Nat) (a0 : Int32) (a1 : Int32) (h : jH) : m_Jm_min_II F a0 a1 h = jrun (j_C []) 0 cd_Jm_min_II (j_T []) 12 0 [some (.int a0), some (.int a1)] [] h := rfl
theorem hc_Jm_min_II (F : Nat × Nat) : jCok (0 + 0 * F.2) (j_C []) := jC_ok (fun _ h => absurd h List.not_mem_nil)
theorem k_Jm_min_II (F : Nat × Nat) (a0 : Int32) (a1 : Int32) (h : jH) (r : Option Value) (h1 : jH) (e : m_Jm_min_II F a0 a1 h = some (r, h1)) : jM1 (0 + 0 * F.2) 79 [.int a0, .int a1] h r h1 := jM_of (M := M_Jm_min_II) mok_Jm_min_II (by decide +kernel) (by decide +kernel) (Or.inl ⟨rfl, rfl⟩) (fun q => nomatch q) (jrun_ok ok_Jm_min_II (hc_Jm_min_II F) (jT_ok (fun _ h => absurd h List.not_mem_nil)) 12 0) (List.all_eq_true.mp rfl) (Nat.le_of_ble_eq_true rfl) (fun E => Nat.le_of_ble_eq_true rfl) ((e_Jm_min_II F a0 a1 h).symm.trans e)
theorem co_Jm_min_II (F : Nat × Nat) : jc_ok (0 + 0 * F.2 + 1) 79 (c_Jm_min_II F) := by
  intro as h k out e
  unfold c_Jm_min_II at e
  split at e
  · obtain ⟨r, h1, hm, e1⟩ := js_jbI e
    exact ⟨_, _, _, Nat.le_refl _, k_Jm_min_II F _ _ _ _ _ hm, ⟨fun q => absurd q (by decide +kernel), fun q => absurd q (by decide +kernel)⟩, e1⟩
  · cases e
def c_Ja_copyOf (F : Nat × Nat) : jc1 := fun args h k => match args with
  | [w0, .int a1] => j_rv w0 fun a0 => jbR (m_Ja_copyOf F a0 a1 h) fun r h => k (some r) h
  | _ => none
set_option maxRecDepth 100000 in
theorem e_Ja_copyOf (F : Nat × Nat) (a0 : Nat) (a1 : Int32) (h : jH) : m_Ja_copyOf F a0 a1 h = jrun (j_C [(79, c_Jm_min_II F)]) 3 cd_Ja_copyOf (j_T []) 27 0 [some (.ref a0), some (.int a1), none] [] h := rfl
theorem hc_Ja_copyOf (F : Nat × Nat) : jCok (1 + 0 * F.2) (j_C [(79, c_Jm_min_II F)]) := jC_ok (List.forall_mem_cons.mpr ⟨(co_Jm_min_II F).up (by omega), fun _ h => absurd h List.not_mem_nil⟩)
theorem k_Ja_copyOf (F : Nat × Nat) (a0 : Nat) (a1 : Int32) (h : jH) (r : Option Value) (h1 : jH) (e : m_Ja_copyOf F a0 a1 h = some (r, h1)) : jM1 (1 + 0 * F.2) 78 [.ref a0, .int a1] h r h1 := jM_of (M := M_Ja_copyOf) mok_Ja_copyOf (by decide +kernel) (by decide +kernel) (Or.inr (Or.inr (Or.inr (Or.inl ⟨rfl, Or.inr ⟨_, rfl⟩⟩)))) (fun q => nomatch q) (jrun_ok ok_Ja_copyOf (hc_Ja_copyOf F) (jT_ok (fun _ h => absurd h List.not_mem_nil)) 27 0) (List.all_eq_true.mp rfl) (Nat.le_of_ble_eq_true rfl) (fun E => Nat.le_of_ble_eq_true rfl) ((e_Ja_copyOf F a0 a1 h).symm.trans e)
theorem co_Ja_copyOf (F : Nat × Nat) : jc_ok (1 + 0 * F.2 + 1) 78 (c_Ja_copyOf F) := by
  intro as h k out e
  unfold c_Ja_copyOf at e
  split at e
  · obtain ⟨a0, rfl, e1⟩ := js_rv e
    obtain ⟨r, h1, hm, e2⟩ := js_jbR e1
    exact ⟨_, _, _, Nat.le_refl _, k_Ja_copyOf F _ _ _ _ _ hm, ⟨fun q => absurd q (by decide +kernel), fun q => absurd q (by decide +kernel)⟩, e2⟩
  · cases e
def c_T_new_L (F : Nat × Nat) : jc1 := fun args h k => match args with
  | [w0, w1] => j_rv w0 fun a0 => j_rv w1 fun a1 => jbV (m_T_new_L F a0 a1 h) fun h => k none h
  | _ => none
set_option maxRecDepth 100000 in
theorem e_T_new_L (F : Nat × Nat) (o : Nat) (a1 : Nat) (h : jH) : m_T_new_L F o a1 h = jrun (j_C [(78, c_Ja_copyOf F)]) 4 cd_T_new_L (j_T []) 64 0 [some (.ref o), some (.ref a1)] [] h := rfl
theorem hc_T_new_L (F : Nat × Nat) : jCok (2 + 0 * F.2) (j_C [(78, c_Ja_copyOf F)]) := jC_ok (List.forall_mem_cons.mpr ⟨(co_Ja_copyOf F).up (by omega), fun _ h => absurd h List.not_mem_nil⟩)
theorem k_T_new_L (F : Nat × Nat) (o : Nat) (a1 : Nat) (h : jH) (r : Option Value) (h1 : jH) (e : m_T_new_L F o a1 h = some (r, h1)) : jM1 (2 + 0 * F.2) 77 [.ref o, .ref a1] h r h1 := jM_of (M := M_T_new_L) mok_T_new_L (by decide +kernel) (by decide +kernel) (Or.inr (Or.inr (Or.inr (Or.inr ⟨rfl, rfl⟩)))) (fun _ => by decide +kernel) (jrun_ok ok_T_new_L (hc_T_new_L F) (jT_ok (fun _ h => absurd h List.not_mem_nil)) 64 0) (List.all_eq_true.mp rfl) (Nat.le_of_ble_eq_true rfl) (fun E => Nat.le_of_ble_eq_true rfl) ((e_T_new_L F o a1 h).symm.trans e)
theorem co_T_new_L (F : Nat × Nat) : jc_ok (2 + 0 * F.2 + 1) 77 (c_T_new_L F) := by
  intro as h k out e
  unfold c_T_new_L at e
  split at e
  · obtain ⟨a0, rfl, e1⟩ := js_rv e
    obtain ⟨a1, rfl, e2⟩ := js_rv e1
    obtain ⟨h1, hm, e3⟩ := js_jbV e2
    exact ⟨_, _, _, Nat.le_refl _, k_T_new_L F _ _ _ _ _ hm, ⟨fun q => absurd q (by decide +kernel), fun _ => ⟨_, _, rfl⟩⟩, e3⟩
  · cases e
def c_F_law (F : Nat × Nat) : jc1 := fun args h k => match args with
  | [w0] => j_rv w0 fun a0 => if j_k h a0 = 10 then (jbI (m_F_law F a0 h) fun r h => k (some (.int r)) h) else none
  | _ => none
set_option maxRecDepth 100000 in
theorem e_F_law (F : Nat × Nat) (o : Nat) (h : jH) : m_F_law F o h = jrun (j_C [(10, c_F_refuse F), (12, c_F_accept F), (48, c_P_reads F), (77, c_T_new_L F)]) 0 cd_F_law (j_T []) 52 0 [some (.ref o), none] [] h := rfl
theorem hc_F_law (F : Nat × Nat) : jCok (11 + 2 * F.2) (j_C [(10, c_F_refuse F), (12, c_F_accept F), (48, c_P_reads F), (77, c_T_new_L F)]) := jC_ok (List.forall_mem_cons.mpr ⟨(co_F_refuse F).up (by omega), List.forall_mem_cons.mpr ⟨(co_F_accept F).up (by omega), List.forall_mem_cons.mpr ⟨(co_P_reads F).up (by omega), List.forall_mem_cons.mpr ⟨(co_T_new_L F).up (by omega), fun _ h => absurd h List.not_mem_nil⟩⟩⟩⟩)
theorem k_F_law (F : Nat × Nat) (o : Nat) (h : jH) (r : Option Value) (h1 : jH) (e : m_F_law F o h = some (r, h1)) : jM1 (11 + 2 * F.2) 47 [.ref o] h r h1 := jM_of (M := M_F_law) mok_F_law (by decide +kernel) (by decide +kernel) (Or.inl ⟨rfl, rfl⟩) (fun q => nomatch q) (jrun_ok ok_F_law (hc_F_law F) (jT_ok (fun _ h => absurd h List.not_mem_nil)) 52 0) (List.all_eq_true.mp rfl) (Nat.le_of_ble_eq_true rfl) (fun E => Nat.le_of_ble_eq_true rfl) ((e_F_law F o h).symm.trans e)
theorem co_F_law (F : Nat × Nat) : jc_ok (11 + 2 * F.2 + 1) 47 (c_F_law F) := by
  intro as h k out e
  unfold c_F_law at e
  split at e
  · obtain ⟨a0, rfl, e1⟩ := js_rv e
    obtain ⟨hg, e2⟩ := js_if e1
    obtain ⟨r, h1, hm, e3⟩ := js_jbI e2
    exact ⟨_, _, _, Nat.le_refl _, k_F_law F _ _ _ _ hm, ⟨fun _ => ⟨_, _, rfl, Or.inl ⟨0, by decide, hg, by decide +kernel⟩⟩, fun q => absurd q (by decide +kernel)⟩, e3⟩
  · cases e
def r_L_copyFrom_162 (g : Nat → Nat → Int32 → jH → Option jO) : jL → List Value → jH → Option jO := fun L S h => match L, S with
  | [some (.ref v0), some (.ref v1), some (.int v2)], [] => g v0 v1 v2 h
  | _, _ => none
def c_L_copyFrom (F : Nat × Nat) : jc1 := fun args h k => match args with
  | [w0, w1] => j_rv w0 fun a0 => j_rv w1 fun a1 => if j_k h a0 = 12 then (jbV (m_L_copyFrom F a0 a1 h) fun h => k none h) else none
  | _ => none
set_option maxRecDepth 100000 in
theorem e_L_copyFrom_162 (F : Nat × Nat) (f : Nat) (v0 : Nat) (v1 : Nat) (v2 : Int32) (h : jH) : m_L_copyFrom_162 F (f + 1) v0 v1 v2 h = jst (j_C []) 4 (cd_L_copyFrom 162) [some (.ref v0), some (.ref v1), some (.int v2)] [] h (jrun (j_C []) 4 cd_L_copyFrom (j_T [(162, r_L_copyFrom_162 (m_L_copyFrom_162 F f))]) 117) := rfl
set_option maxRecDepth 100000 in
theorem e_L_copyFrom (F : Nat × Nat) (o : Nat) (a1 : Nat) (h : jH) : m_L_copyFrom F o a1 h = jrun (j_C []) 4 cd_L_copyFrom (j_T [(162, r_L_copyFrom_162 (m_L_copyFrom_162 F F.1))]) 117 0 [some (.ref o), some (.ref a1), none] [] h := rfl
theorem hc_L_copyFrom (F : Nat × Nat) : jCok (0 + 0 * F.2) (j_C []) := jC_ok (fun _ h => absurd h List.not_mem_nil)
theorem g_L_copyFrom_162 (F : Nat × Nat) : ∀ f, jG M_L_copyFrom (0 + 0 * F.2) 162 (r_L_copyFrom_162 (m_L_copyFrom_162 F f))
  | 0 => jG.no (fun L S h => by unfold r_L_copyFrom_162; split <;> rfl)
  | f + 1 => (jst_ok ok_L_copyFrom (hc_L_copyFrom F) (jrun_ok ok_L_copyFrom (hc_L_copyFrom F) (jT_ok (List.forall_mem_cons.mpr ⟨g_L_copyFrom_162 F f, fun _ h => absurd h List.not_mem_nil⟩)) 117) 162).of (fun L S h out e => by unfold r_L_copyFrom_162 at e; split at e; exact (e_L_copyFrom_162 F f _ _ _ _).symm.trans e; cases e)
theorem k_L_copyFrom (F : Nat × Nat) (o : Nat) (a1 : Nat) (h : jH) (r : Option Value) (h1 : jH) (e : m_L_copyFrom F o a1 h = some (r, h1)) : jM1 (0 + 0 * F.2) 81 [.ref o, .ref a1] h r h1 := jM_of (M := M_L_copyFrom) mok_L_copyFrom (by decide +kernel) (by decide +kernel) (Or.inr (Or.inr (Or.inr (Or.inr ⟨rfl, rfl⟩)))) (fun q => nomatch q) (jrun_ok ok_L_copyFrom (hc_L_copyFrom F) (jT_ok (List.forall_mem_cons.mpr ⟨g_L_copyFrom_162 F F.1, fun _ h => absurd h List.not_mem_nil⟩)) 117 0) (List.all_eq_true.mp rfl) (Nat.le_of_ble_eq_true rfl) (fun E => Nat.le_of_ble_eq_true rfl) ((e_L_copyFrom F o a1 h).symm.trans e)
theorem co_L_copyFrom (F : Nat × Nat) : jc_ok (0 + 0 * F.2 + 1) 81 (c_L_copyFrom F) := by
  intro as h k out e
  unfold c_L_copyFrom at e
  split at e
  · obtain ⟨a0, rfl, e1⟩ := js_rv e
    obtain ⟨a1, rfl, e2⟩ := js_rv e1
    obtain ⟨hg, e3⟩ := js_if e2
    obtain ⟨h1, hm, e4⟩ := js_jbV e3
    exact ⟨_, _, _, Nat.le_refl _, k_L_copyFrom F _ _ _ _ _ hm, ⟨fun _ => ⟨_, _, rfl, Or.inl ⟨2, by decide, hg, by decide +kernel⟩⟩, fun q => absurd q (by decide +kernel)⟩, e4⟩
  · cases e
def c_D_copyFrom (F : Nat × Nat) : jc1 := fun args h k => match args with
  | [w0, w1] => j_rv w0 fun a0 => j_rv w1 fun a1 => if j_k h a0 = 11 then (jbV (m_D_copyFrom F a0 a1 h) fun h => k none h) else none
  | _ => none
set_option maxRecDepth 100000 in
theorem e_D_copyFrom (F : Nat × Nat) (o : Nat) (a1 : Nat) (h : jH) : m_D_copyFrom F o a1 h = jrun (j_C []) 4 cd_D_copyFrom (j_T []) 78 0 [some (.ref o), some (.ref a1)] [] h := rfl
theorem hc_D_copyFrom (F : Nat × Nat) : jCok (0 + 0 * F.2) (j_C []) := jC_ok (fun _ h => absurd h List.not_mem_nil)
theorem k_D_copyFrom (F : Nat × Nat) (o : Nat) (a1 : Nat) (h : jH) (r : Option Value) (h1 : jH) (e : m_D_copyFrom F o a1 h = some (r, h1)) : jM1 (0 + 0 * F.2) 82 [.ref o, .ref a1] h r h1 := jM_of (M := M_D_copyFrom) mok_D_copyFrom (by decide +kernel) (by decide +kernel) (Or.inr (Or.inr (Or.inr (Or.inr ⟨rfl, rfl⟩)))) (fun q => nomatch q) (jrun_ok ok_D_copyFrom (hc_D_copyFrom F) (jT_ok (fun _ h => absurd h List.not_mem_nil)) 78 0) (List.all_eq_true.mp rfl) (Nat.le_of_ble_eq_true rfl) (fun E => Nat.le_of_ble_eq_true rfl) ((e_D_copyFrom F o a1 h).symm.trans e)
theorem co_D_copyFrom (F : Nat × Nat) : jc_ok (0 + 0 * F.2 + 1) 82 (c_D_copyFrom F) := by
  intro as h k out e
  unfold c_D_copyFrom at e
  split at e
  · obtain ⟨a0, rfl, e1⟩ := js_rv e
    obtain ⟨a1, rfl, e2⟩ := js_rv e1
    obtain ⟨hg, e3⟩ := js_if e2
    obtain ⟨h1, hm, e4⟩ := js_jbV e3
    exact ⟨_, _, _, Nat.le_refl _, k_D_copyFrom F _ _ _ _ _ hm, ⟨fun _ => ⟨_, _, rfl, Or.inl ⟨1, by decide, hg, by decide +kernel⟩⟩, fun q => absurd q (by decide +kernel)⟩, e4⟩
  · cases e
def r_L_tellOrderWords_87 (g : Nat → Nat → Int32 → jH → Option jO) : jL → List Value → jH → Option jO := fun L S h => match L, S with
  | [some (.ref v0), some (.ref v1), some (.int v2), _], [] => g v0 v1 v2 h
  | _, _ => none
def r_L_tellOrderWords_30 (g : Nat → Nat → Int32 → Int32 → jH → Option jO) : jL → List Value → jH → Option jO := fun L S h => match L, S with
  | [some (.ref v0), some (.ref v1), some (.int v2), _], [.int s0] => g v0 v1 v2 s0 h
  | _, _ => none
def r_L_tellOrderWords_12 (g : Nat → Nat → Int32 → jH → Option jO) : jL → List Value → jH → Option jO := fun L S h => match L, S with
  | [some (.ref v0), some (.ref v1), some (.int v2), _], [] => g v0 v1 v2 h
  | _, _ => none
def c_L_tellOrderWords (F : Nat × Nat) : jc1 := fun args h k => match args with
  | [w0, w1] => j_rv w0 fun a0 => j_rv w1 fun a1 => if j_k h a0 = 12 then (jbV (m_L_tellOrderWords F a0 a1 h) fun h => k none h) else none
  | _ => none
set_option maxRecDepth 100000 in
theorem e_L_tellOrderWords_87 (F : Nat × Nat) (f : Nat) (v0 : Nat) (v1 : Nat) (v2 : Int32) (u1 : Option Value) (h : jH) : m_L_tellOrderWords_87 F (f + 1) v0 v1 v2 h = jst (j_C [(20, c_Ji_bitCount F)]) 4 (cd_L_tellOrderWords 87) [some (.ref v0), some (.ref v1), some (.int v2), u1] [] h (jrun (j_C [(20, c_Ji_bitCount F)]) 4 cd_L_tellOrderWords (j_T [(87, r_L_tellOrderWords_87 (m_L_tellOrderWords_87 F f))]) 75) := rfl
set_option maxRecDepth 100000 in
theorem e_L_tellOrderWords_30 (F : Nat × Nat) (k12 : Nat → Nat → Int32 → jH → Option jO) (v0 : Nat) (v1 : Nat) (v2 : Int32) (s0 : Int32) (u1 : Option Value) (h : jH) : m_L_tellOrderWords_30 F k12 v0 v1 v2 s0 h = jst (j_C [(20, c_Ji_bitCount F)]) 4 (cd_L_tellOrderWords 30) [some (.ref v0), some (.ref v1), some (.int v2), u1] [.int s0] h (jrun (j_C [(20, c_Ji_bitCount F)]) 4 cd_L_tellOrderWords (j_T [(12, r_L_tellOrderWords_12 k12)]) 75) := rfl
set_option maxRecDepth 100000 in
theorem e_L_tellOrderWords_12 (F : Nat × Nat) (f : Nat) (v0 : Nat) (v1 : Nat) (v2 : Int32) (u1 : Option Value) (h : jH) : m_L_tellOrderWords_12 F (f + 1) v0 v1 v2 h = jst (j_C [(20, c_Ji_bitCount F)]) 4 (cd_L_tellOrderWords 12) [some (.ref v0), some (.ref v1), some (.int v2), u1] [] h (jrun (j_C [(20, c_Ji_bitCount F)]) 4 cd_L_tellOrderWords (j_T [(30, r_L_tellOrderWords_30 (m_L_tellOrderWords_30 F (m_L_tellOrderWords_12 F f))), (87, r_L_tellOrderWords_87 (m_L_tellOrderWords_87 F F.1))]) 75) := rfl
set_option maxRecDepth 100000 in
theorem e_L_tellOrderWords (F : Nat × Nat) (o : Nat) (a1 : Nat) (h : jH) : m_L_tellOrderWords F o a1 h = jrun (j_C [(20, c_Ji_bitCount F)]) 4 cd_L_tellOrderWords (j_T [(12, r_L_tellOrderWords_12 (m_L_tellOrderWords_12 F F.1))]) 75 0 [some (.ref o), some (.ref a1), none, none] [] h := rfl
theorem hc_L_tellOrderWords (F : Nat × Nat) : jCok (1 + 0 * F.2) (j_C [(20, c_Ji_bitCount F)]) := jC_ok (List.forall_mem_cons.mpr ⟨(co_Ji_bitCount F).up (by omega), fun _ h => absurd h List.not_mem_nil⟩)
theorem g_L_tellOrderWords_87 (F : Nat × Nat) : ∀ f, jG M_L_tellOrderWords (1 + 0 * F.2) 87 (r_L_tellOrderWords_87 (m_L_tellOrderWords_87 F f))
  | 0 => jG.no (fun L S h => by unfold r_L_tellOrderWords_87; split <;> rfl)
  | f + 1 => (jst_ok ok_L_tellOrderWords (hc_L_tellOrderWords F) (jrun_ok ok_L_tellOrderWords (hc_L_tellOrderWords F) (jT_ok (List.forall_mem_cons.mpr ⟨g_L_tellOrderWords_87 F f, fun _ h => absurd h List.not_mem_nil⟩)) 75) 87).of (fun L S h out e => by unfold r_L_tellOrderWords_87 at e; split at e; exact (e_L_tellOrderWords_87 F f _ _ _ _ _).symm.trans e; cases e)
theorem g_L_tellOrderWords_30 (F : Nat × Nat) (k12 : Nat → Nat → Int32 → jH → Option jO) (hk12 : jG M_L_tellOrderWords (1 + 0 * F.2) 12 (r_L_tellOrderWords_12 k12)) : jG M_L_tellOrderWords (1 + 0 * F.2) 30 (r_L_tellOrderWords_30 (m_L_tellOrderWords_30 F k12)) := (jst_ok ok_L_tellOrderWords (hc_L_tellOrderWords F) (jrun_ok ok_L_tellOrderWords (hc_L_tellOrderWords F) (jT_ok (List.forall_mem_cons.mpr ⟨hk12, fun _ h => absurd h List.not_mem_nil⟩)) 75) 30).of (fun L S h out e => by unfold r_L_tellOrderWords_30 at e; split at e; exact (e_L_tellOrderWords_30 F k12 _ _ _ _ _ _).symm.trans e; cases e)
theorem g_L_tellOrderWords_12 (F : Nat × Nat) : ∀ f, jG M_L_tellOrderWords (1 + 0 * F.2) 12 (r_L_tellOrderWords_12 (m_L_tellOrderWords_12 F f))
  | 0 => jG.no (fun L S h => by unfold r_L_tellOrderWords_12; split <;> rfl)
  | f + 1 => (jst_ok ok_L_tellOrderWords (hc_L_tellOrderWords F) (jrun_ok ok_L_tellOrderWords (hc_L_tellOrderWords F) (jT_ok (List.forall_mem_cons.mpr ⟨g_L_tellOrderWords_30 F _ (g_L_tellOrderWords_12 F f), List.forall_mem_cons.mpr ⟨g_L_tellOrderWords_87 F F.1, fun _ h => absurd h List.not_mem_nil⟩⟩)) 75) 12).of (fun L S h out e => by unfold r_L_tellOrderWords_12 at e; split at e; exact (e_L_tellOrderWords_12 F f _ _ _ _ _).symm.trans e; cases e)
theorem k_L_tellOrderWords (F : Nat × Nat) (o : Nat) (a1 : Nat) (h : jH) (r : Option Value) (h1 : jH) (e : m_L_tellOrderWords F o a1 h = some (r, h1)) : jM1 (1 + 0 * F.2) 84 [.ref o, .ref a1] h r h1 := jM_of (M := M_L_tellOrderWords) mok_L_tellOrderWords (by decide +kernel) (by decide +kernel) (Or.inr (Or.inr (Or.inr (Or.inr ⟨rfl, rfl⟩)))) (fun q => nomatch q) (jrun_ok ok_L_tellOrderWords (hc_L_tellOrderWords F) (jT_ok (List.forall_mem_cons.mpr ⟨g_L_tellOrderWords_12 F F.1, fun _ h => absurd h List.not_mem_nil⟩)) 75 0) (List.all_eq_true.mp rfl) (Nat.le_of_ble_eq_true rfl) (fun E => Nat.le_of_ble_eq_true rfl) ((e_L_tellOrderWords F o a1 h).symm.trans e)
theorem co_L_tellOrderWords (F : Nat × Nat) : jc_ok (1 + 0 * F.2 + 1) 84 (c_L_tellOrderWords F) := by
  intro as h k out e
  unfold c_L_tellOrderWords at e
  split at e
  · obtain ⟨a0, rfl, e1⟩ := js_rv e
    obtain ⟨a1, rfl, e2⟩ := js_rv e1
    obtain ⟨hg, e3⟩ := js_if e2
    obtain ⟨h1, hm, e4⟩ := js_jbV e3
    exact ⟨_, _, _, Nat.le_refl _, k_L_tellOrderWords F _ _ _ _ _ hm, ⟨fun _ => ⟨_, _, rfl, Or.inl ⟨2, by decide, hg, by decide +kernel⟩⟩, fun q => absurd q (by decide +kernel)⟩, e4⟩
  · cases e
def r_D_add_84 (g : Nat → Nat → Int32 → jH → Option jO) : jL → List Value → jH → Option jO := fun L S h => match L, S with
  | [some (.ref v0), some (.ref v1), _, _, some (.int v4)], [] => g v0 v1 v4 h
  | _, _ => none
def c_D_add (F : Nat × Nat) : jc1 := fun args h k => match args with
  | [w0, w1, .int a2, .int a3, .int a4] => j_rv w0 fun a0 => j_rv w1 fun a1 => if j_k h a0 = 11 then (jbV (m_D_add F a0 a1 a2 a3 a4 h) fun h => k none h) else none
  | _ => none
set_option maxRecDepth 100000 in
theorem e_D_add_84 (F : Nat × Nat) (v0 : Nat) (v1 : Nat) (v4 : Int32) (u1 : Option Value) (u2 : Option Value) (h : jH) : m_D_add_84 F v0 v1 v4 h = jst (j_C [(19, c_L_hasWalker F), (79, c_Jm_min_II F)]) 4 (cd_D_add 84) [some (.ref v0), some (.ref v1), u1, u2, some (.int v4)] [] h (jrun (j_C [(19, c_L_hasWalker F), (79, c_Jm_min_II F)]) 4 cd_D_add (j_T []) 93) := rfl
set_option maxRecDepth 100000 in
theorem e_D_add (F : Nat × Nat) (o : Nat) (a1 : Nat) (a2 : Int32) (a3 : Int32) (a4 : Int32) (h : jH) : m_D_add F o a1 a2 a3 a4 h = jrun (j_C [(19, c_L_hasWalker F), (79, c_Jm_min_II F)]) 4 cd_D_add (j_T [(84, r_D_add_84 (m_D_add_84 F))]) 93 0 [some (.ref o), some (.ref a1), some (.int a2), some (.int a3), some (.int a4)] [] h := rfl
theorem hc_D_add (F : Nat × Nat) : jCok (1 + 0 * F.2) (j_C [(19, c_L_hasWalker F), (79, c_Jm_min_II F)]) := jC_ok (List.forall_mem_cons.mpr ⟨(co_L_hasWalker F).up (by omega), List.forall_mem_cons.mpr ⟨(co_Jm_min_II F).up (by omega), fun _ h => absurd h List.not_mem_nil⟩⟩)
theorem g_D_add_84 (F : Nat × Nat) : jG M_D_add (1 + 0 * F.2) 84 (r_D_add_84 (m_D_add_84 F)) := (jst_ok ok_D_add (hc_D_add F) (jrun_ok ok_D_add (hc_D_add F) (jT_ok (fun _ h => absurd h List.not_mem_nil)) 93) 84).of (fun L S h out e => by unfold r_D_add_84 at e; split at e; exact (e_D_add_84 F _ _ _ _ _ _).symm.trans e; cases e)
theorem k_D_add (F : Nat × Nat) (o : Nat) (a1 : Nat) (a2 : Int32) (a3 : Int32) (a4 : Int32) (h : jH) (r : Option Value) (h1 : jH) (e : m_D_add F o a1 a2 a3 a4 h = some (r, h1)) : jM1 (1 + 0 * F.2) 86 [.ref o, .ref a1, .int a2, .int a3, .int a4] h r h1 := jM_of (M := M_D_add) mok_D_add (by decide +kernel) (by decide +kernel) (Or.inr (Or.inr (Or.inr (Or.inr ⟨rfl, rfl⟩)))) (fun q => nomatch q) (jrun_ok ok_D_add (hc_D_add F) (jT_ok (List.forall_mem_cons.mpr ⟨g_D_add_84 F, fun _ h => absurd h List.not_mem_nil⟩)) 93 0) (List.all_eq_true.mp rfl) (Nat.le_of_ble_eq_true rfl) (fun E => Nat.le_of_ble_eq_true rfl) ((e_D_add F o a1 a2 a3 a4 h).symm.trans e)
theorem co_D_add (F : Nat × Nat) : jc_ok (1 + 0 * F.2 + 1) 86 (c_D_add F) := by
  intro as h k out e
  unfold c_D_add at e
  split at e
  · obtain ⟨a0, rfl, e1⟩ := js_rv e
    obtain ⟨a1, rfl, e2⟩ := js_rv e1
    obtain ⟨hg, e3⟩ := js_if e2
    obtain ⟨h1, hm, e4⟩ := js_jbV e3
    exact ⟨_, _, _, Nat.le_refl _, k_D_add F _ _ _ _ _ _ _ _ hm, ⟨fun _ => ⟨_, _, rfl, Or.inl ⟨1, by decide, hg, by decide +kernel⟩⟩, fun q => absurd q (by decide +kernel)⟩, e4⟩
  · cases e
def c_Jm_abs (F : Nat × Nat) : jc1 := fun args h k => match args with
  | [.int a0] => jbI (m_Jm_abs F a0 h) fun r h => k (some (.int r)) h
  | _ => none
set_option maxRecDepth 100000 in
theorem e_Jm_abs (F : Nat × Nat) (a0 : Int32) (h : jH) : m_Jm_abs F a0 h = jrun (j_C []) 0 cd_Jm_abs (j_T []) 12 0 [some (.int a0)] [] h := rfl
theorem hc_Jm_abs (F : Nat × Nat) : jCok (0 + 0 * F.2) (j_C []) := jC_ok (fun _ h => absurd h List.not_mem_nil)
theorem k_Jm_abs (F : Nat × Nat) (a0 : Int32) (h : jH) (r : Option Value) (h1 : jH) (e : m_Jm_abs F a0 h = some (r, h1)) : jM1 (0 + 0 * F.2) 89 [.int a0] h r h1 := jM_of (M := M_Jm_abs) mok_Jm_abs (by decide +kernel) (by decide +kernel) (Or.inl ⟨rfl, rfl⟩) (fun q => nomatch q) (jrun_ok ok_Jm_abs (hc_Jm_abs F) (jT_ok (fun _ h => absurd h List.not_mem_nil)) 12 0) (List.all_eq_true.mp rfl) (Nat.le_of_ble_eq_true rfl) (fun E => Nat.le_of_ble_eq_true rfl) ((e_Jm_abs F a0 h).symm.trans e)
theorem co_Jm_abs (F : Nat × Nat) : jc_ok (0 + 0 * F.2 + 1) 89 (c_Jm_abs F) := by
  intro as h k out e
  unfold c_Jm_abs at e
  split at e
  · obtain ⟨r, h1, hm, e1⟩ := js_jbI e
    exact ⟨_, _, _, Nat.le_refl _, k_Jm_abs F _ _ _ _ hm, ⟨fun q => absurd q (by decide +kernel), fun q => absurd q (by decide +kernel)⟩, e1⟩
  · cases e
def r_F_cellsInSight_4 (g : Int32 → Int32 → Int32 → Int32 → jH → Option jO) : jL → List Value → jH → Option jO := fun L S h => match L, S with
  | [some (.int v0), some (.int v1), some (.int v2), some (.int v3), _, _], [] => g v0 v1 v2 v3 h
  | _, _ => none
def c_F_cellsInSight (F : Nat × Nat) : jc1 := fun args h k => match args with
  | [.int a0, .int a1] => jbI (m_F_cellsInSight F a0 a1 h) fun r h => k (some (.int r)) h
  | _ => none
set_option maxRecDepth 100000 in
theorem e_F_cellsInSight_4 (F : Nat × Nat) (f : Nat) (v0 : Int32) (v1 : Int32) (v2 : Int32) (v3 : Int32) (u1 : Option Value) (u2 : Option Value) (h : jH) : m_F_cellsInSight_4 F (f + 1) v0 v1 v2 v3 h = jst (j_C [(89, c_Jm_abs F)]) 0 (cd_F_cellsInSight 4) [some (.int v0), some (.int v1), some (.int v2), some (.int v3), u1, u2] [] h (jrun (j_C [(89, c_Jm_abs F)]) 0 cd_F_cellsInSight (j_T [(4, r_F_cellsInSight_4 (m_F_cellsInSight_4 F f))]) 45) := rfl
set_option maxRecDepth 100000 in
theorem e_F_cellsInSight (F : Nat × Nat) (a0 : Int32) (a1 : Int32) (h : jH) : m_F_cellsInSight F a0 a1 h = jrun (j_C [(89, c_Jm_abs F)]) 0 cd_F_cellsInSight (j_T [(4, r_F_cellsInSight_4 (m_F_cellsInSight_4 F F.1))]) 45 0 [some (.int a0), some (.int a1), none, none, none, none] [] h := rfl
theorem hc_F_cellsInSight (F : Nat × Nat) : jCok (1 + 0 * F.2) (j_C [(89, c_Jm_abs F)]) := jC_ok (List.forall_mem_cons.mpr ⟨(co_Jm_abs F).up (by omega), fun _ h => absurd h List.not_mem_nil⟩)
theorem g_F_cellsInSight_4 (F : Nat × Nat) : ∀ f, jG M_F_cellsInSight (1 + 0 * F.2) 4 (r_F_cellsInSight_4 (m_F_cellsInSight_4 F f))
  | 0 => jG.no (fun L S h => by unfold r_F_cellsInSight_4; split <;> rfl)
  | f + 1 => (jst_ok ok_F_cellsInSight (hc_F_cellsInSight F) (jrun_ok ok_F_cellsInSight (hc_F_cellsInSight F) (jT_ok (List.forall_mem_cons.mpr ⟨g_F_cellsInSight_4 F f, fun _ h => absurd h List.not_mem_nil⟩)) 45) 4).of (fun L S h out e => by unfold r_F_cellsInSight_4 at e; split at e; exact (e_F_cellsInSight_4 F f _ _ _ _ _ _ _).symm.trans e; cases e)
theorem k_F_cellsInSight (F : Nat × Nat) (a0 : Int32) (a1 : Int32) (h : jH) (r : Option Value) (h1 : jH) (e : m_F_cellsInSight F a0 a1 h = some (r, h1)) : jM1 (1 + 0 * F.2) 88 [.int a0, .int a1] h r h1 := jM_of (M := M_F_cellsInSight) mok_F_cellsInSight (by decide +kernel) (by decide +kernel) (Or.inl ⟨rfl, rfl⟩) (fun q => nomatch q) (jrun_ok ok_F_cellsInSight (hc_F_cellsInSight F) (jT_ok (List.forall_mem_cons.mpr ⟨g_F_cellsInSight_4 F F.1, fun _ h => absurd h List.not_mem_nil⟩)) 45 0) (List.all_eq_true.mp rfl) (Nat.le_of_ble_eq_true rfl) (fun E => Nat.le_of_ble_eq_true rfl) ((e_F_cellsInSight F a0 a1 h).symm.trans e)
theorem co_F_cellsInSight (F : Nat × Nat) : jc_ok (1 + 0 * F.2 + 1) 88 (c_F_cellsInSight F) := by
  intro as h k out e
  unfold c_F_cellsInSight at e
  split at e
  · obtain ⟨r, h1, hm, e1⟩ := js_jbI e
    exact ⟨_, _, _, Nat.le_refl _, k_F_cellsInSight F _ _ _ _ _ hm, ⟨fun q => absurd q (by decide +kernel), fun q => absurd q (by decide +kernel)⟩, e1⟩
  · cases e
def c_L_blank (F : Nat × Nat) : jc1 := fun args h k => match args with
  | [w0, .int a1, .int a2] => j_rv w0 fun a0 => if j_k h a0 = 12 then (jbV (m_L_blank F a0 a1 a2 h) fun h => k none h) else none
  | _ => none
set_option maxRecDepth 100000 in
theorem e_L_blank (F : Nat × Nat) (o : Nat) (a1 : Int32) (a2 : Int32) (h : jH) : m_L_blank F o a1 a2 h = jrun (j_C []) 4 cd_L_blank (j_T []) 32 0 [some (.ref o), some (.int a1), some (.int a2)] [] h := rfl
theorem hc_L_blank (F : Nat × Nat) : jCok (0 + 0 * F.2) (j_C []) := jC_ok (fun _ h => absurd h List.not_mem_nil)
theorem k_L_blank (F : Nat × Nat) (o : Nat) (a1 : Int32) (a2 : Int32) (h : jH) (r : Option Value) (h1 : jH) (e : m_L_blank F o a1 a2 h = some (r, h1)) : jM1 (0 + 0 * F.2) 91 [.ref o, .int a1, .int a2] h r h1 := jM_of (M := M_L_blank) mok_L_blank (by decide +kernel) (by decide +kernel) (Or.inr (Or.inr (Or.inr (Or.inr ⟨rfl, rfl⟩)))) (fun q => nomatch q) (jrun_ok ok_L_blank (hc_L_blank F) (jT_ok (fun _ h => absurd h List.not_mem_nil)) 32 0) (List.all_eq_true.mp rfl) (Nat.le_of_ble_eq_true rfl) (fun E => Nat.le_of_ble_eq_true rfl) ((e_L_blank F o a1 a2 h).symm.trans e)
theorem co_L_blank (F : Nat × Nat) : jc_ok (0 + 0 * F.2 + 1) 91 (c_L_blank F) := by
  intro as h k out e
  unfold c_L_blank at e
  split at e
  · obtain ⟨a0, rfl, e1⟩ := js_rv e
    obtain ⟨hg, e2⟩ := js_if e1
    obtain ⟨h1, hm, e3⟩ := js_jbV e2
    exact ⟨_, _, _, Nat.le_refl _, k_L_blank F _ _ _ _ _ _ hm, ⟨fun _ => ⟨_, _, rfl, Or.inl ⟨2, by decide, hg, by decide +kernel⟩⟩, fun q => absurd q (by decide +kernel)⟩, e3⟩
  · cases e
def c_L_mark (F : Nat × Nat) : jc1 := fun args h k => match args with
  | [w0, .int a1, .int a2, .int a3] => j_rv w0 fun a0 => if j_k h a0 = 12 then (jbV (m_L_mark F a0 a1 a2 a3 h) fun h => k none h) else none
  | _ => none
set_option maxRecDepth 100000 in
theorem e_L_mark (F : Nat × Nat) (o : Nat) (a1 : Int32) (a2 : Int32) (a3 : Int32) (h : jH) : m_L_mark F o a1 a2 a3 h = jrun (j_C [(91, c_L_blank F)]) 4 cd_L_mark (j_T []) 33 0 [some (.ref o), some (.int a1), some (.int a2), some (.int a3)] [] h := rfl
theorem hc_L_mark (F : Nat × Nat) : jCok (1 + 0 * F.2) (j_C [(91, c_L_blank F)]) := jC_ok (List.forall_mem_cons.mpr ⟨(co_L_blank F).up (by omega), fun _ h => absurd h List.not_mem_nil⟩)
theorem k_L_mark (F : Nat × Nat) (o : Nat) (a1 : Int32) (a2 : Int32) (a3 : Int32) (h : jH) (r : Option Value) (h1 : jH) (e : m_L_mark F o a1 a2 a3 h = some (r, h1)) : jM1 (1 + 0 * F.2) 90 [.ref o, .int a1, .int a2, .int a3] h r h1 := jM_of (M := M_L_mark) mok_L_mark (by decide +kernel) (by decide +kernel) (Or.inr (Or.inr (Or.inr (Or.inr ⟨rfl, rfl⟩)))) (fun q => nomatch q) (jrun_ok ok_L_mark (hc_L_mark F) (jT_ok (fun _ h => absurd h List.not_mem_nil)) 33 0) (List.all_eq_true.mp rfl) (Nat.le_of_ble_eq_true rfl) (fun E => Nat.le_of_ble_eq_true rfl) ((e_L_mark F o a1 a2 a3 h).symm.trans e)
theorem co_L_mark (F : Nat × Nat) : jc_ok (1 + 0 * F.2 + 1) 90 (c_L_mark F) := by
  intro as h k out e
  unfold c_L_mark at e
  split at e
  · obtain ⟨a0, rfl, e1⟩ := js_rv e
    obtain ⟨hg, e2⟩ := js_if e1
    obtain ⟨h1, hm, e3⟩ := js_jbV e2
    exact ⟨_, _, _, Nat.le_refl _, k_L_mark F _ _ _ _ _ _ _ hm, ⟨fun _ => ⟨_, _, rfl, Or.inl ⟨2, by decide, hg, by decide +kernel⟩⟩, fun q => absurd q (by decide +kernel)⟩, e3⟩
  · cases e
def r_L_comeTo_17 (g : Nat → Int32 → Int32 → Int32 → jH → Option jO) : jL → List Value → jH → Option jO := fun L S h => match L, S with
  | [some (.ref v0), some (.int v1), _, _, some (.int v4), some (.int v5)], [] => g v0 v1 v4 v5 h
  | _, _ => none
def c_L_comeTo (F : Nat × Nat) : jc1 := fun args h k => match args with
  | [w0, .int a1, .int a2, .int a3] => j_rv w0 fun a0 => if j_k h a0 = 12 then (jbV (m_L_comeTo F a0 a1 a2 a3 h) fun h => k none h) else none
  | _ => none
set_option maxRecDepth 100000 in
theorem e_L_comeTo_17 (F : Nat × Nat) (f : Nat) (v0 : Nat) (v1 : Int32) (v4 : Int32) (v5 : Int32) (u1 : Option Value) (u2 : Option Value) (h : jH) : m_L_comeTo_17 F (f + 1) v0 v1 v4 v5 h = jst (j_C [(88, c_F_cellsInSight F), (90, c_L_mark F)]) 4 (cd_L_comeTo 17) [some (.ref v0), some (.int v1), u1, u2, some (.int v4), some (.int v5)] [] h (jrun (j_C [(88, c_F_cellsInSight F), (90, c_L_mark F)]) 4 cd_L_comeTo (j_T [(17, r_L_comeTo_17 (m_L_comeTo_17 F f))]) 37) := rfl
set_option maxRecDepth 100000 in
theorem e_L_comeTo (F : Nat × Nat) (o : Nat) (a1 : Int32) (a2 : Int32) (a3 : Int32) (h : jH) : m_L_comeTo F o a1 a2 a3 h = jrun (j_C [(88, c_F_cellsInSight F), (90, c_L_mark F)]) 4 cd_L_comeTo (j_T [(17, r_L_comeTo_17 (m_L_comeTo_17 F F.1))]) 37 0 [some (.ref o), some (.int a1), some (.int a2), some (.int a3), none, none] [] h := rfl
theorem hc_L_comeTo (F : Nat × Nat) : jCok (2 + 0 * F.2) (j_C [(88, c_F_cellsInSight F), (90, c_L_mark F)]) := jC_ok (List.forall_mem_cons.mpr ⟨(co_F_cellsInSight F).up (by omega), List.forall_mem_cons.mpr ⟨(co_L_mark F).up (by omega), fun _ h => absurd h List.not_mem_nil⟩⟩)
theorem g_L_comeTo_17 (F : Nat × Nat) : ∀ f, jG M_L_comeTo (2 + 0 * F.2) 17 (r_L_comeTo_17 (m_L_comeTo_17 F f))
  | 0 => jG.no (fun L S h => by unfold r_L_comeTo_17; split <;> rfl)
  | f + 1 => (jst_ok ok_L_comeTo (hc_L_comeTo F) (jrun_ok ok_L_comeTo (hc_L_comeTo F) (jT_ok (List.forall_mem_cons.mpr ⟨g_L_comeTo_17 F f, fun _ h => absurd h List.not_mem_nil⟩)) 37) 17).of (fun L S h out e => by unfold r_L_comeTo_17 at e; split at e; exact (e_L_comeTo_17 F f _ _ _ _ _ _ _).symm.trans e; cases e)
theorem k_L_comeTo (F : Nat × Nat) (o : Nat) (a1 : Int32) (a2 : Int32) (a3 : Int32) (h : jH) (r : Option Value) (h1 : jH) (e : m_L_comeTo F o a1 a2 a3 h = some (r, h1)) : jM1 (2 + 0 * F.2) 87 [.ref o, .int a1, .int a2, .int a3] h r h1 := jM_of (M := M_L_comeTo) mok_L_comeTo (by decide +kernel) (by decide +kernel) (Or.inr (Or.inr (Or.inr (Or.inr ⟨rfl, rfl⟩)))) (fun q => nomatch q) (jrun_ok ok_L_comeTo (hc_L_comeTo F) (jT_ok (List.forall_mem_cons.mpr ⟨g_L_comeTo_17 F F.1, fun _ h => absurd h List.not_mem_nil⟩)) 37 0) (List.all_eq_true.mp rfl) (Nat.le_of_ble_eq_true rfl) (fun E => Nat.le_of_ble_eq_true rfl) ((e_L_comeTo F o a1 a2 a3 h).symm.trans e)
theorem co_L_comeTo (F : Nat × Nat) : jc_ok (2 + 0 * F.2 + 1) 87 (c_L_comeTo F) := by
  intro as h k out e
  unfold c_L_comeTo at e
  split at e
  · obtain ⟨a0, rfl, e1⟩ := js_rv e
    obtain ⟨hg, e2⟩ := js_if e1
    obtain ⟨h1, hm, e3⟩ := js_jbV e2
    exact ⟨_, _, _, Nat.le_refl _, k_L_comeTo F _ _ _ _ _ _ _ hm, ⟨fun _ => ⟨_, _, rfl, Or.inl ⟨2, by decide, hg, by decide +kernel⟩⟩, fun q => absurd q (by decide +kernel)⟩, e3⟩
  · cases e
def c_F_tryStep (F : Nat × Nat) : jc1 := fun args h k => match args with
  | [w0, .int a1, .int a2] => j_rv w0 fun a0 => if j_k h a0 = 10 then (jbI (m_F_tryStep F a0 a1 a2 h) fun r h => k (some (.int r)) h) else none
  | _ => none
set_option maxRecDepth 100000 in
theorem e_F_tryStep (F : Nat × Nat) (o : Nat) (a1 : Int32) (a2 : Int32) (h : jH) : m_F_tryStep F o a1 a2 h = jrun (j_C [(19, c_L_hasWalker F), (21, c_L_lawInForce F), (24, c_U_sight F), (36, c_F_isWayAside F), (37, c_F_neighbour F), (38, c_U_cost F), (39, c_U_bars F), (86, c_D_add F), (87, c_L_comeTo F)]) 0 cd_F_tryStep (j_T []) 79 0 [some (.ref o), some (.int a1), some (.int a2), none, none, none, none] [] h := rfl
theorem hc_F_tryStep (F : Nat × Nat) : jCok (4 + 0 * F.2) (j_C [(19, c_L_hasWalker F), (21, c_L_lawInForce F), (24, c_U_sight F), (36, c_F_isWayAside F), (37, c_F_neighbour F), (38, c_U_cost F), (39, c_U_bars F), (86, c_D_add F), (87, c_L_comeTo F)]) := jC_ok (List.forall_mem_cons.mpr ⟨(co_L_hasWalker F).up (by omega), List.forall_mem_cons.mpr ⟨(co_L_lawInForce F).up (by omega), List.forall_mem_cons.mpr ⟨(co_U_sight F).up (by omega), List.forall_mem_cons.mpr ⟨(co_F_isWayAside F).up (by omega), List.forall_mem_cons.mpr ⟨(co_F_neighbour F).up (by omega), List.forall_mem_cons.mpr ⟨(co_U_cost F).up (by omega), List.forall_mem_cons.mpr ⟨(co_U_bars F).up (by omega), List.forall_mem_cons.mpr ⟨(co_D_add F).up (by omega), List.forall_mem_cons.mpr ⟨(co_L_comeTo F).up (by omega), fun _ h => absurd h List.not_mem_nil⟩⟩⟩⟩⟩⟩⟩⟩⟩)
theorem k_F_tryStep (F : Nat × Nat) (o : Nat) (a1 : Int32) (a2 : Int32) (h : jH) (r : Option Value) (h1 : jH) (e : m_F_tryStep F o a1 a2 h = some (r, h1)) : jM1 (4 + 0 * F.2) 85 [.ref o, .int a1, .int a2] h r h1 := jM_of (M := M_F_tryStep) mok_F_tryStep (by decide +kernel) (by decide +kernel) (Or.inl ⟨rfl, rfl⟩) (fun q => nomatch q) (jrun_ok ok_F_tryStep (hc_F_tryStep F) (jT_ok (fun _ h => absurd h List.not_mem_nil)) 79 0) (List.all_eq_true.mp rfl) (Nat.le_of_ble_eq_true rfl) (fun E => Nat.le_of_ble_eq_true rfl) ((e_F_tryStep F o a1 a2 h).symm.trans e)
theorem co_F_tryStep (F : Nat × Nat) : jc_ok (4 + 0 * F.2 + 1) 85 (c_F_tryStep F) := by
  intro as h k out e
  unfold c_F_tryStep at e
  split at e
  · obtain ⟨a0, rfl, e1⟩ := js_rv e
    obtain ⟨hg, e2⟩ := js_if e1
    obtain ⟨r, h1, hm, e3⟩ := js_jbI e2
    exact ⟨_, _, _, Nat.le_refl _, k_F_tryStep F _ _ _ _ _ _ hm, ⟨fun _ => ⟨_, _, rfl, Or.inl ⟨0, by decide, hg, by decide +kernel⟩⟩, fun q => absurd q (by decide +kernel)⟩, e3⟩
  · cases e
def r_L_joinSheets_36 (g : Nat → Int32 → Int32 → Int32 → Int32 → Int32 → jH → Option jO) : jL → List Value → jH → Option jO := fun L S h => match L, S with
  | [some (.ref v0), some (.int v1), some (.int v2), some (.int v3), some (.int v4), some (.int v5)], [] => g v0 v1 v2 v3 v4 v5 h
  | _, _ => none
def c_L_joinSheets (F : Nat × Nat) : jc1 := fun args h k => match args with
  | [w0, .int a1, .int a2] => j_rv w0 fun a0 => if j_k h a0 = 12 then (jbI (m_L_joinSheets F a0 a1 a2 h) fun r h => k (some (.int r)) h) else none
  | _ => none
set_option maxRecDepth 100000 in
theorem e_L_joinSheets_36 (F : Nat × Nat) (f : Nat) (v0 : Nat) (v1 : Int32) (v2 : Int32) (v3 : Int32) (v4 : Int32) (v5 : Int32) (h : jH) : m_L_joinSheets_36 F (f + 1) v0 v1 v2 v3 v4 v5 h = jst (j_C [(20, c_Ji_bitCount F), (34, c_L_kindOnSheet F), (90, c_L_mark F)]) 0 (cd_L_joinSheets 36) [some (.ref v0), some (.int v1), some (.int v2), some (.int v3), some (.int v4), some (.int v5)] [] h (jrun (j_C [(20, c_Ji_bitCount F), (34, c_L_kindOnSheet F), (90, c_L_mark F)]) 0 cd_L_joinSheets (j_T [(36, r_L_joinSheets_36 (m_L_joinSheets_36 F f))]) 73) := rfl
set_option maxRecDepth 100000 in
theorem e_L_joinSheets (F : Nat × Nat) (o : Nat) (a1 : Int32) (a2 : Int32) (h : jH) : m_L_joinSheets F o a1 a2 h = jrun (j_C [(20, c_Ji_bitCount F), (34, c_L_kindOnSheet F), (90, c_L_mark F)]) 0 cd_L_joinSheets (j_T [(36, r_L_joinSheets_36 (m_L_joinSheets_36 F F.1))]) 73 0 [some (.ref o), some (.int a1), some (.int a2), none, none, none] [] h := rfl
theorem hc_L_joinSheets (F : Nat × Nat) : jCok (2 + 0 * F.2) (j_C [(20, c_Ji_bitCount F), (34, c_L_kindOnSheet F), (90, c_L_mark F)]) := jC_ok (List.forall_mem_cons.mpr ⟨(co_Ji_bitCount F).up (by omega), List.forall_mem_cons.mpr ⟨(co_L_kindOnSheet F).up (by omega), List.forall_mem_cons.mpr ⟨(co_L_mark F).up (by omega), fun _ h => absurd h List.not_mem_nil⟩⟩⟩)
theorem g_L_joinSheets_36 (F : Nat × Nat) : ∀ f, jG M_L_joinSheets (2 + 0 * F.2) 36 (r_L_joinSheets_36 (m_L_joinSheets_36 F f))
  | 0 => jG.no (fun L S h => by unfold r_L_joinSheets_36; split <;> rfl)
  | f + 1 => (jst_ok ok_L_joinSheets (hc_L_joinSheets F) (jrun_ok ok_L_joinSheets (hc_L_joinSheets F) (jT_ok (List.forall_mem_cons.mpr ⟨g_L_joinSheets_36 F f, fun _ h => absurd h List.not_mem_nil⟩)) 73) 36).of (fun L S h out e => by unfold r_L_joinSheets_36 at e; split at e; exact (e_L_joinSheets_36 F f _ _ _ _ _ _ _).symm.trans e; cases e)
theorem k_L_joinSheets (F : Nat × Nat) (o : Nat) (a1 : Int32) (a2 : Int32) (h : jH) (r : Option Value) (h1 : jH) (e : m_L_joinSheets F o a1 a2 h = some (r, h1)) : jM1 (2 + 0 * F.2) 93 [.ref o, .int a1, .int a2] h r h1 := jM_of (M := M_L_joinSheets) mok_L_joinSheets (by decide +kernel) (by decide +kernel) (Or.inl ⟨rfl, rfl⟩) (fun q => nomatch q) (jrun_ok ok_L_joinSheets (hc_L_joinSheets F) (jT_ok (List.forall_mem_cons.mpr ⟨g_L_joinSheets_36 F F.1, fun _ h => absurd h List.not_mem_nil⟩)) 73 0) (List.all_eq_true.mp rfl) (Nat.le_of_ble_eq_true rfl) (fun E => Nat.le_of_ble_eq_true rfl) ((e_L_joinSheets F o a1 a2 h).symm.trans e)
theorem co_L_joinSheets (F : Nat × Nat) : jc_ok (2 + 0 * F.2 + 1) 93 (c_L_joinSheets F) := by
  intro as h k out e
  unfold c_L_joinSheets at e
  split at e
  · obtain ⟨a0, rfl, e1⟩ := js_rv e
    obtain ⟨hg, e2⟩ := js_if e1
    obtain ⟨r, h1, hm, e3⟩ := js_jbI e2
    exact ⟨_, _, _, Nat.le_refl _, k_L_joinSheets F _ _ _ _ _ _ hm, ⟨fun _ => ⟨_, _, rfl, Or.inl ⟨2, by decide, hg, by decide +kernel⟩⟩, fun q => absurd q (by decide +kernel)⟩, e3⟩
  · cases e
def c_F_tryJoin (F : Nat × Nat) : jc1 := fun args h k => match args with
  | [w0, .int a1, .int a2] => j_rv w0 fun a0 => if j_k h a0 = 10 then (jbI (m_F_tryJoin F a0 a1 a2 h) fun r h => k (some (.int r)) h) else none
  | _ => none
set_option maxRecDepth 100000 in
theorem e_F_tryJoin (F : Nat × Nat) (o : Nat) (a1 : Int32) (a2 : Int32) (h : jH) : m_F_tryJoin F o a1 a2 h = jrun (j_C [(19, c_L_hasWalker F), (86, c_D_add F), (93, c_L_joinSheets F)]) 0 cd_F_tryJoin (j_T []) 49 0 [some (.ref o), some (.int a1), some (.int a2)] [] h := rfl
theorem hc_F_tryJoin (F : Nat × Nat) : jCok (3 + 0 * F.2) (j_C [(19, c_L_hasWalker F), (86, c_D_add F), (93, c_L_joinSheets F)]) := jC_ok (List.forall_mem_cons.mpr ⟨(co_L_hasWalker F).up (by omega), List.forall_mem_cons.mpr ⟨(co_D_add F).up (by omega), List.forall_mem_cons.mpr ⟨(co_L_joinSheets F).up (by omega), fun _ h => absurd h List.not_mem_nil⟩⟩⟩)
theorem k_F_tryJoin (F : Nat × Nat) (o : Nat) (a1 : Int32) (a2 : Int32) (h : jH) (r : Option Value) (h1 : jH) (e : m_F_tryJoin F o a1 a2 h = some (r, h1)) : jM1 (3 + 0 * F.2) 92 [.ref o, .int a1, .int a2] h r h1 := jM_of (M := M_F_tryJoin) mok_F_tryJoin (by decide +kernel) (by decide +kernel) (Or.inl ⟨rfl, rfl⟩) (fun q => nomatch q) (jrun_ok ok_F_tryJoin (hc_F_tryJoin F) (jT_ok (fun _ h => absurd h List.not_mem_nil)) 49 0) (List.all_eq_true.mp rfl) (Nat.le_of_ble_eq_true rfl) (fun E => Nat.le_of_ble_eq_true rfl) ((e_F_tryJoin F o a1 a2 h).symm.trans e)
theorem co_F_tryJoin (F : Nat × Nat) : jc_ok (3 + 0 * F.2 + 1) 92 (c_F_tryJoin F) := by
  intro as h k out e
  unfold c_F_tryJoin at e
  split at e
  · obtain ⟨a0, rfl, e1⟩ := js_rv e
    obtain ⟨hg, e2⟩ := js_if e1
    obtain ⟨r, h1, hm, e3⟩ := js_jbI e2
    exact ⟨_, _, _, Nat.le_refl _, k_F_tryJoin F _ _ _ _ _ _ hm, ⟨fun _ => ⟨_, _, rfl, Or.inl ⟨0, by decide, hg, by decide +kernel⟩⟩, fun q => absurd q (by decide +kernel)⟩, e3⟩
  · cases e
