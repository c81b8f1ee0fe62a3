/-! THE LAW'S LOOP (written by gen9.py) -/
def scr (h : jH) (L : Nat) (xs : Nat → Int32) : Prop := j_k h 2 = 6 ∧ j_n h 2 = L ∧ ∀ i, j_I h 2 i = xs i
theorem scr.Y {h h' : jH} {L : Nat} {xs : Nat → Int32} (S : scr h L xs) (c : 110 < j_c h) (y : jY h h') : scr h' L xs := ⟨by rw [(y.1 2 (by omega)).1]; exact S.1, by rw [(y.1 2 (by omega)).2]; exact S.2.1, fun i => by rw [(y.2.1 2 i (Or.inl rfl) (by omega)).1]; exact S.2.2 i⟩
theorem scr.X {h h' : jH} {L : Nat} {xs : Nat → Int32} (S : scr h L xs) (x : jX dMM jN h h') : scr h' L xs := ⟨by rw [x.k]; exact S.1, by rw [x.n]; exact S.2.1, fun i => by rw [x.I (fun z => by unfold dMM at z; omega)]; exact S.2.2 i⟩
/-- one call by both -/
theorem cal_I {m c : jH → Option jO} {s : St} (A : Alk m c s) {h : jH} (M : MJ h s) (C : CJ h s) {L : Nat} {xs : Nat → Int32} (S : scr h L xs) : ∃ (r : Int32) (h5 h7 : jH) (s' : St), c h = some (some (.int r), h5) ∧ m h5 = some (some (.int r), h7) ∧ MJ h7 s' ∧ CJ h7 s' ∧ WJ s' ∧ scr h5 L xs ∧ scr h7 L xs ∧ j_k h5 85 = 17 ∧ j_c h7 ≤ j_c h + 12 ∧ j_z h7 ≤ j_z h + 700 := by
  obtain ⟨r, s', w', hm, hcl⟩ := A
  obtain ⟨h5, e5, C5, y5⟩ := hcl h C
  have cc : 110 < j_c h := C.2.1
  have M5 : MJ h5 s := MI.frY M cc y5
  obtain ⟨h7, e7, M7, x7⟩ := hm h5 M5
  exact ⟨r, h5, h7, s', e5, e7, M7, CI.frM C5 x7, w', S.Y cc y5, (S.Y cc y5).X x7, sm_k85 M5.S, by rw [x7.2.1]; exact y5.2.2.2.1, by rw [x7.2.2.1]; exact y5.2.2.2.2⟩
theorem cal_J {m c : jH → Option jO} {s : St} (A : AlkL m c s) {h : jH} (M : MJ h s) (C : CJ h s) {L : Nat} {xs : Nat → Int32} (S : scr h L xs) : ∃ (r : Int64) (h5 h7 : jH) (s' : St), c h = some (some (.long r), h5) ∧ m h5 = some (some (.long r), h7) ∧ MJ h7 s' ∧ CJ h7 s' ∧ WJ s' ∧ scr h5 L xs ∧ scr h7 L xs ∧ j_k h5 85 = 17 ∧ j_c h7 ≤ j_c h + 12 ∧ j_z h7 ≤ j_z h + 700 := by
  obtain ⟨r, s', w', hm, hcl⟩ := A
  obtain ⟨h5, e5, C5, y5⟩ := hcl h C
  have cc : 110 < j_c h := C.2.1
  have M5 : MJ h5 s := MI.frY M cc y5
  obtain ⟨h7, e7, M7, x7⟩ := hm h5 M5
  exact ⟨r, h5, h7, s', e5, e7, M7, CI.frM C5 x7, w', S.Y cc y5, (S.Y cc y5).X x7, sm_k85 M5.S, by rw [x7.2.1]; exact y5.2.2.2.1, by rw [x7.2.2.1]; exact y5.2.2.2.2⟩
theorem lgc (x : Int64) : lg_cmp x x = (0 : Int32) := by
  unfold lg_cmp
  simp
theorem scr_in {h : jH} {L : Nat} {xs : Nat → Int32} (S : scr h L xs) {j : Nat} (hj : j + 6 ≤ L) (hL : L ≤ 3072) (i : Nat) (hi : i ≤ 5) {x : Int32} (e : x = nI i) : j_in h 2 (nI j + x) := by
  rw [e, show nI j + nI i = nI (j + i) from by simp (disch := first | exact sR_rfl _ _ rfl | omega) only [ft_lit, ft_m1, ft_m2, ft_m3, ft_m5, ft_m6, ft_cl, ft_lt, ft_le, ft_eq, ft_mlt, ft_ltm, ft_mltm, ft_meq, ft_eqm, ft_meqm, ft_add, ft_mul, ft_sub, ft_nm, ft_m1p, ft_and, ft_or, ft_31, ft_shl, ft_shr, ft_bz, ft_z0, ft_z1, ft_z01, ft_bb, ft_zt, ft_zf, ft_or0, ft_rv, ft_rvr, ft_rf, ft_rfn, ft_bI, ft_bJ, ft_bV, ft_bR, ft_bRn, ft_isr, ft_isn, ft_ifn, ft_ifr, ft_ov, ft_ovn, ft_in, k_sI, n_sI, R_sI, J_sI, c_sI, z_sI, k_sJ, n_sJ, R_sJ, I_sJ, c_sJ, z_sJ, k_sR, n_sR, I_sR, J_sR, c_sR, z_sR, k_wI, n_wI, R_wI, J_wI, I_wIe, k_wJ, n_wJ, R_wJ, I_wJ, J_wJe, I_wIn, J_wJn, I_sIe, J_sJe, R_sRe, I_sIn, I_sIk, J_sJn, J_sJk, R_sRn, R_sRk, eq_self, if_true, if_false, ↓reduceIte, cond_true, cond_false, ↓cond_eq_ite, and_true, true_and, and_false, false_and, or_true, true_or, or_false, false_or, not_true_eq_false, not_false_eq_true, ft_ltT, ft_ltF, ft_eqT, ft_eqF, Bool.false_eq_true, Bool.true_eq_false, Bool.not_true, Bool.not_false, Bool.and_true, Bool.true_and, Bool.and_false, Bool.false_and, decide_true, decide_false, Nat.reduceAdd, Nat.reduceMul, Nat.reduceSub, Nat.reduceEqDiff, Nat.reduceLT, Nat.zero_add, Nat.add_zero, Nat.reduceDiv, Nat.reduceMod], ft_in (by omega), S.2.1]
  omega
theorem lw_0 {F : Nat × Nat} (hF : FF F) {h : jH} {s : St} (w : WJ s) (M : MJ h s) (C : CJ h s) {L : Nat} {xs : Nat → Int32} (S : scr h L xs) {j : Nat} (hj : j + 6 ≤ L) (hL : L ≤ 3072) (k18 : Nat → Nat → Nat → Int32 → jH → Option jO) : ∃ h7 s', (if (j_k h 2 = 0 ∨ j_k h 2 = 6) ∧ j_in h 2 (nI j + (1 : Int32)) then (if (j_k h 2 = 0 ∨ j_k h 2 = 6) ∧ j_in h 2 (nI j + (2 : Int32)) then (if (j_k h 2 = 0 ∨ j_k h 2 = 6) ∧ j_in h 2 (nI j + (3 : Int32)) then (if j_k h 4 = 10 then (jbI (m_F_cell F 4 (j_I h 2 (nI j + (1 : Int32)).toNatClampNeg) (j_I h 2 (nI j + (2 : Int32)).toNatClampNeg) (j_I h 2 (nI j + (3 : Int32)).toNatClampNeg) h) fun r6 h5 => if (j_k h5 2 = 0 ∨ j_k h5 2 = 6) ∧ j_in h5 2 (nI j + (1 : Int32)) then (if (j_k h5 2 = 0 ∨ j_k h5 2 = 6) ∧ j_in h5 2 (nI j + (2 : Int32)) then (if (j_k h5 2 = 0 ∨ j_k h5 2 = 6) ∧ j_in h5 2 (nI j + (3 : Int32)) then (if j_k h5 85 = 17 then (jbI (m_M_cell F 85 (j_I h5 2 (nI j + (1 : Int32)).toNatClampNeg) (j_I h5 2 (nI j + (2 : Int32)).toNatClampNeg) (j_I h5 2 (nI j + (3 : Int32)).toNatClampNeg) h5) fun r8 h7 => if r6 = r8 then (k18 2 4 85 (nI j + (6 : Int32)) h7) else some (some (.int (0 : Int32)), h7)) else none) else none) else none) else none) else none) else none) else none) else none) = k18 2 4 85 (nI j + (6 : Int32)) h7 ∧ MJ h7 s' ∧ CJ h7 s' ∧ WJ s' ∧ scr h7 L xs ∧ j_c h7 ≤ j_c h + 12 ∧ j_z h7 ≤ j_z h + 700 := by
  obtain ⟨r, h5, h7, s', e5, e7, M7, C7, w', S5, S7, k5, c7, z7⟩ := cal_I (K_cell (F := F) w (j_I h 2 (nI j + (1 : Int32)).toNatClampNeg) (j_I h 2 (nI j + (2 : Int32)).toNatClampNeg) (j_I h 2 (nI j + (3 : Int32)).toNatClampNeg)) M C S
  refine ⟨h7, s', ?_, M7, C7, w', S7, c7, z7⟩
  rw [if_pos (show (j_k h 2 = 0 ∨ j_k h 2 = 6) ∧ j_in h 2 (nI j + (1 : Int32)) from ⟨Or.inr S.1, scr_in S hj hL 1 (by omega) rfl⟩)]
  rw [if_pos (show (j_k h 2 = 0 ∨ j_k h 2 = 6) ∧ j_in h 2 (nI j + (2 : Int32)) from ⟨Or.inr S.1, scr_in S hj hL 2 (by omega) rfl⟩)]
  rw [if_pos (show (j_k h 2 = 0 ∨ j_k h 2 = 6) ∧ j_in h 2 (nI j + (3 : Int32)) from ⟨Or.inr S.1, scr_in S hj hL 3 (by omega) rfl⟩)]
  rw [if_pos (sf_k4 C.S), bI_of e5]
  rw [if_pos (show (j_k h5 2 = 0 ∨ j_k h5 2 = 6) ∧ j_in h5 2 (nI j + (1 : Int32)) from ⟨Or.inr S5.1, scr_in S5 hj hL 1 (by omega) rfl⟩)]
  rw [if_pos (show (j_k h5 2 = 0 ∨ j_k h5 2 = 6) ∧ j_in h5 2 (nI j + (2 : Int32)) from ⟨Or.inr S5.1, scr_in S5 hj hL 2 (by omega) rfl⟩)]
  rw [if_pos (show (j_k h5 2 = 0 ∨ j_k h5 2 = 6) ∧ j_in h5 2 (nI j + (3 : Int32)) from ⟨Or.inr S5.1, scr_in S5 hj hL 3 (by omega) rfl⟩)]
  have ee : ∀ i, j_I h5 2 i = j_I h 2 i := fun i => (S5.2.2 i).trans (S.2.2 i).symm
  simp only [ee]
  rw [if_pos k5, bI_of e7, if_pos rfl]
theorem lw_1 {F : Nat × Nat} (hF : FF F) {h : jH} {s : St} (w : WJ s) (M : MJ h s) (C : CJ h s) {L : Nat} {xs : Nat → Int32} (S : scr h L xs) {j : Nat} (hj : j + 6 ≤ L) (hL : L ≤ 3072) (k18 : Nat → Nat → Nat → Int32 → jH → Option jO) : ∃ h7 s', (if (j_k h 2 = 0 ∨ j_k h 2 = 6) ∧ j_in h 2 (nI j + (1 : Int32)) then (if (j_k h 2 = 0 ∨ j_k h 2 = 6) ∧ j_in h 2 (nI j + (2 : Int32)) then (if j_k h 4 = 10 then (jbI (m_F_land F 4 (j_I h 2 (nI j + (1 : Int32)).toNatClampNeg) (j_I h 2 (nI j + (2 : Int32)).toNatClampNeg) h) fun r10 h9 => if (j_k h9 2 = 0 ∨ j_k h9 2 = 6) ∧ j_in h9 2 (nI j + (1 : Int32)) then (if (j_k h9 2 = 0 ∨ j_k h9 2 = 6) ∧ j_in h9 2 (nI j + (2 : Int32)) then (if j_k h9 85 = 17 then (jbI (m_M_land F 85 (j_I h9 2 (nI j + (1 : Int32)).toNatClampNeg) (j_I h9 2 (nI j + (2 : Int32)).toNatClampNeg) h9) fun r12 h11 => if r10 = r12 then (k18 2 4 85 (nI j + (6 : Int32)) h11) else some (some (.int (0 : Int32)), h11)) else none) else none) else none) else none) else none) else none) = k18 2 4 85 (nI j + (6 : Int32)) h7 ∧ MJ h7 s' ∧ CJ h7 s' ∧ WJ s' ∧ scr h7 L xs ∧ j_c h7 ≤ j_c h + 12 ∧ j_z h7 ≤ j_z h + 700 := by
  obtain ⟨r, h5, h7, s', e5, e7, M7, C7, w', S5, S7, k5, c7, z7⟩ := cal_I (K_land (F := F) hF w (j_I h 2 (nI j + (1 : Int32)).toNatClampNeg) (j_I h 2 (nI j + (2 : Int32)).toNatClampNeg)) M C S
  refine ⟨h7, s', ?_, M7, C7, w', S7, c7, z7⟩
  rw [if_pos (show (j_k h 2 = 0 ∨ j_k h 2 = 6) ∧ j_in h 2 (nI j + (1 : Int32)) from ⟨Or.inr S.1, scr_in S hj hL 1 (by omega) rfl⟩)]
  rw [if_pos (show (j_k h 2 = 0 ∨ j_k h 2 = 6) ∧ j_in h 2 (nI j + (2 : Int32)) from ⟨Or.inr S.1, scr_in S hj hL 2 (by omega) rfl⟩)]
  rw [if_pos (sf_k4 C.S), bI_of e5]
  rw [if_pos (show (j_k h5 2 = 0 ∨ j_k h5 2 = 6) ∧ j_in h5 2 (nI j + (1 : Int32)) from ⟨Or.inr S5.1, scr_in S5 hj hL 1 (by omega) rfl⟩)]
  rw [if_pos (show (j_k h5 2 = 0 ∨ j_k h5 2 = 6) ∧ j_in h5 2 (nI j + (2 : Int32)) from ⟨Or.inr S5.1, scr_in S5 hj hL 2 (by omega) rfl⟩)]
  have ee : ∀ i, j_I h5 2 i = j_I h 2 i := fun i => (S5.2.2 i).trans (S.2.2 i).symm
  simp only [ee]
  rw [if_pos k5, bI_of e7, if_pos rfl]
theorem lw_2 {F : Nat × Nat} (hF : FF F) {h : jH} {s : St} (w : WJ s) (M : MJ h s) (C : CJ h s) {L : Nat} {xs : Nat → Int32} (S : scr h L xs) {j : Nat} (hj : j + 6 ≤ L) (hL : L ≤ 3072) (k18 : Nat → Nat → Nat → Int32 → jH → Option jO) : ∃ h7 s', (if (j_k h 2 = 0 ∨ j_k h 2 = 6) ∧ j_in h 2 (nI j + (1 : Int32)) then (if (j_k h 2 = 0 ∨ j_k h 2 = 6) ∧ j_in h 2 (nI j + (2 : Int32)) then (if j_k h 4 = 10 then (jbI (m_F_walker F 4 (j_I h 2 (nI j + (1 : Int32)).toNatClampNeg) (j_I h 2 (nI j + (2 : Int32)).toNatClampNeg) h) fun r14 h13 => if (j_k h13 2 = 0 ∨ j_k h13 2 = 6) ∧ j_in h13 2 (nI j + (1 : Int32)) then (if (j_k h13 2 = 0 ∨ j_k h13 2 = 6) ∧ j_in h13 2 (nI j + (2 : Int32)) then (if j_k h13 85 = 17 then (jbI (m_M_walker F 85 (j_I h13 2 (nI j + (1 : Int32)).toNatClampNeg) (j_I h13 2 (nI j + (2 : Int32)).toNatClampNeg) h13) fun r16 h15 => if r14 = r16 then (k18 2 4 85 (nI j + (6 : Int32)) h15) else some (some (.int (0 : Int32)), h15)) else none) else none) else none) else none) else none) else none) = k18 2 4 85 (nI j + (6 : Int32)) h7 ∧ MJ h7 s' ∧ CJ h7 s' ∧ WJ s' ∧ scr h7 L xs ∧ j_c h7 ≤ j_c h + 12 ∧ j_z h7 ≤ j_z h + 700 := by
  obtain ⟨r, h5, h7, s', e5, e7, M7, C7, w', S5, S7, k5, c7, z7⟩ := cal_I (K_walker (F := F) hF w (j_I h 2 (nI j + (1 : Int32)).toNatClampNeg) (j_I h 2 (nI j + (2 : Int32)).toNatClampNeg)) M C S
  refine ⟨h7, s', ?_, M7, C7, w', S7, c7, z7⟩
  rw [if_pos (show (j_k h 2 = 0 ∨ j_k h 2 = 6) ∧ j_in h 2 (nI j + (1 : Int32)) from ⟨Or.inr S.1, scr_in S hj hL 1 (by omega) rfl⟩)]
  rw [if_pos (show (j_k h 2 = 0 ∨ j_k h 2 = 6) ∧ j_in h 2 (nI j + (2 : Int32)) from ⟨Or.inr S.1, scr_in S hj hL 2 (by omega) rfl⟩)]
  rw [if_pos (sf_k4 C.S), bI_of e5]
  rw [if_pos (show (j_k h5 2 = 0 ∨ j_k h5 2 = 6) ∧ j_in h5 2 (nI j + (1 : Int32)) from ⟨Or.inr S5.1, scr_in S5 hj hL 1 (by omega) rfl⟩)]
  rw [if_pos (show (j_k h5 2 = 0 ∨ j_k h5 2 = 6) ∧ j_in h5 2 (nI j + (2 : Int32)) from ⟨Or.inr S5.1, scr_in S5 hj hL 2 (by omega) rfl⟩)]
  have ee : ∀ i, j_I h5 2 i = j_I h 2 i := fun i => (S5.2.2 i).trans (S.2.2 i).symm
  simp only [ee]
  rw [if_pos k5, bI_of e7, if_pos rfl]
theorem lw_3 {F : Nat × Nat} (hF : FF F) {h : jH} {s : St} (w : WJ s) (M : MJ h s) (C : CJ h s) {L : Nat} {xs : Nat → Int32} (S : scr h L xs) {j : Nat} (hj : j + 6 ≤ L) (hL : L ≤ 3072) (k18 : Nat → Nat → Nat → Int32 → jH → Option jO) : ∃ h7 s', (if (j_k h 2 = 0 ∨ j_k h 2 = 6) ∧ j_in h 2 (nI j + (1 : Int32)) then (if (j_k h 2 = 0 ∨ j_k h 2 = 6) ∧ j_in h 2 (nI j + (2 : Int32)) then (if j_k h 4 = 10 then (jbI (m_F_of F 4 (j_I h 2 (nI j + (1 : Int32)).toNatClampNeg) (j_I h 2 (nI j + (2 : Int32)).toNatClampNeg) h) fun r18 h17 => if (j_k h17 2 = 0 ∨ j_k h17 2 = 6) ∧ j_in h17 2 (nI j + (1 : Int32)) then (if (j_k h17 2 = 0 ∨ j_k h17 2 = 6) ∧ j_in h17 2 (nI j + (2 : Int32)) then (if j_k h17 85 = 17 then (jbI (m_M_of F 85 (j_I h17 2 (nI j + (1 : Int32)).toNatClampNeg) (j_I h17 2 (nI j + (2 : Int32)).toNatClampNeg) h17) fun r20 h19 => if r18 = r20 then (k18 2 4 85 (nI j + (6 : Int32)) h19) else some (some (.int (0 : Int32)), h19)) else none) else none) else none) else none) else none) else none) = k18 2 4 85 (nI j + (6 : Int32)) h7 ∧ MJ h7 s' ∧ CJ h7 s' ∧ WJ s' ∧ scr h7 L xs ∧ j_c h7 ≤ j_c h + 12 ∧ j_z h7 ≤ j_z h + 700 := by
  obtain ⟨r, h5, h7, s', e5, e7, M7, C7, w', S5, S7, k5, c7, z7⟩ := cal_I (K_of (F := F) hF w (j_I h 2 (nI j + (1 : Int32)).toNatClampNeg) (j_I h 2 (nI j + (2 : Int32)).toNatClampNeg)) M C S
  refine ⟨h7, s', ?_, M7, C7, w', S7, c7, z7⟩
  rw [if_pos (show (j_k h 2 = 0 ∨ j_k h 2 = 6) ∧ j_in h 2 (nI j + (1 : Int32)) from ⟨Or.inr S.1, scr_in S hj hL 1 (by omega) rfl⟩)]
  rw [if_pos (show (j_k h 2 = 0 ∨ j_k h 2 = 6) ∧ j_in h 2 (nI j + (2 : Int32)) from ⟨Or.inr S.1, scr_in S hj hL 2 (by omega) rfl⟩)]
  rw [if_pos (sf_k4 C.S), bI_of e5]
  rw [if_pos (show (j_k h5 2 = 0 ∨ j_k h5 2 = 6) ∧ j_in h5 2 (nI j + (1 : Int32)) from ⟨Or.inr S5.1, scr_in S5 hj hL 1 (by omega) rfl⟩)]
  rw [if_pos (show (j_k h5 2 = 0 ∨ j_k h5 2 = 6) ∧ j_in h5 2 (nI j + (2 : Int32)) from ⟨Or.inr S5.1, scr_in S5 hj hL 2 (by omega) rfl⟩)]
  have ee : ∀ i, j_I h5 2 i = j_I h 2 i := fun i => (S5.2.2 i).trans (S.2.2 i).symm
  simp only [ee]
  rw [if_pos k5, bI_of e7, if_pos rfl]
theorem lw_4 {F : Nat × Nat} (hF : FF F) {h : jH} {s : St} (w : WJ s) (M : MJ h s) (C : CJ h s) {L : Nat} {xs : Nat → Int32} (S : scr h L xs) {j : Nat} (hj : j + 6 ≤ L) (hL : L ≤ 3072) (k18 : Nat → Nat → Nat → Int32 → jH → Option jO) : ∃ h7 s', (if (j_k h 2 = 0 ∨ j_k h 2 = 6) ∧ j_in h 2 (nI j + (1 : Int32)) then (if (j_k h 2 = 0 ∨ j_k h 2 = 6) ∧ j_in h 2 (nI j + (2 : Int32)) then (if j_k h 4 = 10 then (jbI (m_F_sheet F 4 (j_I h 2 (nI j + (1 : Int32)).toNatClampNeg) (j_I h 2 (nI j + (2 : Int32)).toNatClampNeg) h) fun r22 h21 => if (j_k h21 2 = 0 ∨ j_k h21 2 = 6) ∧ j_in h21 2 (nI j + (1 : Int32)) then (if (j_k h21 2 = 0 ∨ j_k h21 2 = 6) ∧ j_in h21 2 (nI j + (2 : Int32)) then (if j_k h21 85 = 17 then (jbI (m_M_sheet F 85 (j_I h21 2 (nI j + (1 : Int32)).toNatClampNeg) (j_I h21 2 (nI j + (2 : Int32)).toNatClampNeg) h21) fun r24 h23 => if r22 = r24 then (k18 2 4 85 (nI j + (6 : Int32)) h23) else some (some (.int (0 : Int32)), h23)) else none) else none) else none) else none) else none) else none) = k18 2 4 85 (nI j + (6 : Int32)) h7 ∧ MJ h7 s' ∧ CJ h7 s' ∧ WJ s' ∧ scr h7 L xs ∧ j_c h7 ≤ j_c h + 12 ∧ j_z h7 ≤ j_z h + 700 := by
  obtain ⟨r, h5, h7, s', e5, e7, M7, C7, w', S5, S7, k5, c7, z7⟩ := cal_I (K_sheet (F := F) w (j_I h 2 (nI j + (1 : Int32)).toNatClampNeg) (j_I h 2 (nI j + (2 : Int32)).toNatClampNeg)) M C S
  refine ⟨h7, s', ?_, M7, C7, w', S7, c7, z7⟩
  rw [if_pos (show (j_k h 2 = 0 ∨ j_k h 2 = 6) ∧ j_in h 2 (nI j + (1 : Int32)) from ⟨Or.inr S.1, scr_in S hj hL 1 (by omega) rfl⟩)]
  rw [if_pos (show (j_k h 2 = 0 ∨ j_k h 2 = 6) ∧ j_in h 2 (nI j + (2 : Int32)) from ⟨Or.inr S.1, scr_in S hj hL 2 (by omega) rfl⟩)]
  rw [if_pos (sf_k4 C.S), bI_of e5]
  rw [if_pos (show (j_k h5 2 = 0 ∨ j_k h5 2 = 6) ∧ j_in h5 2 (nI j + (1 : Int32)) from ⟨Or.inr S5.1, scr_in S5 hj hL 1 (by omega) rfl⟩)]
  rw [if_pos (show (j_k h5 2 = 0 ∨ j_k h5 2 = 6) ∧ j_in h5 2 (nI j + (2 : Int32)) from ⟨Or.inr S5.1, scr_in S5 hj hL 2 (by omega) rfl⟩)]
  have ee : ∀ i, j_I h5 2 i = j_I h 2 i := fun i => (S5.2.2 i).trans (S.2.2 i).symm
  simp only [ee]
  rw [if_pos k5, bI_of e7, if_pos rfl]
theorem lw_5 {F : Nat × Nat} (hF : FF F) {h : jH} {s : St} (w : WJ s) (M : MJ h s) (C : CJ h s) {L : Nat} {xs : Nat → Int32} (S : scr h L xs) {j : Nat} (hj : j + 6 ≤ L) (hL : L ≤ 3072) (k18 : Nat → Nat → Nat → Int32 → jH → Option jO) : ∃ h7 s', (if (j_k h 2 = 0 ∨ j_k h 2 = 6) ∧ j_in h 2 (nI j + (1 : Int32)) then (if (j_k h 2 = 0 ∨ j_k h 2 = 6) ∧ j_in h 2 (nI j + (2 : Int32)) then (if (j_k h 2 = 0 ∨ j_k h 2 = 6) ∧ j_in h 2 (nI j + (3 : Int32)) then (if j_k h 4 = 10 then (jbI (m_F_asks F 4 (j_I h 2 (nI j + (1 : Int32)).toNatClampNeg) (j_I h 2 (nI j + (2 : Int32)).toNatClampNeg) (j_I h 2 (nI j + (3 : Int32)).toNatClampNeg) h) fun r26 h25 => if (j_k h25 2 = 0 ∨ j_k h25 2 = 6) ∧ j_in h25 2 (nI j + (1 : Int32)) then (if (j_k h25 2 = 0 ∨ j_k h25 2 = 6) ∧ j_in h25 2 (nI j + (2 : Int32)) then (if (j_k h25 2 = 0 ∨ j_k h25 2 = 6) ∧ j_in h25 2 (nI j + (3 : Int32)) then (if j_k h25 85 = 17 then (jbI (m_M_asks F 85 (j_I h25 2 (nI j + (1 : Int32)).toNatClampNeg) (j_I h25 2 (nI j + (2 : Int32)).toNatClampNeg) (j_I h25 2 (nI j + (3 : Int32)).toNatClampNeg) h25) fun r28 h27 => if r26 = r28 then (k18 2 4 85 (nI j + (6 : Int32)) h27) else some (some (.int (0 : Int32)), h27)) else none) else none) else none) else none) else none) else none) else none) else none) = k18 2 4 85 (nI j + (6 : Int32)) h7 ∧ MJ h7 s' ∧ CJ h7 s' ∧ WJ s' ∧ scr h7 L xs ∧ j_c h7 ≤ j_c h + 12 ∧ j_z h7 ≤ j_z h + 700 := by
  obtain ⟨r, h5, h7, s', e5, e7, M7, C7, w', S5, S7, k5, c7, z7⟩ := cal_I (K_asks (F := F) hF w (j_I h 2 (nI j + (1 : Int32)).toNatClampNeg) (j_I h 2 (nI j + (2 : Int32)).toNatClampNeg) (j_I h 2 (nI j + (3 : Int32)).toNatClampNeg)) M C S
  refine ⟨h7, s', ?_, M7, C7, w', S7, c7, z7⟩
  rw [if_pos (show (j_k h 2 = 0 ∨ j_k h 2 = 6) ∧ j_in h 2 (nI j + (1 : Int32)) from ⟨Or.inr S.1, scr_in S hj hL 1 (by omega) rfl⟩)]
  rw [if_pos (show (j_k h 2 = 0 ∨ j_k h 2 = 6) ∧ j_in h 2 (nI j + (2 : Int32)) from ⟨Or.inr S.1, scr_in S hj hL 2 (by omega) rfl⟩)]
  rw [if_pos (show (j_k h 2 = 0 ∨ j_k h 2 = 6) ∧ j_in h 2 (nI j + (3 : Int32)) from ⟨Or.inr S.1, scr_in S hj hL 3 (by omega) rfl⟩)]
  rw [if_pos (sf_k4 C.S), bI_of e5]
  rw [if_pos (show (j_k h5 2 = 0 ∨ j_k h5 2 = 6) ∧ j_in h5 2 (nI j + (1 : Int32)) from ⟨Or.inr S5.1, scr_in S5 hj hL 1 (by omega) rfl⟩)]
  rw [if_pos (show (j_k h5 2 = 0 ∨ j_k h5 2 = 6) ∧ j_in h5 2 (nI j + (2 : Int32)) from ⟨Or.inr S5.1, scr_in S5 hj hL 2 (by omega) rfl⟩)]
  rw [if_pos (show (j_k h5 2 = 0 ∨ j_k h5 2 = 6) ∧ j_in h5 2 (nI j + (3 : Int32)) from ⟨Or.inr S5.1, scr_in S5 hj hL 3 (by omega) rfl⟩)]
  have ee : ∀ i, j_I h5 2 i = j_I h 2 i := fun i => (S5.2.2 i).trans (S.2.2 i).symm
  simp only [ee]
  rw [if_pos k5, bI_of e7, if_pos rfl]
theorem lw_6 {F : Nat × Nat} (hF : FF F) {h : jH} {s : St} (w : WJ s) (M : MJ h s) (C : CJ h s) {L : Nat} {xs : Nat → Int32} (S : scr h L xs) {j : Nat} (hj : j + 6 ≤ L) (hL : L ≤ 3072) (k18 : Nat → Nat → Nat → Int32 → jH → Option jO) : ∃ h7 s', (if (j_k h 2 = 0 ∨ j_k h 2 = 6) ∧ j_in h 2 (nI j + (1 : Int32)) then (if (j_k h 2 = 0 ∨ j_k h 2 = 6) ∧ j_in h 2 (nI j + (2 : Int32)) then (if j_k h 4 = 10 then (jbI (m_F_wants F 4 (j_I h 2 (nI j + (1 : Int32)).toNatClampNeg) (j_I h 2 (nI j + (2 : Int32)).toNatClampNeg) h) fun r30 h29 => if (j_k h29 2 = 0 ∨ j_k h29 2 = 6) ∧ j_in h29 2 (nI j + (1 : Int32)) then (if (j_k h29 2 = 0 ∨ j_k h29 2 = 6) ∧ j_in h29 2 (nI j + (2 : Int32)) then (if j_k h29 85 = 17 then (jbI (m_M_wants F 85 (j_I h29 2 (nI j + (1 : Int32)).toNatClampNeg) (j_I h29 2 (nI j + (2 : Int32)).toNatClampNeg) h29) fun r32 h31 => if r30 = r32 then (k18 2 4 85 (nI j + (6 : Int32)) h31) else some (some (.int (0 : Int32)), h31)) else none) else none) else none) else none) else none) else none) = k18 2 4 85 (nI j + (6 : Int32)) h7 ∧ MJ h7 s' ∧ CJ h7 s' ∧ WJ s' ∧ scr h7 L xs ∧ j_c h7 ≤ j_c h + 12 ∧ j_z h7 ≤ j_z h + 700 := by
  obtain ⟨r, h5, h7, s', e5, e7, M7, C7, w', S5, S7, k5, c7, z7⟩ := cal_I (K_wants (F := F) hF w (j_I h 2 (nI j + (1 : Int32)).toNatClampNeg) (j_I h 2 (nI j + (2 : Int32)).toNatClampNeg)) M C S
  refine ⟨h7, s', ?_, M7, C7, w', S7, c7, z7⟩
  rw [if_pos (show (j_k h 2 = 0 ∨ j_k h 2 = 6) ∧ j_in h 2 (nI j + (1 : Int32)) from ⟨Or.inr S.1, scr_in S hj hL 1 (by omega) rfl⟩)]
  rw [if_pos (show (j_k h 2 = 0 ∨ j_k h 2 = 6) ∧ j_in h 2 (nI j + (2 : Int32)) from ⟨Or.inr S.1, scr_in S hj hL 2 (by omega) rfl⟩)]
  rw [if_pos (sf_k4 C.S), bI_of e5]
  rw [if_pos (show (j_k h5 2 = 0 ∨ j_k h5 2 = 6) ∧ j_in h5 2 (nI j + (1 : Int32)) from ⟨Or.inr S5.1, scr_in S5 hj hL 1 (by omega) rfl⟩)]
  rw [if_pos (show (j_k h5 2 = 0 ∨ j_k h5 2 = 6) ∧ j_in h5 2 (nI j + (2 : Int32)) from ⟨Or.inr S5.1, scr_in S5 hj hL 2 (by omega) rfl⟩)]
  have ee : ∀ i, j_I h5 2 i = j_I h 2 i := fun i => (S5.2.2 i).trans (S.2.2 i).symm
  simp only [ee]
  rw [if_pos k5, bI_of e7, if_pos rfl]
theorem lw_7 {F : Nat × Nat} (hF : FF F) {h : jH} {s : St} (w : WJ s) (M : MJ h s) (C : CJ h s) {L : Nat} {xs : Nat → Int32} (S : scr h L xs) {j : Nat} (hj : j + 6 ≤ L) (hL : L ≤ 3072) (k18 : Nat → Nat → Nat → Int32 → jH → Option jO) : ∃ h7 s', (if (j_k h 2 = 0 ∨ j_k h 2 = 6) ∧ j_in h 2 (nI j + (1 : Int32)) then (if (j_k h 2 = 0 ∨ j_k h 2 = 6) ∧ j_in h 2 (nI j + (2 : Int32)) then (if j_k h 4 = 10 then (jbI (m_F_terms F 4 (j_I h 2 (nI j + (1 : Int32)).toNatClampNeg) (j_I h 2 (nI j + (2 : Int32)).toNatClampNeg) h) fun r34 h33 => if (j_k h33 2 = 0 ∨ j_k h33 2 = 6) ∧ j_in h33 2 (nI j + (1 : Int32)) then (if (j_k h33 2 = 0 ∨ j_k h33 2 = 6) ∧ j_in h33 2 (nI j + (2 : Int32)) then (if j_k h33 85 = 17 then (jbI (m_M_terms F 85 (j_I h33 2 (nI j + (1 : Int32)).toNatClampNeg) (j_I h33 2 (nI j + (2 : Int32)).toNatClampNeg) h33) fun r36 h35 => if r34 = r36 then (k18 2 4 85 (nI j + (6 : Int32)) h35) else some (some (.int (0 : Int32)), h35)) else none) else none) else none) else none) else none) else none) = k18 2 4 85 (nI j + (6 : Int32)) h7 ∧ MJ h7 s' ∧ CJ h7 s' ∧ WJ s' ∧ scr h7 L xs ∧ j_c h7 ≤ j_c h + 12 ∧ j_z h7 ≤ j_z h + 700 := by
  obtain ⟨r, h5, h7, s', e5, e7, M7, C7, w', S5, S7, k5, c7, z7⟩ := cal_I (K_terms (F := F) w (j_I h 2 (nI j + (1 : Int32)).toNatClampNeg) (j_I h 2 (nI j + (2 : Int32)).toNatClampNeg)) M C S
  refine ⟨h7, s', ?_, M7, C7, w', S7, c7, z7⟩
  rw [if_pos (show (j_k h 2 = 0 ∨ j_k h 2 = 6) ∧ j_in h 2 (nI j + (1 : Int32)) from ⟨Or.inr S.1, scr_in S hj hL 1 (by omega) rfl⟩)]
  rw [if_pos (show (j_k h 2 = 0 ∨ j_k h 2 = 6) ∧ j_in h 2 (nI j + (2 : Int32)) from ⟨Or.inr S.1, scr_in S hj hL 2 (by omega) rfl⟩)]
  rw [if_pos (sf_k4 C.S), bI_of e5]
  rw [if_pos (show (j_k h5 2 = 0 ∨ j_k h5 2 = 6) ∧ j_in h5 2 (nI j + (1 : Int32)) from ⟨Or.inr S5.1, scr_in S5 hj hL 1 (by omega) rfl⟩)]
  rw [if_pos (show (j_k h5 2 = 0 ∨ j_k h5 2 = 6) ∧ j_in h5 2 (nI j + (2 : Int32)) from ⟨Or.inr S5.1, scr_in S5 hj hL 2 (by omega) rfl⟩)]
  have ee : ∀ i, j_I h5 2 i = j_I h 2 i := fun i => (S5.2.2 i).trans (S.2.2 i).symm
  simp only [ee]
  rw [if_pos k5, bI_of e7, if_pos rfl]
theorem lw_8 {F : Nat × Nat} (hF : FF F) {h : jH} {s : St} (w : WJ s) (M : MJ h s) (C : CJ h s) {L : Nat} {xs : Nat → Int32} (S : scr h L xs) {j : Nat} (hj : j + 6 ≤ L) (hL : L ≤ 3072) (k18 : Nat → Nat → Nat → Int32 → jH → Option jO) : ∃ h7 s', (if (j_k h 2 = 0 ∨ j_k h 2 = 6) ∧ j_in h 2 (nI j + (1 : Int32)) then (if (j_k h 2 = 0 ∨ j_k h 2 = 6) ∧ j_in h 2 (nI j + (2 : Int32)) then (if (j_k h 2 = 0 ∨ j_k h 2 = 6) ∧ j_in h 2 (nI j + (3 : Int32)) then (if (j_k h 2 = 0 ∨ j_k h 2 = 6) ∧ j_in h 2 (nI j + (4 : Int32)) then (if (j_k h 2 = 0 ∨ j_k h 2 = 6) ∧ j_in h 2 (nI j + (5 : Int32)) then (if j_k h 4 = 10 then (jbI (m_F_feed F 4 (j_I h 2 (nI j + (1 : Int32)).toNatClampNeg) (j_I h 2 (nI j + (2 : Int32)).toNatClampNeg) (j_I h 2 (nI j + (3 : Int32)).toNatClampNeg) (j_I h 2 (nI j + (4 : Int32)).toNatClampNeg) (j_I h 2 (nI j + (5 : Int32)).toNatClampNeg) h) fun r38 h37 => if (j_k h37 2 = 0 ∨ j_k h37 2 = 6) ∧ j_in h37 2 (nI j + (1 : Int32)) then (if (j_k h37 2 = 0 ∨ j_k h37 2 = 6) ∧ j_in h37 2 (nI j + (2 : Int32)) then (if (j_k h37 2 = 0 ∨ j_k h37 2 = 6) ∧ j_in h37 2 (nI j + (3 : Int32)) then (if (j_k h37 2 = 0 ∨ j_k h37 2 = 6) ∧ j_in h37 2 (nI j + (4 : Int32)) then (if (j_k h37 2 = 0 ∨ j_k h37 2 = 6) ∧ j_in h37 2 (nI j + (5 : Int32)) then (if j_k h37 85 = 17 then (jbI (m_M_feed F 85 (j_I h37 2 (nI j + (1 : Int32)).toNatClampNeg) (j_I h37 2 (nI j + (2 : Int32)).toNatClampNeg) (j_I h37 2 (nI j + (3 : Int32)).toNatClampNeg) (j_I h37 2 (nI j + (4 : Int32)).toNatClampNeg) (j_I h37 2 (nI j + (5 : Int32)).toNatClampNeg) h37) fun r40 h39 => if r38 = r40 then (k18 2 4 85 (nI j + (6 : Int32)) h39) else some (some (.int (0 : Int32)), h39)) else none) else none) else none) else none) else none) else none) else none) else none) else none) else none) else none) else none) = k18 2 4 85 (nI j + (6 : Int32)) h7 ∧ MJ h7 s' ∧ CJ h7 s' ∧ WJ s' ∧ scr h7 L xs ∧ j_c h7 ≤ j_c h + 12 ∧ j_z h7 ≤ j_z h + 700 := by
  obtain ⟨r, h5, h7, s', e5, e7, M7, C7, w', S5, S7, k5, c7, z7⟩ := cal_I (K_feed (F := F) hF w (j_I h 2 (nI j + (1 : Int32)).toNatClampNeg) (j_I h 2 (nI j + (2 : Int32)).toNatClampNeg) (j_I h 2 (nI j + (3 : Int32)).toNatClampNeg) (j_I h 2 (nI j + (4 : Int32)).toNatClampNeg) (j_I h 2 (nI j + (5 : Int32)).toNatClampNeg)) M C S
  refine ⟨h7, s', ?_, M7, C7, w', S7, c7, z7⟩
  rw [if_pos (show (j_k h 2 = 0 ∨ j_k h 2 = 6) ∧ j_in h 2 (nI j + (1 : Int32)) from ⟨Or.inr S.1, scr_in S hj hL 1 (by omega) rfl⟩)]
  rw [if_pos (show (j_k h 2 = 0 ∨ j_k h 2 = 6) ∧ j_in h 2 (nI j + (2 : Int32)) from ⟨Or.inr S.1, scr_in S hj hL 2 (by omega) rfl⟩)]
  rw [if_pos (show (j_k h 2 = 0 ∨ j_k h 2 = 6) ∧ j_in h 2 (nI j + (3 : Int32)) from ⟨Or.inr S.1, scr_in S hj hL 3 (by omega) rfl⟩)]
  rw [if_pos (show (j_k h 2 = 0 ∨ j_k h 2 = 6) ∧ j_in h 2 (nI j + (4 : Int32)) from ⟨Or.inr S.1, scr_in S hj hL 4 (by omega) rfl⟩)]
  rw [if_pos (show (j_k h 2 = 0 ∨ j_k h 2 = 6) ∧ j_in h 2 (nI j + (5 : Int32)) from ⟨Or.inr S.1, scr_in S hj hL 5 (by omega) rfl⟩)]
  rw [if_pos (sf_k4 C.S), bI_of e5]
  rw [if_pos (show (j_k h5 2 = 0 ∨ j_k h5 2 = 6) ∧ j_in h5 2 (nI j + (1 : Int32)) from ⟨Or.inr S5.1, scr_in S5 hj hL 1 (by omega) rfl⟩)]
  rw [if_pos (show (j_k h5 2 = 0 ∨ j_k h5 2 = 6) ∧ j_in h5 2 (nI j + (2 : Int32)) from ⟨Or.inr S5.1, scr_in S5 hj hL 2 (by omega) rfl⟩)]
  rw [if_pos (show (j_k h5 2 = 0 ∨ j_k h5 2 = 6) ∧ j_in h5 2 (nI j + (3 : Int32)) from ⟨Or.inr S5.1, scr_in S5 hj hL 3 (by omega) rfl⟩)]
  rw [if_pos (show (j_k h5 2 = 0 ∨ j_k h5 2 = 6) ∧ j_in h5 2 (nI j + (4 : Int32)) from ⟨Or.inr S5.1, scr_in S5 hj hL 4 (by omega) rfl⟩)]
  rw [if_pos (show (j_k h5 2 = 0 ∨ j_k h5 2 = 6) ∧ j_in h5 2 (nI j + (5 : Int32)) from ⟨Or.inr S5.1, scr_in S5 hj hL 5 (by omega) rfl⟩)]
  have ee : ∀ i, j_I h5 2 i = j_I h 2 i := fun i => (S5.2.2 i).trans (S.2.2 i).symm
  simp only [ee]
  rw [if_pos k5, bI_of e7, if_pos rfl]
theorem lw_9 {F : Nat × Nat} (hF : FF F) {h : jH} {s : St} (w : WJ s) (M : MJ h s) (C : CJ h s) {L : Nat} {xs : Nat → Int32} (S : scr h L xs) {j : Nat} (hj : j + 6 ≤ L) (hL : L ≤ 3072) (k18 : Nat → Nat → Nat → Int32 → jH → Option jO) : ∃ h7 s', (if (j_k h 2 = 0 ∨ j_k h 2 = 6) ∧ j_in h 2 (nI j + (1 : Int32)) then (if j_k h 4 = 10 then (jbI (m_F_end F 4 (j_I h 2 (nI j + (1 : Int32)).toNatClampNeg) h) fun r42 h41 => if (j_k h41 2 = 0 ∨ j_k h41 2 = 6) ∧ j_in h41 2 (nI j + (1 : Int32)) then (if j_k h41 85 = 17 then (jbI (m_M_end F 85 (j_I h41 2 (nI j + (1 : Int32)).toNatClampNeg) h41) fun r44 h43 => if r42 = r44 then (k18 2 4 85 (nI j + (6 : Int32)) h43) else some (some (.int (0 : Int32)), h43)) else none) else none) else none) else none) = k18 2 4 85 (nI j + (6 : Int32)) h7 ∧ MJ h7 s' ∧ CJ h7 s' ∧ WJ s' ∧ scr h7 L xs ∧ j_c h7 ≤ j_c h + 12 ∧ j_z h7 ≤ j_z h + 700 := by
  obtain ⟨r, h5, h7, s', e5, e7, M7, C7, w', S5, S7, k5, c7, z7⟩ := cal_I (K_end (F := F) w (j_I h 2 (nI j + (1 : Int32)).toNatClampNeg)) M C S
  refine ⟨h7, s', ?_, M7, C7, w', S7, c7, z7⟩
  rw [if_pos (show (j_k h 2 = 0 ∨ j_k h 2 = 6) ∧ j_in h 2 (nI j + (1 : Int32)) from ⟨Or.inr S.1, scr_in S hj hL 1 (by omega) rfl⟩)]
  rw [if_pos (sf_k4 C.S), bI_of e5]
  rw [if_pos (show (j_k h5 2 = 0 ∨ j_k h5 2 = 6) ∧ j_in h5 2 (nI j + (1 : Int32)) from ⟨Or.inr S5.1, scr_in S5 hj hL 1 (by omega) rfl⟩)]
  have ee : ∀ i, j_I h5 2 i = j_I h 2 i := fun i => (S5.2.2 i).trans (S.2.2 i).symm
  simp only [ee]
  rw [if_pos k5, bI_of e7, if_pos rfl]
theorem lw_10 {F : Nat × Nat} (hF : FF F) {h : jH} {s : St} (w : WJ s) (M : MJ h s) (C : CJ h s) {L : Nat} {xs : Nat → Int32} (S : scr h L xs) {j : Nat} (hj : j + 6 ≤ L) (hL : L ≤ 3072) (k18 : Nat → Nat → Nat → Int32 → jH → Option jO) : ∃ h7 s', (if j_k h 4 = 10 then (jbI (m_F_row F 4 h) fun r46 h45 => if j_k h45 85 = 17 then (jbI (m_M_row F 85 h45) fun r48 h47 => if r46 = r48 then (k18 2 4 85 (nI j + (6 : Int32)) h47) else some (some (.int (0 : Int32)), h47)) else none) else none) = k18 2 4 85 (nI j + (6 : Int32)) h7 ∧ MJ h7 s' ∧ CJ h7 s' ∧ WJ s' ∧ scr h7 L xs ∧ j_c h7 ≤ j_c h + 12 ∧ j_z h7 ≤ j_z h + 700 := by
  obtain ⟨r, h5, h7, s', e5, e7, M7, C7, w', S5, S7, k5, c7, z7⟩ := cal_I (K_row (F := F) hF w ) M C S
  refine ⟨h7, s', ?_, M7, C7, w', S7, c7, z7⟩
  rw [if_pos (sf_k4 C.S), bI_of e5]
  rw [if_pos k5, bI_of e7, if_pos rfl]
theorem lw_11 {F : Nat × Nat} (hF : FF F) {h : jH} {s : St} (w : WJ s) (M : MJ h s) (C : CJ h s) {L : Nat} {xs : Nat → Int32} (S : scr h L xs) {j : Nat} (hj : j + 6 ≤ L) (hL : L ≤ 3072) (k18 : Nat → Nat → Nat → Int32 → jH → Option jO) : ∃ h7 s', (if j_k h 4 = 10 then (jbI (m_F_blots F 4 h) fun r50 h49 => if j_k h49 85 = 17 then (jbI (m_M_blots F 85 h49) fun r52 h51 => if r50 = r52 then (k18 2 4 85 (nI j + (6 : Int32)) h51) else some (some (.int (0 : Int32)), h51)) else none) else none) = k18 2 4 85 (nI j + (6 : Int32)) h7 ∧ MJ h7 s' ∧ CJ h7 s' ∧ WJ s' ∧ scr h7 L xs ∧ j_c h7 ≤ j_c h + 12 ∧ j_z h7 ≤ j_z h + 700 := by
  obtain ⟨r, h5, h7, s', e5, e7, M7, C7, w', S5, S7, k5, c7, z7⟩ := cal_I (K_blots (F := F) w ) M C S
  refine ⟨h7, s', ?_, M7, C7, w', S7, c7, z7⟩
  rw [if_pos (sf_k4 C.S), bI_of e5]
  rw [if_pos k5, bI_of e7, if_pos rfl]
theorem lw_12 {F : Nat × Nat} (hF : FF F) {h : jH} {s : St} (w : WJ s) (M : MJ h s) (C : CJ h s) {L : Nat} {xs : Nat → Int32} (S : scr h L xs) {j : Nat} (hj : j + 6 ≤ L) (hL : L ≤ 3072) (k18 : Nat → Nat → Nat → Int32 → jH → Option jO) : ∃ h7 s', (if j_k h 4 = 10 then (jbI (m_F_law F 4 h) fun r54 h53 => if j_k h53 85 = 17 then (jbI (m_M_law F 85 h53) fun r56 h55 => if r54 = r56 then (k18 2 4 85 (nI j + (6 : Int32)) h55) else some (some (.int (0 : Int32)), h55)) else none) else none) = k18 2 4 85 (nI j + (6 : Int32)) h7 ∧ MJ h7 s' ∧ CJ h7 s' ∧ WJ s' ∧ scr h7 L xs ∧ j_c h7 ≤ j_c h + 12 ∧ j_z h7 ≤ j_z h + 700 := by
  obtain ⟨r, h5, h7, s', e5, e7, M7, C7, w', S5, S7, k5, c7, z7⟩ := cal_I (K_law (F := F) hF w ) M C S
  refine ⟨h7, s', ?_, M7, C7, w', S7, c7, z7⟩
  rw [if_pos (sf_k4 C.S), bI_of e5]
  rw [if_pos k5, bI_of e7, if_pos rfl]
theorem lw_13 {F : Nat × Nat} (hF : FF F) {h : jH} {s : St} (w : WJ s) (M : MJ h s) (C : CJ h s) {L : Nat} {xs : Nat → Int32} (S : scr h L xs) {j : Nat} (hj : j + 6 ≤ L) (hL : L ≤ 3072) (k18 : Nat → Nat → Nat → Int32 → jH → Option jO) : ∃ h7 s', (if j_k h 4 = 10 then (jbI (m_F_orders F 4 h) fun r58 h57 => if j_k h57 85 = 17 then (jbI (m_M_orders F 85 h57) fun r60 h59 => if r58 = r60 then (k18 2 4 85 (nI j + (6 : Int32)) h59) else some (some (.int (0 : Int32)), h59)) else none) else none) = k18 2 4 85 (nI j + (6 : Int32)) h7 ∧ MJ h7 s' ∧ CJ h7 s' ∧ WJ s' ∧ scr h7 L xs ∧ j_c h7 ≤ j_c h + 12 ∧ j_z h7 ≤ j_z h + 700 := by
  obtain ⟨r, h5, h7, s', e5, e7, M7, C7, w', S5, S7, k5, c7, z7⟩ := cal_I (K_orders (F := F) hF w ) M C S
  refine ⟨h7, s', ?_, M7, C7, w', S7, c7, z7⟩
  rw [if_pos (sf_k4 C.S), bI_of e5]
  rw [if_pos k5, bI_of e7, if_pos rfl]
theorem lw_14 {F : Nat × Nat} (hF : FF F) {h : jH} {s : St} (w : WJ s) (M : MJ h s) (C : CJ h s) {L : Nat} {xs : Nat → Int32} (S : scr h L xs) {j : Nat} (hj : j + 6 ≤ L) (hL : L ≤ 3072) (k18 : Nat → Nat → Nat → Int32 → jH → Option jO) : ∃ h7 s', (if j_k h 4 = 10 then (jbI (m_F_fault F 4 h) fun r62 h61 => if j_k h61 85 = 17 then (jbI (m_M_fault F 85 h61) fun r64 h63 => if r62 = r64 then (k18 2 4 85 (nI j + (6 : Int32)) h63) else some (some (.int (0 : Int32)), h63)) else none) else none) = k18 2 4 85 (nI j + (6 : Int32)) h7 ∧ MJ h7 s' ∧ CJ h7 s' ∧ WJ s' ∧ scr h7 L xs ∧ j_c h7 ≤ j_c h + 12 ∧ j_z h7 ≤ j_z h + 700 := by
  obtain ⟨r, h5, h7, s', e5, e7, M7, C7, w', S5, S7, k5, c7, z7⟩ := cal_I (K_fault (F := F) w ) M C S
  refine ⟨h7, s', ?_, M7, C7, w', S7, c7, z7⟩
  rw [if_pos (sf_k4 C.S), bI_of e5]
  rw [if_pos k5, bI_of e7, if_pos rfl]
theorem lw_15 {F : Nat × Nat} (hF : FF F) {h : jH} {s : St} (w : WJ s) (M : MJ h s) (C : CJ h s) {L : Nat} {xs : Nat → Int32} (S : scr h L xs) {j : Nat} (hj : j + 6 ≤ L) (hL : L ≤ 3072) (k18 : Nat → Nat → Nat → Int32 → jH → Option jO) : ∃ h7 s', (if j_k h 4 = 10 then (jbI (m_F_stopped F 4 h) fun r66 h65 => if j_k h65 85 = 17 then (jbI (m_M_stopped F 85 h65) fun r68 h67 => if r66 = r68 then (k18 2 4 85 (nI j + (6 : Int32)) h67) else some (some (.int (0 : Int32)), h67)) else none) else none) = k18 2 4 85 (nI j + (6 : Int32)) h7 ∧ MJ h7 s' ∧ CJ h7 s' ∧ WJ s' ∧ scr h7 L xs ∧ j_c h7 ≤ j_c h + 12 ∧ j_z h7 ≤ j_z h + 700 := by
  obtain ⟨r, h5, h7, s', e5, e7, M7, C7, w', S5, S7, k5, c7, z7⟩ := cal_I (K_stopped (F := F) w ) M C S
  refine ⟨h7, s', ?_, M7, C7, w', S7, c7, z7⟩
  rw [if_pos (sf_k4 C.S), bI_of e5]
  rw [if_pos k5, bI_of e7, if_pos rfl]
theorem lw_16 {F : Nat × Nat} (hF : FF F) {h : jH} {s : St} (w : WJ s) (M : MJ h s) (C : CJ h s) {L : Nat} {xs : Nat → Int32} (S : scr h L xs) {j : Nat} (hj : j + 6 ≤ L) (hL : L ≤ 3072) (k18 : Nat → Nat → Nat → Int32 → jH → Option jO) : ∃ h7 s', (if (j_k h 2 = 0 ∨ j_k h 2 = 6) ∧ j_in h 2 (nI j + (1 : Int32)) then (if j_k h 4 = 10 then (jbI (m_F_force F 4 (j_I h 2 (nI j + (1 : Int32)).toNatClampNeg) h) fun r70 h69 => if (j_k h69 2 = 0 ∨ j_k h69 2 = 6) ∧ j_in h69 2 (nI j + (1 : Int32)) then (if j_k h69 85 = 17 then (jbI (m_M_force F 85 (j_I h69 2 (nI j + (1 : Int32)).toNatClampNeg) h69) fun r72 h71 => if r70 = r72 then (k18 2 4 85 (nI j + (6 : Int32)) h71) else some (some (.int (0 : Int32)), h71)) else none) else none) else none) else none) = k18 2 4 85 (nI j + (6 : Int32)) h7 ∧ MJ h7 s' ∧ CJ h7 s' ∧ WJ s' ∧ scr h7 L xs ∧ j_c h7 ≤ j_c h + 12 ∧ j_z h7 ≤ j_z h + 700 := by
  obtain ⟨r, h5, h7, s', e5, e7, M7, C7, w', S5, S7, k5, c7, z7⟩ := cal_I (K_force (F := F) w (j_I h 2 (nI j + (1 : Int32)).toNatClampNeg)) M C S
  refine ⟨h7, s', ?_, M7, C7, w', S7, c7, z7⟩
  rw [if_pos (show (j_k h 2 = 0 ∨ j_k h 2 = 6) ∧ j_in h 2 (nI j + (1 : Int32)) from ⟨Or.inr S.1, scr_in S hj hL 1 (by omega) rfl⟩)]
  rw [if_pos (sf_k4 C.S), bI_of e5]
  rw [if_pos (show (j_k h5 2 = 0 ∨ j_k h5 2 = 6) ∧ j_in h5 2 (nI j + (1 : Int32)) from ⟨Or.inr S5.1, scr_in S5 hj hL 1 (by omega) rfl⟩)]
  have ee : ∀ i, j_I h5 2 i = j_I h 2 i := fun i => (S5.2.2 i).trans (S.2.2 i).symm
  simp only [ee]
  rw [if_pos k5, bI_of e7, if_pos rfl]
theorem lw_17 {F : Nat × Nat} (hF : FF F) {h : jH} {s : St} (w : WJ s) (M : MJ h s) (C : CJ h s) {L : Nat} {xs : Nat → Int32} (S : scr h L xs) {j : Nat} (hj : j + 6 ≤ L) (hL : L ≤ 3072) (k18 : Nat → Nat → Nat → Int32 → jH → Option jO) : ∃ h7 s', (if (j_k h 2 = 0 ∨ j_k h 2 = 6) ∧ j_in h 2 (nI j + (1 : Int32)) then (if (j_k h 2 = 0 ∨ j_k h 2 = 6) ∧ j_in h 2 (nI j + (2 : Int32)) then (if j_k h 4 = 10 then (jbI (m_F_step F 4 (j_I h 2 (nI j + (1 : Int32)).toNatClampNeg) (j_I h 2 (nI j + (2 : Int32)).toNatClampNeg) h) fun r74 h73 => if (j_k h73 2 = 0 ∨ j_k h73 2 = 6) ∧ j_in h73 2 (nI j + (1 : Int32)) then (if (j_k h73 2 = 0 ∨ j_k h73 2 = 6) ∧ j_in h73 2 (nI j + (2 : Int32)) then (if j_k h73 85 = 17 then (jbI (m_M_step F 85 (j_I h73 2 (nI j + (1 : Int32)).toNatClampNeg) (j_I h73 2 (nI j + (2 : Int32)).toNatClampNeg) h73) fun r76 h75 => if r74 = r76 then (k18 2 4 85 (nI j + (6 : Int32)) h75) else some (some (.int (0 : Int32)), h75)) else none) else none) else none) else none) else none) else none) = k18 2 4 85 (nI j + (6 : Int32)) h7 ∧ MJ h7 s' ∧ CJ h7 s' ∧ WJ s' ∧ scr h7 L xs ∧ j_c h7 ≤ j_c h + 12 ∧ j_z h7 ≤ j_z h + 700 := by
  obtain ⟨r, h5, h7, s', e5, e7, M7, C7, w', S5, S7, k5, c7, z7⟩ := cal_I (K_step (F := F) hF w (j_I h 2 (nI j + (1 : Int32)).toNatClampNeg) (j_I h 2 (nI j + (2 : Int32)).toNatClampNeg)) M C S
  refine ⟨h7, s', ?_, M7, C7, w', S7, c7, z7⟩
  rw [if_pos (show (j_k h 2 = 0 ∨ j_k h 2 = 6) ∧ j_in h 2 (nI j + (1 : Int32)) from ⟨Or.inr S.1, scr_in S hj hL 1 (by omega) rfl⟩)]
  rw [if_pos (show (j_k h 2 = 0 ∨ j_k h 2 = 6) ∧ j_in h 2 (nI j + (2 : Int32)) from ⟨Or.inr S.1, scr_in S hj hL 2 (by omega) rfl⟩)]
  rw [if_pos (sf_k4 C.S), bI_of e5]
  rw [if_pos (show (j_k h5 2 = 0 ∨ j_k h5 2 = 6) ∧ j_in h5 2 (nI j + (1 : Int32)) from ⟨Or.inr S5.1, scr_in S5 hj hL 1 (by omega) rfl⟩)]
  rw [if_pos (show (j_k h5 2 = 0 ∨ j_k h5 2 = 6) ∧ j_in h5 2 (nI j + (2 : Int32)) from ⟨Or.inr S5.1, scr_in S5 hj hL 2 (by omega) rfl⟩)]
  have ee : ∀ i, j_I h5 2 i = j_I h 2 i := fun i => (S5.2.2 i).trans (S.2.2 i).symm
  simp only [ee]
  rw [if_pos k5, bI_of e7, if_pos rfl]
theorem lw_18 {F : Nat × Nat} (hF : FF F) {h : jH} {s : St} (w : WJ s) (M : MJ h s) (C : CJ h s) {L : Nat} {xs : Nat → Int32} (S : scr h L xs) {j : Nat} (hj : j + 6 ≤ L) (hL : L ≤ 3072) (k18 : Nat → Nat → Nat → Int32 → jH → Option jO) : ∃ h7 s', (if (j_k h 2 = 0 ∨ j_k h 2 = 6) ∧ j_in h 2 (nI j + (1 : Int32)) then (if (j_k h 2 = 0 ∨ j_k h 2 = 6) ∧ j_in h 2 (nI j + (2 : Int32)) then (if j_k h 4 = 10 then (jbI (m_F_join F 4 (j_I h 2 (nI j + (1 : Int32)).toNatClampNeg) (j_I h 2 (nI j + (2 : Int32)).toNatClampNeg) h) fun r78 h77 => if (j_k h77 2 = 0 ∨ j_k h77 2 = 6) ∧ j_in h77 2 (nI j + (1 : Int32)) then (if (j_k h77 2 = 0 ∨ j_k h77 2 = 6) ∧ j_in h77 2 (nI j + (2 : Int32)) then (if j_k h77 85 = 17 then (jbI (m_M_join F 85 (j_I h77 2 (nI j + (1 : Int32)).toNatClampNeg) (j_I h77 2 (nI j + (2 : Int32)).toNatClampNeg) h77) fun r80 h79 => if r78 = r80 then (k18 2 4 85 (nI j + (6 : Int32)) h79) else some (some (.int (0 : Int32)), h79)) else none) else none) else none) else none) else none) else none) = k18 2 4 85 (nI j + (6 : Int32)) h7 ∧ MJ h7 s' ∧ CJ h7 s' ∧ WJ s' ∧ scr h7 L xs ∧ j_c h7 ≤ j_c h + 12 ∧ j_z h7 ≤ j_z h + 700 := by
  obtain ⟨r, h5, h7, s', e5, e7, M7, C7, w', S5, S7, k5, c7, z7⟩ := cal_I (K_join (F := F) hF w (j_I h 2 (nI j + (1 : Int32)).toNatClampNeg) (j_I h 2 (nI j + (2 : Int32)).toNatClampNeg)) M C S
  refine ⟨h7, s', ?_, M7, C7, w', S7, c7, z7⟩
  rw [if_pos (show (j_k h 2 = 0 ∨ j_k h 2 = 6) ∧ j_in h 2 (nI j + (1 : Int32)) from ⟨Or.inr S.1, scr_in S hj hL 1 (by omega) rfl⟩)]
  rw [if_pos (show (j_k h 2 = 0 ∨ j_k h 2 = 6) ∧ j_in h 2 (nI j + (2 : Int32)) from ⟨Or.inr S.1, scr_in S hj hL 2 (by omega) rfl⟩)]
  rw [if_pos (sf_k4 C.S), bI_of e5]
  rw [if_pos (show (j_k h5 2 = 0 ∨ j_k h5 2 = 6) ∧ j_in h5 2 (nI j + (1 : Int32)) from ⟨Or.inr S5.1, scr_in S5 hj hL 1 (by omega) rfl⟩)]
  rw [if_pos (show (j_k h5 2 = 0 ∨ j_k h5 2 = 6) ∧ j_in h5 2 (nI j + (2 : Int32)) from ⟨Or.inr S5.1, scr_in S5 hj hL 2 (by omega) rfl⟩)]
  have ee : ∀ i, j_I h5 2 i = j_I h 2 i := fun i => (S5.2.2 i).trans (S.2.2 i).symm
  simp only [ee]
  rw [if_pos k5, bI_of e7, if_pos rfl]
theorem lw_19 {F : Nat × Nat} (hF : FF F) {h : jH} {s : St} (w : WJ s) (M : MJ h s) (C : CJ h s) {L : Nat} {xs : Nat → Int32} (S : scr h L xs) {j : Nat} (hj : j + 6 ≤ L) (hL : L ≤ 3072) (k18 : Nat → Nat → Nat → Int32 → jH → Option jO) : ∃ h7 s', (if (j_k h 2 = 0 ∨ j_k h 2 = 6) ∧ j_in h 2 (nI j + (1 : Int32)) then (if (j_k h 2 = 0 ∨ j_k h 2 = 6) ∧ j_in h 2 (nI j + (2 : Int32)) then (if j_k h 4 = 10 then (jbI (m_F_smear F 4 (j_I h 2 (nI j + (1 : Int32)).toNatClampNeg) (j_I h 2 (nI j + (2 : Int32)).toNatClampNeg) h) fun r82 h81 => if (j_k h81 2 = 0 ∨ j_k h81 2 = 6) ∧ j_in h81 2 (nI j + (1 : Int32)) then (if (j_k h81 2 = 0 ∨ j_k h81 2 = 6) ∧ j_in h81 2 (nI j + (2 : Int32)) then (if j_k h81 85 = 17 then (jbI (m_M_smear F 85 (j_I h81 2 (nI j + (1 : Int32)).toNatClampNeg) (j_I h81 2 (nI j + (2 : Int32)).toNatClampNeg) h81) fun r84 h83 => if r82 = r84 then (k18 2 4 85 (nI j + (6 : Int32)) h83) else some (some (.int (0 : Int32)), h83)) else none) else none) else none) else none) else none) else none) = k18 2 4 85 (nI j + (6 : Int32)) h7 ∧ MJ h7 s' ∧ CJ h7 s' ∧ WJ s' ∧ scr h7 L xs ∧ j_c h7 ≤ j_c h + 12 ∧ j_z h7 ≤ j_z h + 700 := by
  obtain ⟨r, h5, h7, s', e5, e7, M7, C7, w', S5, S7, k5, c7, z7⟩ := cal_I (K_smear (F := F) hF w (j_I h 2 (nI j + (1 : Int32)).toNatClampNeg) (j_I h 2 (nI j + (2 : Int32)).toNatClampNeg)) M C S
  refine ⟨h7, s', ?_, M7, C7, w', S7, c7, z7⟩
  rw [if_pos (show (j_k h 2 = 0 ∨ j_k h 2 = 6) ∧ j_in h 2 (nI j + (1 : Int32)) from ⟨Or.inr S.1, scr_in S hj hL 1 (by omega) rfl⟩)]
  rw [if_pos (show (j_k h 2 = 0 ∨ j_k h 2 = 6) ∧ j_in h 2 (nI j + (2 : Int32)) from ⟨Or.inr S.1, scr_in S hj hL 2 (by omega) rfl⟩)]
  rw [if_pos (sf_k4 C.S), bI_of e5]
  rw [if_pos (show (j_k h5 2 = 0 ∨ j_k h5 2 = 6) ∧ j_in h5 2 (nI j + (1 : Int32)) from ⟨Or.inr S5.1, scr_in S5 hj hL 1 (by omega) rfl⟩)]
  rw [if_pos (show (j_k h5 2 = 0 ∨ j_k h5 2 = 6) ∧ j_in h5 2 (nI j + (2 : Int32)) from ⟨Or.inr S5.1, scr_in S5 hj hL 2 (by omega) rfl⟩)]
  have ee : ∀ i, j_I h5 2 i = j_I h 2 i := fun i => (S5.2.2 i).trans (S.2.2 i).symm
  simp only [ee]
  rw [if_pos k5, bI_of e7, if_pos rfl]
theorem lw_20 {F : Nat × Nat} (hF : FF F) {h : jH} {s : St} (w : WJ s) (M : MJ h s) (C : CJ h s) {L : Nat} {xs : Nat → Int32} (S : scr h L xs) {j : Nat} (hj : j + 6 ≤ L) (hL : L ≤ 3072) (k18 : Nat → Nat → Nat → Int32 → jH → Option jO) : ∃ h7 s', (if j_k h 4 = 10 then (jbI (m_F_pass F 4 h) fun r86 h85 => if j_k h85 85 = 17 then (jbI (m_M_pass F 85 h85) fun r88 h87 => if r86 = r88 then (k18 2 4 85 (nI j + (6 : Int32)) h87) else some (some (.int (0 : Int32)), h87)) else none) else none) = k18 2 4 85 (nI j + (6 : Int32)) h7 ∧ MJ h7 s' ∧ CJ h7 s' ∧ WJ s' ∧ scr h7 L xs ∧ j_c h7 ≤ j_c h + 12 ∧ j_z h7 ≤ j_z h + 700 := by
  obtain ⟨r, h5, h7, s', e5, e7, M7, C7, w', S5, S7, k5, c7, z7⟩ := cal_I (K_pass (F := F) hF w ) M C S
  refine ⟨h7, s', ?_, M7, C7, w', S7, c7, z7⟩
  rw [if_pos (sf_k4 C.S), bI_of e5]
  rw [if_pos k5, bI_of e7, if_pos rfl]
theorem lw_21 {F : Nat × Nat} (hF : FF F) {h : jH} {s : St} (w : WJ s) (M : MJ h s) (C : CJ h s) {L : Nat} {xs : Nat → Int32} (S : scr h L xs) {j : Nat} (hj : j + 6 ≤ L) (hL : L ≤ 3072) (k18 : Nat → Nat → Nat → Int32 → jH → Option jO) : ∃ h7 s', (if j_k h 4 = 10 then (jbI (m_F_undo F 4 h) fun r90 h89 => if j_k h89 85 = 17 then (jbI (m_M_undo F 85 h89) fun r92 h91 => if r90 = r92 then (k18 2 4 85 (nI j + (6 : Int32)) h91) else some (some (.int (0 : Int32)), h91)) else none) else none) = k18 2 4 85 (nI j + (6 : Int32)) h7 ∧ MJ h7 s' ∧ CJ h7 s' ∧ WJ s' ∧ scr h7 L xs ∧ j_c h7 ≤ j_c h + 12 ∧ j_z h7 ≤ j_z h + 700 := by
  obtain ⟨r, h5, h7, s', e5, e7, M7, C7, w', S5, S7, k5, c7, z7⟩ := cal_I (K_undo (F := F) hF w ) M C S
  refine ⟨h7, s', ?_, M7, C7, w', S7, c7, z7⟩
  rw [if_pos (sf_k4 C.S), bI_of e5]
  rw [if_pos k5, bI_of e7, if_pos rfl]
theorem lw_22 {F : Nat × Nat} (hF : FF F) {h : jH} {s : St} (w : WJ s) (M : MJ h s) (C : CJ h s) {L : Nat} {xs : Nat → Int32} (S : scr h L xs) {j : Nat} (hj : j + 6 ≤ L) (hL : L ≤ 3072) (k18 : Nat → Nat → Nat → Int32 → jH → Option jO) : ∃ h7 s', (if (j_k h 2 = 0 ∨ j_k h 2 = 6) ∧ j_in h 2 (nI j + (1 : Int32)) then (if (j_k h 2 = 0 ∨ j_k h 2 = 6) ∧ j_in h 2 (nI j + (2 : Int32)) then (if (j_k h 2 = 0 ∨ j_k h 2 = 6) ∧ j_in h 2 (nI j + (3 : Int32)) then (if j_k h 4 = 10 then (jbI (m_F_way F 4 (j_I h 2 (nI j + (1 : Int32)).toNatClampNeg) (j_I h 2 (nI j + (2 : Int32)).toNatClampNeg) (j_I h 2 (nI j + (3 : Int32)).toNatClampNeg) h) fun r94 h93 => if (j_k h93 2 = 0 ∨ j_k h93 2 = 6) ∧ j_in h93 2 (nI j + (1 : Int32)) then (if (j_k h93 2 = 0 ∨ j_k h93 2 = 6) ∧ j_in h93 2 (nI j + (2 : Int32)) then (if (j_k h93 2 = 0 ∨ j_k h93 2 = 6) ∧ j_in h93 2 (nI j + (3 : Int32)) then (if j_k h93 85 = 17 then (jbI (m_M_way F 85 (j_I h93 2 (nI j + (1 : Int32)).toNatClampNeg) (j_I h93 2 (nI j + (2 : Int32)).toNatClampNeg) (j_I h93 2 (nI j + (3 : Int32)).toNatClampNeg) h93) fun r96 h95 => if r94 = r96 then (k18 2 4 85 (nI j + (6 : Int32)) h95) else some (some (.int (0 : Int32)), h95)) else none) else none) else none) else none) else none) else none) else none) else none) = k18 2 4 85 (nI j + (6 : Int32)) h7 ∧ MJ h7 s' ∧ CJ h7 s' ∧ WJ s' ∧ scr h7 L xs ∧ j_c h7 ≤ j_c h + 12 ∧ j_z h7 ≤ j_z h + 700 := by
  obtain ⟨r, h5, h7, s', e5, e7, M7, C7, w', S5, S7, k5, c7, z7⟩ := cal_I (K_way (F := F) hF w (j_I h 2 (nI j + (1 : Int32)).toNatClampNeg) (j_I h 2 (nI j + (2 : Int32)).toNatClampNeg) (j_I h 2 (nI j + (3 : Int32)).toNatClampNeg)) M C S
  refine ⟨h7, s', ?_, M7, C7, w', S7, c7, z7⟩
  rw [if_pos (show (j_k h 2 = 0 ∨ j_k h 2 = 6) ∧ j_in h 2 (nI j + (1 : Int32)) from ⟨Or.inr S.1, scr_in S hj hL 1 (by omega) rfl⟩)]
  rw [if_pos (show (j_k h 2 = 0 ∨ j_k h 2 = 6) ∧ j_in h 2 (nI j + (2 : Int32)) from ⟨Or.inr S.1, scr_in S hj hL 2 (by omega) rfl⟩)]
  rw [if_pos (show (j_k h 2 = 0 ∨ j_k h 2 = 6) ∧ j_in h 2 (nI j + (3 : Int32)) from ⟨Or.inr S.1, scr_in S hj hL 3 (by omega) rfl⟩)]
  rw [if_pos (sf_k4 C.S), bI_of e5]
  rw [if_pos (show (j_k h5 2 = 0 ∨ j_k h5 2 = 6) ∧ j_in h5 2 (nI j + (1 : Int32)) from ⟨Or.inr S5.1, scr_in S5 hj hL 1 (by omega) rfl⟩)]
  rw [if_pos (show (j_k h5 2 = 0 ∨ j_k h5 2 = 6) ∧ j_in h5 2 (nI j + (2 : Int32)) from ⟨Or.inr S5.1, scr_in S5 hj hL 2 (by omega) rfl⟩)]
  rw [if_pos (show (j_k h5 2 = 0 ∨ j_k h5 2 = 6) ∧ j_in h5 2 (nI j + (3 : Int32)) from ⟨Or.inr S5.1, scr_in S5 hj hL 3 (by omega) rfl⟩)]
  have ee : ∀ i, j_I h5 2 i = j_I h 2 i := fun i => (S5.2.2 i).trans (S.2.2 i).symm
  simp only [ee]
  rw [if_pos k5, bI_of e7, if_pos rfl]
theorem lw_23 {F : Nat × Nat} (hF : FF F) {h : jH} {s : St} (w : WJ s) (M : MJ h s) (C : CJ h s) {L : Nat} {xs : Nat → Int32} (S : scr h L xs) {j : Nat} (hj : j + 6 ≤ L) (hL : L ≤ 3072) (k18 : Nat → Nat → Nat → Int32 → jH → Option jO) : ∃ h7 s', (if (j_k h 2 = 0 ∨ j_k h 2 = 6) ∧ j_in h 2 (nI j + (1 : Int32)) then (if (j_k h 2 = 0 ∨ j_k h 2 = 6) ∧ j_in h 2 (nI j + (2 : Int32)) then (if (j_k h 2 = 0 ∨ j_k h 2 = 6) ∧ j_in h 2 (nI j + (3 : Int32)) then (if j_k h 4 = 10 then (jbI (m_F_sure F 4 (j_I h 2 (nI j + (1 : Int32)).toNatClampNeg) (j_I h 2 (nI j + (2 : Int32)).toNatClampNeg) (j_I h 2 (nI j + (3 : Int32)).toNatClampNeg) h) fun r98 h97 => if (j_k h97 2 = 0 ∨ j_k h97 2 = 6) ∧ j_in h97 2 (nI j + (1 : Int32)) then (if (j_k h97 2 = 0 ∨ j_k h97 2 = 6) ∧ j_in h97 2 (nI j + (2 : Int32)) then (if (j_k h97 2 = 0 ∨ j_k h97 2 = 6) ∧ j_in h97 2 (nI j + (3 : Int32)) then (if j_k h97 85 = 17 then (jbI (m_M_sure F 85 (j_I h97 2 (nI j + (1 : Int32)).toNatClampNeg) (j_I h97 2 (nI j + (2 : Int32)).toNatClampNeg) (j_I h97 2 (nI j + (3 : Int32)).toNatClampNeg) h97) fun r100 h99 => if r98 = r100 then (k18 2 4 85 (nI j + (6 : Int32)) h99) else some (some (.int (0 : Int32)), h99)) else none) else none) else none) else none) else none) else none) else none) else none) = k18 2 4 85 (nI j + (6 : Int32)) h7 ∧ MJ h7 s' ∧ CJ h7 s' ∧ WJ s' ∧ scr h7 L xs ∧ j_c h7 ≤ j_c h + 12 ∧ j_z h7 ≤ j_z h + 700 := by
  obtain ⟨r, h5, h7, s', e5, e7, M7, C7, w', S5, S7, k5, c7, z7⟩ := cal_I (K_sure (F := F) hF w (j_I h 2 (nI j + (1 : Int32)).toNatClampNeg) (j_I h 2 (nI j + (2 : Int32)).toNatClampNeg) (j_I h 2 (nI j + (3 : Int32)).toNatClampNeg)) M C S
  refine ⟨h7, s', ?_, M7, C7, w', S7, c7, z7⟩
  rw [if_pos (show (j_k h 2 = 0 ∨ j_k h 2 = 6) ∧ j_in h 2 (nI j + (1 : Int32)) from ⟨Or.inr S.1, scr_in S hj hL 1 (by omega) rfl⟩)]
  rw [if_pos (show (j_k h 2 = 0 ∨ j_k h 2 = 6) ∧ j_in h 2 (nI j + (2 : Int32)) from ⟨Or.inr S.1, scr_in S hj hL 2 (by omega) rfl⟩)]
  rw [if_pos (show (j_k h 2 = 0 ∨ j_k h 2 = 6) ∧ j_in h 2 (nI j + (3 : Int32)) from ⟨Or.inr S.1, scr_in S hj hL 3 (by omega) rfl⟩)]
  rw [if_pos (sf_k4 C.S), bI_of e5]
  rw [if_pos (show (j_k h5 2 = 0 ∨ j_k h5 2 = 6) ∧ j_in h5 2 (nI j + (1 : Int32)) from ⟨Or.inr S5.1, scr_in S5 hj hL 1 (by omega) rfl⟩)]
  rw [if_pos (show (j_k h5 2 = 0 ∨ j_k h5 2 = 6) ∧ j_in h5 2 (nI j + (2 : Int32)) from ⟨Or.inr S5.1, scr_in S5 hj hL 2 (by omega) rfl⟩)]
  rw [if_pos (show (j_k h5 2 = 0 ∨ j_k h5 2 = 6) ∧ j_in h5 2 (nI j + (3 : Int32)) from ⟨Or.inr S5.1, scr_in S5 hj hL 3 (by omega) rfl⟩)]
  have ee : ∀ i, j_I h5 2 i = j_I h 2 i := fun i => (S5.2.2 i).trans (S.2.2 i).symm
  simp only [ee]
  rw [if_pos k5, bI_of e7, if_pos rfl]
theorem lw_24 {F : Nat × Nat} (hF : FF F) {h : jH} {s : St} (w : WJ s) (M : MJ h s) (C : CJ h s) {L : Nat} {xs : Nat → Int32} (S : scr h L xs) {j : Nat} (hj : j + 6 ≤ L) (hL : L ≤ 3072) (k18 : Nat → Nat → Nat → Int32 → jH → Option jO) : ∃ h7 s', (if (j_k h 2 = 0 ∨ j_k h 2 = 6) ∧ j_in h 2 (nI j + (1 : Int32)) then (if (j_k h 2 = 0 ∨ j_k h 2 = 6) ∧ j_in h 2 (nI j + (2 : Int32)) then (if j_k h 4 = 10 then (jbI (m_F_tour F 4 (j_I h 2 (nI j + (1 : Int32)).toNatClampNeg) (j_I h 2 (nI j + (2 : Int32)).toNatClampNeg) h) fun r102 h101 => if (j_k h101 2 = 0 ∨ j_k h101 2 = 6) ∧ j_in h101 2 (nI j + (1 : Int32)) then (if (j_k h101 2 = 0 ∨ j_k h101 2 = 6) ∧ j_in h101 2 (nI j + (2 : Int32)) then (if j_k h101 85 = 17 then (jbI (m_M_tour F 85 (j_I h101 2 (nI j + (1 : Int32)).toNatClampNeg) (j_I h101 2 (nI j + (2 : Int32)).toNatClampNeg) h101) fun r104 h103 => if r102 = r104 then (k18 2 4 85 (nI j + (6 : Int32)) h103) else some (some (.int (0 : Int32)), h103)) else none) else none) else none) else none) else none) else none) = k18 2 4 85 (nI j + (6 : Int32)) h7 ∧ MJ h7 s' ∧ CJ h7 s' ∧ WJ s' ∧ scr h7 L xs ∧ j_c h7 ≤ j_c h + 12 ∧ j_z h7 ≤ j_z h + 700 := by
  obtain ⟨r, h5, h7, s', e5, e7, M7, C7, w', S5, S7, k5, c7, z7⟩ := cal_I (K_tour (F := F) hF w (j_I h 2 (nI j + (1 : Int32)).toNatClampNeg) (j_I h 2 (nI j + (2 : Int32)).toNatClampNeg)) M C S
  refine ⟨h7, s', ?_, M7, C7, w', S7, c7, z7⟩
  rw [if_pos (show (j_k h 2 = 0 ∨ j_k h 2 = 6) ∧ j_in h 2 (nI j + (1 : Int32)) from ⟨Or.inr S.1, scr_in S hj hL 1 (by omega) rfl⟩)]
  rw [if_pos (show (j_k h 2 = 0 ∨ j_k h 2 = 6) ∧ j_in h 2 (nI j + (2 : Int32)) from ⟨Or.inr S.1, scr_in S hj hL 2 (by omega) rfl⟩)]
  rw [if_pos (sf_k4 C.S), bI_of e5]
  rw [if_pos (show (j_k h5 2 = 0 ∨ j_k h5 2 = 6) ∧ j_in h5 2 (nI j + (1 : Int32)) from ⟨Or.inr S5.1, scr_in S5 hj hL 1 (by omega) rfl⟩)]
  rw [if_pos (show (j_k h5 2 = 0 ∨ j_k h5 2 = 6) ∧ j_in h5 2 (nI j + (2 : Int32)) from ⟨Or.inr S5.1, scr_in S5 hj hL 2 (by omega) rfl⟩)]
  have ee : ∀ i, j_I h5 2 i = j_I h 2 i := fun i => (S5.2.2 i).trans (S.2.2 i).symm
  simp only [ee]
  rw [if_pos k5, bI_of e7, if_pos rfl]
theorem lw_25 {F : Nat × Nat} (hF : FF F) {h : jH} {s : St} (w : WJ s) (M : MJ h s) (C : CJ h s) {L : Nat} {xs : Nat → Int32} (S : scr h L xs) {j : Nat} (hj : j + 6 ≤ L) (hL : L ≤ 3072) (k18 : Nat → Nat → Nat → Int32 → jH → Option jO) : ∃ h7 s', (if (j_k h 2 = 0 ∨ j_k h 2 = 6) ∧ j_in h 2 (nI j + (1 : Int32)) then (if (j_k h 2 = 0 ∨ j_k h 2 = 6) ∧ j_in h 2 (nI j + (2 : Int32)) then (if (j_k h 2 = 0 ∨ j_k h 2 = 6) ∧ j_in h 2 (nI j + (3 : Int32)) then (if j_k h 4 = 10 then (jbI (m_F_meet F 4 (j_I h 2 (nI j + (1 : Int32)).toNatClampNeg) (j_I h 2 (nI j + (2 : Int32)).toNatClampNeg) (j_I h 2 (nI j + (3 : Int32)).toNatClampNeg) h) fun r106 h105 => if (j_k h105 2 = 0 ∨ j_k h105 2 = 6) ∧ j_in h105 2 (nI j + (1 : Int32)) then (if (j_k h105 2 = 0 ∨ j_k h105 2 = 6) ∧ j_in h105 2 (nI j + (2 : Int32)) then (if (j_k h105 2 = 0 ∨ j_k h105 2 = 6) ∧ j_in h105 2 (nI j + (3 : Int32)) then (if j_k h105 85 = 17 then (jbI (m_M_meet F 85 (j_I h105 2 (nI j + (1 : Int32)).toNatClampNeg) (j_I h105 2 (nI j + (2 : Int32)).toNatClampNeg) (j_I h105 2 (nI j + (3 : Int32)).toNatClampNeg) h105) fun r108 h107 => if r106 = r108 then (k18 2 4 85 (nI j + (6 : Int32)) h107) else some (some (.int (0 : Int32)), h107)) else none) else none) else none) else none) else none) else none) else none) else none) = k18 2 4 85 (nI j + (6 : Int32)) h7 ∧ MJ h7 s' ∧ CJ h7 s' ∧ WJ s' ∧ scr h7 L xs ∧ j_c h7 ≤ j_c h + 12 ∧ j_z h7 ≤ j_z h + 700 := by
  obtain ⟨r, h5, h7, s', e5, e7, M7, C7, w', S5, S7, k5, c7, z7⟩ := cal_I (K_meet (F := F) hF w (j_I h 2 (nI j + (1 : Int32)).toNatClampNeg) (j_I h 2 (nI j + (2 : Int32)).toNatClampNeg) (j_I h 2 (nI j + (3 : Int32)).toNatClampNeg)) M C S
  refine ⟨h7, s', ?_, M7, C7, w', S7, c7, z7⟩
  rw [if_pos (show (j_k h 2 = 0 ∨ j_k h 2 = 6) ∧ j_in h 2 (nI j + (1 : Int32)) from ⟨Or.inr S.1, scr_in S hj hL 1 (by omega) rfl⟩)]
  rw [if_pos (show (j_k h 2 = 0 ∨ j_k h 2 = 6) ∧ j_in h 2 (nI j + (2 : Int32)) from ⟨Or.inr S.1, scr_in S hj hL 2 (by omega) rfl⟩)]
  rw [if_pos (show (j_k h 2 = 0 ∨ j_k h 2 = 6) ∧ j_in h 2 (nI j + (3 : Int32)) from ⟨Or.inr S.1, scr_in S hj hL 3 (by omega) rfl⟩)]
  rw [if_pos (sf_k4 C.S), bI_of e5]
  rw [if_pos (show (j_k h5 2 = 0 ∨ j_k h5 2 = 6) ∧ j_in h5 2 (nI j + (1 : Int32)) from ⟨Or.inr S5.1, scr_in S5 hj hL 1 (by omega) rfl⟩)]
  rw [if_pos (show (j_k h5 2 = 0 ∨ j_k h5 2 = 6) ∧ j_in h5 2 (nI j + (2 : Int32)) from ⟨Or.inr S5.1, scr_in S5 hj hL 2 (by omega) rfl⟩)]
  rw [if_pos (show (j_k h5 2 = 0 ∨ j_k h5 2 = 6) ∧ j_in h5 2 (nI j + (3 : Int32)) from ⟨Or.inr S5.1, scr_in S5 hj hL 3 (by omega) rfl⟩)]
  have ee : ∀ i, j_I h5 2 i = j_I h 2 i := fun i => (S5.2.2 i).trans (S.2.2 i).symm
  simp only [ee]
  rw [if_pos k5, bI_of e7, if_pos rfl]
theorem lw_26 {F : Nat × Nat} (hF : FF F) {h : jH} {s : St} (w : WJ s) (M : MJ h s) (C : CJ h s) {L : Nat} {xs : Nat → Int32} (S : scr h L xs) {j : Nat} (hj : j + 6 ≤ L) (hL : L ≤ 3072) (k18 : Nat → Nat → Nat → Int32 → jH → Option jO) : ∃ h7 s', (if (j_k h 2 = 0 ∨ j_k h 2 = 6) ∧ j_in h 2 (nI j + (1 : Int32)) then (if j_k h 4 = 10 then (jbI (m_F_stale F 4 (j_I h 2 (nI j + (1 : Int32)).toNatClampNeg) h) fun r110 h109 => if (j_k h109 2 = 0 ∨ j_k h109 2 = 6) ∧ j_in h109 2 (nI j + (1 : Int32)) then (if j_k h109 85 = 17 then (jbI (m_M_stale F 85 (j_I h109 2 (nI j + (1 : Int32)).toNatClampNeg) h109) fun r112 h111 => if r110 = r112 then (k18 2 4 85 (nI j + (6 : Int32)) h111) else some (some (.int (0 : Int32)), h111)) else none) else none) else none) else none) = k18 2 4 85 (nI j + (6 : Int32)) h7 ∧ MJ h7 s' ∧ CJ h7 s' ∧ WJ s' ∧ scr h7 L xs ∧ j_c h7 ≤ j_c h + 12 ∧ j_z h7 ≤ j_z h + 700 := by
  obtain ⟨r, h5, h7, s', e5, e7, M7, C7, w', S5, S7, k5, c7, z7⟩ := cal_I (K_stale (F := F) hF w (j_I h 2 (nI j + (1 : Int32)).toNatClampNeg)) M C S
  refine ⟨h7, s', ?_, M7, C7, w', S7, c7, z7⟩
  rw [if_pos (show (j_k h 2 = 0 ∨ j_k h 2 = 6) ∧ j_in h 2 (nI j + (1 : Int32)) from ⟨Or.inr S.1, scr_in S hj hL 1 (by omega) rfl⟩)]
  rw [if_pos (sf_k4 C.S), bI_of e5]
  rw [if_pos (show (j_k h5 2 = 0 ∨ j_k h5 2 = 6) ∧ j_in h5 2 (nI j + (1 : Int32)) from ⟨Or.inr S5.1, scr_in S5 hj hL 1 (by omega) rfl⟩)]
  have ee : ∀ i, j_I h5 2 i = j_I h 2 i := fun i => (S5.2.2 i).trans (S.2.2 i).symm
  simp only [ee]
  rw [if_pos k5, bI_of e7, if_pos rfl]
theorem lw_27 {F : Nat × Nat} (hF : FF F) {h : jH} {s : St} (w : WJ s) (M : MJ h s) (C : CJ h s) {L : Nat} {xs : Nat → Int32} (S : scr h L xs) {j : Nat} (hj : j + 6 ≤ L) (hL : L ≤ 3072) (k18 : Nat → Nat → Nat → Int32 → jH → Option jO) : ∃ h7 s', (if (j_k h 2 = 0 ∨ j_k h 2 = 6) ∧ j_in h 2 (nI j + (1 : Int32)) then (if j_k h 4 = 10 then (jbI (m_F_both F 4 (j_I h 2 (nI j + (1 : Int32)).toNatClampNeg) h) fun r114 h113 => if (j_k h113 2 = 0 ∨ j_k h113 2 = 6) ∧ j_in h113 2 (nI j + (1 : Int32)) then (if j_k h113 85 = 17 then (jbI (m_M_both F 85 (j_I h113 2 (nI j + (1 : Int32)).toNatClampNeg) h113) fun r116 h115 => if r114 = r116 then (k18 2 4 85 (nI j + (6 : Int32)) h115) else some (some (.int (0 : Int32)), h115)) else none) else none) else none) else none) = k18 2 4 85 (nI j + (6 : Int32)) h7 ∧ MJ h7 s' ∧ CJ h7 s' ∧ WJ s' ∧ scr h7 L xs ∧ j_c h7 ≤ j_c h + 12 ∧ j_z h7 ≤ j_z h + 700 := by
  obtain ⟨r, h5, h7, s', e5, e7, M7, C7, w', S5, S7, k5, c7, z7⟩ := cal_I (K_both (F := F) hF w (j_I h 2 (nI j + (1 : Int32)).toNatClampNeg)) M C S
  refine ⟨h7, s', ?_, M7, C7, w', S7, c7, z7⟩
  rw [if_pos (show (j_k h 2 = 0 ∨ j_k h 2 = 6) ∧ j_in h 2 (nI j + (1 : Int32)) from ⟨Or.inr S.1, scr_in S hj hL 1 (by omega) rfl⟩)]
  rw [if_pos (sf_k4 C.S), bI_of e5]
  rw [if_pos (show (j_k h5 2 = 0 ∨ j_k h5 2 = 6) ∧ j_in h5 2 (nI j + (1 : Int32)) from ⟨Or.inr S5.1, scr_in S5 hj hL 1 (by omega) rfl⟩)]
  have ee : ∀ i, j_I h5 2 i = j_I h 2 i := fun i => (S5.2.2 i).trans (S.2.2 i).symm
  simp only [ee]
  rw [if_pos k5, bI_of e7, if_pos rfl]
theorem lw_28 {F : Nat × Nat} (hF : FF F) {h : jH} {s : St} (w : WJ s) (M : MJ h s) (C : CJ h s) {L : Nat} {xs : Nat → Int32} (S : scr h L xs) {j : Nat} (hj : j + 6 ≤ L) (hL : L ≤ 3072) (k18 : Nat → Nat → Nat → Int32 → jH → Option jO) : ∃ h7 s', (if (j_k h 2 = 0 ∨ j_k h 2 = 6) ∧ j_in h 2 (nI j + (1 : Int32)) then (if (j_k h 2 = 0 ∨ j_k h 2 = 6) ∧ j_in h 2 (nI j + (2 : Int32)) then (if j_k h 4 = 10 then (jbI (m_F_glimpse F 4 (j_I h 2 (nI j + (1 : Int32)).toNatClampNeg) (j_I h 2 (nI j + (2 : Int32)).toNatClampNeg) h) fun r118 h117 => if (j_k h117 2 = 0 ∨ j_k h117 2 = 6) ∧ j_in h117 2 (nI j + (1 : Int32)) then (if (j_k h117 2 = 0 ∨ j_k h117 2 = 6) ∧ j_in h117 2 (nI j + (2 : Int32)) then (if j_k h117 85 = 17 then (jbI (m_M_glimpse F 85 (j_I h117 2 (nI j + (1 : Int32)).toNatClampNeg) (j_I h117 2 (nI j + (2 : Int32)).toNatClampNeg) h117) fun r120 h119 => if r118 = r120 then (k18 2 4 85 (nI j + (6 : Int32)) h119) else some (some (.int (0 : Int32)), h119)) else none) else none) else none) else none) else none) else none) = k18 2 4 85 (nI j + (6 : Int32)) h7 ∧ MJ h7 s' ∧ CJ h7 s' ∧ WJ s' ∧ scr h7 L xs ∧ j_c h7 ≤ j_c h + 12 ∧ j_z h7 ≤ j_z h + 700 := by
  obtain ⟨r, h5, h7, s', e5, e7, M7, C7, w', S5, S7, k5, c7, z7⟩ := cal_I (K_glimpse (F := F) w (j_I h 2 (nI j + (1 : Int32)).toNatClampNeg) (j_I h 2 (nI j + (2 : Int32)).toNatClampNeg)) M C S
  refine ⟨h7, s', ?_, M7, C7, w', S7, c7, z7⟩
  rw [if_pos (show (j_k h 2 = 0 ∨ j_k h 2 = 6) ∧ j_in h 2 (nI j + (1 : Int32)) from ⟨Or.inr S.1, scr_in S hj hL 1 (by omega) rfl⟩)]
  rw [if_pos (show (j_k h 2 = 0 ∨ j_k h 2 = 6) ∧ j_in h 2 (nI j + (2 : Int32)) from ⟨Or.inr S.1, scr_in S hj hL 2 (by omega) rfl⟩)]
  rw [if_pos (sf_k4 C.S), bI_of e5]
  rw [if_pos (show (j_k h5 2 = 0 ∨ j_k h5 2 = 6) ∧ j_in h5 2 (nI j + (1 : Int32)) from ⟨Or.inr S5.1, scr_in S5 hj hL 1 (by omega) rfl⟩)]
  rw [if_pos (show (j_k h5 2 = 0 ∨ j_k h5 2 = 6) ∧ j_in h5 2 (nI j + (2 : Int32)) from ⟨Or.inr S5.1, scr_in S5 hj hL 2 (by omega) rfl⟩)]
  have ee : ∀ i, j_I h5 2 i = j_I h 2 i := fun i => (S5.2.2 i).trans (S.2.2 i).symm
  simp only [ee]
  rw [if_pos k5, bI_of e7, if_pos rfl]
theorem lw_29 {F : Nat × Nat} (hF : FF F) {h : jH} {s : St} (w : WJ s) (M : MJ h s) (C : CJ h s) {L : Nat} {xs : Nat → Int32} (S : scr h L xs) {j : Nat} (hj : j + 6 ≤ L) (hL : L ≤ 3072) (k18 : Nat → Nat → Nat → Int32 → jH → Option jO) : ∃ h7 s', (if j_k h 4 = 10 then (jbI (m_F_forget F 4 h) fun r122 h121 => if j_k h121 85 = 17 then (jbI (m_M_forget F 85 h121) fun r124 h123 => if r122 = r124 then (k18 2 4 85 (nI j + (6 : Int32)) h123) else some (some (.int (0 : Int32)), h123)) else none) else none) = k18 2 4 85 (nI j + (6 : Int32)) h7 ∧ MJ h7 s' ∧ CJ h7 s' ∧ WJ s' ∧ scr h7 L xs ∧ j_c h7 ≤ j_c h + 12 ∧ j_z h7 ≤ j_z h + 700 := by
  obtain ⟨r, h5, h7, s', e5, e7, M7, C7, w', S5, S7, k5, c7, z7⟩ := cal_I (K_forget (F := F) w ) M C S
  refine ⟨h7, s', ?_, M7, C7, w', S7, c7, z7⟩
  rw [if_pos (sf_k4 C.S), bI_of e5]
  rw [if_pos k5, bI_of e7, if_pos rfl]
theorem lw_30 {F : Nat × Nat} (hF : FF F) {h : jH} {s : St} (w : WJ s) (M : MJ h s) (C : CJ h s) {L : Nat} {xs : Nat → Int32} (S : scr h L xs) {j : Nat} (hj : j + 6 ≤ L) (hL : L ≤ 3072) (k18 : Nat → Nat → Nat → Int32 → jH → Option jO) : ∃ h7 s', (if j_k h 4 = 10 then (jbI (m_F_yard F 4 h) fun r126 h125 => if j_k h125 85 = 17 then (jbI (m_M_yard F 85 h125) fun r128 h127 => if r126 = r128 then (k18 2 4 85 (nI j + (6 : Int32)) h127) else some (some (.int (0 : Int32)), h127)) else none) else none) = k18 2 4 85 (nI j + (6 : Int32)) h7 ∧ MJ h7 s' ∧ CJ h7 s' ∧ WJ s' ∧ scr h7 L xs ∧ j_c h7 ≤ j_c h + 12 ∧ j_z h7 ≤ j_z h + 700 := by
  obtain ⟨r, h5, h7, s', e5, e7, M7, C7, w', S5, S7, k5, c7, z7⟩ := cal_I (K_yard (F := F) hF w ) M C S
  refine ⟨h7, s', ?_, M7, C7, w', S7, c7, z7⟩
  rw [if_pos (sf_k4 C.S), bI_of e5]
  rw [if_pos k5, bI_of e7, if_pos rfl]
theorem lw_31 {F : Nat × Nat} (hF : FF F) {h : jH} {s : St} (w : WJ s) (M : MJ h s) (C : CJ h s) {L : Nat} {xs : Nat → Int32} (S : scr h L xs) {j : Nat} (hj : j + 6 ≤ L) (hL : L ≤ 3072) (k18 : Nat → Nat → Nat → Int32 → jH → Option jO) : ∃ h7 s', (if (j_k h 2 = 0 ∨ j_k h 2 = 6) ∧ j_in h 2 (nI j + (1 : Int32)) then (if j_k h 4 = 10 then (jbI (m_F_look F 4 (j_I h 2 (nI j + (1 : Int32)).toNatClampNeg) h) fun r130 h129 => if (j_k h129 2 = 0 ∨ j_k h129 2 = 6) ∧ j_in h129 2 (nI j + (1 : Int32)) then (if j_k h129 85 = 17 then (jbI (m_M_look F 85 (j_I h129 2 (nI j + (1 : Int32)).toNatClampNeg) h129) fun r132 h131 => if r130 = r132 then (k18 2 4 85 (nI j + (6 : Int32)) h131) else some (some (.int (0 : Int32)), h131)) else none) else none) else none) else none) = k18 2 4 85 (nI j + (6 : Int32)) h7 ∧ MJ h7 s' ∧ CJ h7 s' ∧ WJ s' ∧ scr h7 L xs ∧ j_c h7 ≤ j_c h + 12 ∧ j_z h7 ≤ j_z h + 700 := by
  obtain ⟨r, h5, h7, s', e5, e7, M7, C7, w', S5, S7, k5, c7, z7⟩ := cal_I (K_look (F := F) hF w (j_I h 2 (nI j + (1 : Int32)).toNatClampNeg)) M C S
  refine ⟨h7, s', ?_, M7, C7, w', S7, c7, z7⟩
  rw [if_pos (show (j_k h 2 = 0 ∨ j_k h 2 = 6) ∧ j_in h 2 (nI j + (1 : Int32)) from ⟨Or.inr S.1, scr_in S hj hL 1 (by omega) rfl⟩)]
  rw [if_pos (sf_k4 C.S), bI_of e5]
  rw [if_pos (show (j_k h5 2 = 0 ∨ j_k h5 2 = 6) ∧ j_in h5 2 (nI j + (1 : Int32)) from ⟨Or.inr S5.1, scr_in S5 hj hL 1 (by omega) rfl⟩)]
  have ee : ∀ i, j_I h5 2 i = j_I h 2 i := fun i => (S5.2.2 i).trans (S.2.2 i).symm
  simp only [ee]
  rw [if_pos k5, bI_of e7, if_pos rfl]
theorem lw_32 {F : Nat × Nat} (hF : FF F) {h : jH} {s : St} (w : WJ s) (M : MJ h s) (C : CJ h s) {L : Nat} {xs : Nat → Int32} (S : scr h L xs) {j : Nat} (hj : j + 6 ≤ L) (hL : L ≤ 3072) (k18 : Nat → Nat → Nat → Int32 → jH → Option jO) : ∃ h7 s', (if (j_k h 2 = 0 ∨ j_k h 2 = 6) ∧ j_in h 2 (nI j + (1 : Int32)) then (if j_k h 4 = 10 then (jbI (m_F_reach F 4 (j_I h 2 (nI j + (1 : Int32)).toNatClampNeg) h) fun r134 h133 => if (j_k h133 2 = 0 ∨ j_k h133 2 = 6) ∧ j_in h133 2 (nI j + (1 : Int32)) then (if j_k h133 85 = 17 then (jbI (m_M_reach F 85 (j_I h133 2 (nI j + (1 : Int32)).toNatClampNeg) h133) fun r136 h135 => if r134 = r136 then (k18 2 4 85 (nI j + (6 : Int32)) h135) else some (some (.int (0 : Int32)), h135)) else none) else none) else none) else none) = k18 2 4 85 (nI j + (6 : Int32)) h7 ∧ MJ h7 s' ∧ CJ h7 s' ∧ WJ s' ∧ scr h7 L xs ∧ j_c h7 ≤ j_c h + 12 ∧ j_z h7 ≤ j_z h + 700 := by
  obtain ⟨r, h5, h7, s', e5, e7, M7, C7, w', S5, S7, k5, c7, z7⟩ := cal_I (K_reach (F := F) hF w (j_I h 2 (nI j + (1 : Int32)).toNatClampNeg)) M C S
  refine ⟨h7, s', ?_, M7, C7, w', S7, c7, z7⟩
  rw [if_pos (show (j_k h 2 = 0 ∨ j_k h 2 = 6) ∧ j_in h 2 (nI j + (1 : Int32)) from ⟨Or.inr S.1, scr_in S hj hL 1 (by omega) rfl⟩)]
  rw [if_pos (sf_k4 C.S), bI_of e5]
  rw [if_pos (show (j_k h5 2 = 0 ∨ j_k h5 2 = 6) ∧ j_in h5 2 (nI j + (1 : Int32)) from ⟨Or.inr S5.1, scr_in S5 hj hL 1 (by omega) rfl⟩)]
  have ee : ∀ i, j_I h5 2 i = j_I h 2 i := fun i => (S5.2.2 i).trans (S.2.2 i).symm
  simp only [ee]
  rw [if_pos k5, bI_of e7, if_pos rfl]
theorem lw_33 {F : Nat × Nat} (hF : FF F) {h : jH} {s : St} (w : WJ s) (M : MJ h s) (C : CJ h s) {L : Nat} {xs : Nat → Int32} (S : scr h L xs) {j : Nat} (hj : j + 6 ≤ L) (hL : L ≤ 3072) (k18 : Nat → Nat → Nat → Int32 → jH → Option jO) : ∃ h7 s', (if (j_k h 2 = 0 ∨ j_k h 2 = 6) ∧ j_in h 2 (nI j + (1 : Int32)) then (if j_k h 4 = 10 then (jbI (m_F_cover F 4 (j_I h 2 (nI j + (1 : Int32)).toNatClampNeg) h) fun r138 h137 => if (j_k h137 2 = 0 ∨ j_k h137 2 = 6) ∧ j_in h137 2 (nI j + (1 : Int32)) then (if j_k h137 85 = 17 then (jbI (m_M_cover F 85 (j_I h137 2 (nI j + (1 : Int32)).toNatClampNeg) h137) fun r140 h139 => if r138 = r140 then (k18 2 4 85 (nI j + (6 : Int32)) h139) else some (some (.int (0 : Int32)), h139)) else none) else none) else none) else none) = k18 2 4 85 (nI j + (6 : Int32)) h7 ∧ MJ h7 s' ∧ CJ h7 s' ∧ WJ s' ∧ scr h7 L xs ∧ j_c h7 ≤ j_c h + 12 ∧ j_z h7 ≤ j_z h + 700 := by
  obtain ⟨r, h5, h7, s', e5, e7, M7, C7, w', S5, S7, k5, c7, z7⟩ := cal_I (K_cover (F := F) hF w (j_I h 2 (nI j + (1 : Int32)).toNatClampNeg)) M C S
  refine ⟨h7, s', ?_, M7, C7, w', S7, c7, z7⟩
  rw [if_pos (show (j_k h 2 = 0 ∨ j_k h 2 = 6) ∧ j_in h 2 (nI j + (1 : Int32)) from ⟨Or.inr S.1, scr_in S hj hL 1 (by omega) rfl⟩)]
  rw [if_pos (sf_k4 C.S), bI_of e5]
  rw [if_pos (show (j_k h5 2 = 0 ∨ j_k h5 2 = 6) ∧ j_in h5 2 (nI j + (1 : Int32)) from ⟨Or.inr S5.1, scr_in S5 hj hL 1 (by omega) rfl⟩)]
  have ee : ∀ i, j_I h5 2 i = j_I h 2 i := fun i => (S5.2.2 i).trans (S.2.2 i).symm
  simp only [ee]
  rw [if_pos k5, bI_of e7, if_pos rfl]
theorem lw_34 {F : Nat × Nat} (hF : FF F) {h : jH} {s : St} (w : WJ s) (M : MJ h s) (C : CJ h s) {L : Nat} {xs : Nat → Int32} (S : scr h L xs) {j : Nat} (hj : j + 6 ≤ L) (hL : L ≤ 3072) (k18 : Nat → Nat → Nat → Int32 → jH → Option jO) : ∃ h7 s', (if (j_k h 2 = 0 ∨ j_k h 2 = 6) ∧ j_in h 2 (nI j + (1 : Int32)) then (if (j_k h 2 = 0 ∨ j_k h 2 = 6) ∧ j_in h 2 (nI j + (2 : Int32)) then (if j_k h 4 = 10 then (jbJ (m_F_few F 4 (j_I h 2 (nI j + (1 : Int32)).toNatClampNeg) (j_I h 2 (nI j + (2 : Int32)).toNatClampNeg) h) fun r142 h141 => if (j_k h141 2 = 0 ∨ j_k h141 2 = 6) ∧ j_in h141 2 (nI j + (1 : Int32)) then (if (j_k h141 2 = 0 ∨ j_k h141 2 = 6) ∧ j_in h141 2 (nI j + (2 : Int32)) then (if j_k h141 85 = 17 then (jbJ (m_M_few F 85 (j_I h141 2 (nI j + (1 : Int32)).toNatClampNeg) (j_I h141 2 (nI j + (2 : Int32)).toNatClampNeg) h141) fun r144 h143 => if lg_cmp r142 r144 = (0 : Int32) then (k18 2 4 85 (nI j + (6 : Int32)) h143) else some (some (.int (0 : Int32)), h143)) else none) else none) else none) else none) else none) else none) = k18 2 4 85 (nI j + (6 : Int32)) h7 ∧ MJ h7 s' ∧ CJ h7 s' ∧ WJ s' ∧ scr h7 L xs ∧ j_c h7 ≤ j_c h + 12 ∧ j_z h7 ≤ j_z h + 700 := by
  obtain ⟨r, h5, h7, s', e5, e7, M7, C7, w', S5, S7, k5, c7, z7⟩ := cal_J (K_few (F := F) hF w (j_I h 2 (nI j + (1 : Int32)).toNatClampNeg) (j_I h 2 (nI j + (2 : Int32)).toNatClampNeg)) M C S
  refine ⟨h7, s', ?_, M7, C7, w', S7, c7, z7⟩
  rw [if_pos (show (j_k h 2 = 0 ∨ j_k h 2 = 6) ∧ j_in h 2 (nI j + (1 : Int32)) from ⟨Or.inr S.1, scr_in S hj hL 1 (by omega) rfl⟩)]
  rw [if_pos (show (j_k h 2 = 0 ∨ j_k h 2 = 6) ∧ j_in h 2 (nI j + (2 : Int32)) from ⟨Or.inr S.1, scr_in S hj hL 2 (by omega) rfl⟩)]
  rw [if_pos (sf_k4 C.S), bJ_of e5]
  rw [if_pos (show (j_k h5 2 = 0 ∨ j_k h5 2 = 6) ∧ j_in h5 2 (nI j + (1 : Int32)) from ⟨Or.inr S5.1, scr_in S5 hj hL 1 (by omega) rfl⟩)]
  rw [if_pos (show (j_k h5 2 = 0 ∨ j_k h5 2 = 6) ∧ j_in h5 2 (nI j + (2 : Int32)) from ⟨Or.inr S5.1, scr_in S5 hj hL 2 (by omega) rfl⟩)]
  have ee : ∀ i, j_I h5 2 i = j_I h 2 i := fun i => (S5.2.2 i).trans (S.2.2 i).symm
  simp only [ee]
  rw [if_pos k5, bJ_of e7, if_pos (lgc r)]
theorem lw_35 {F : Nat × Nat} (hF : FF F) {h : jH} {s : St} (w : WJ s) (M : MJ h s) (C : CJ h s) {L : Nat} {xs : Nat → Int32} (S : scr h L xs) {j : Nat} (hj : j + 6 ≤ L) (hL : L ≤ 3072) (k18 : Nat → Nat → Nat → Int32 → jH → Option jO) : ∃ h7 s', (if (j_k h 2 = 0 ∨ j_k h 2 = 6) ∧ j_in h 2 (nI j + (1 : Int32)) then (if (j_k h 2 = 0 ∨ j_k h 2 = 6) ∧ j_in h 2 (nI j + (2 : Int32)) then (if (j_k h 2 = 0 ∨ j_k h 2 = 6) ∧ j_in h 2 (nI j + (3 : Int32)) then (if j_k h 4 = 10 then (jbI (m_F_compare F 4 (j_I h 2 (nI j + (1 : Int32)).toNatClampNeg) (j_I h 2 (nI j + (2 : Int32)).toNatClampNeg) (j_I h 2 (nI j + (3 : Int32)).toNatClampNeg) h) fun r146 h145 => if (j_k h145 2 = 0 ∨ j_k h145 2 = 6) ∧ j_in h145 2 (nI j + (1 : Int32)) then (if (j_k h145 2 = 0 ∨ j_k h145 2 = 6) ∧ j_in h145 2 (nI j + (2 : Int32)) then (if (j_k h145 2 = 0 ∨ j_k h145 2 = 6) ∧ j_in h145 2 (nI j + (3 : Int32)) then (if j_k h145 85 = 17 then (jbI (m_M_compare F 85 (j_I h145 2 (nI j + (1 : Int32)).toNatClampNeg) (j_I h145 2 (nI j + (2 : Int32)).toNatClampNeg) (j_I h145 2 (nI j + (3 : Int32)).toNatClampNeg) h145) fun r148 h147 => if r146 = r148 then (k18 2 4 85 (nI j + (6 : Int32)) h147) else some (some (.int (0 : Int32)), h147)) else none) else none) else none) else none) else none) else none) else none) else none) = k18 2 4 85 (nI j + (6 : Int32)) h7 ∧ MJ h7 s' ∧ CJ h7 s' ∧ WJ s' ∧ scr h7 L xs ∧ j_c h7 ≤ j_c h + 12 ∧ j_z h7 ≤ j_z h + 700 := by
  obtain ⟨r, h5, h7, s', e5, e7, M7, C7, w', S5, S7, k5, c7, z7⟩ := cal_I (K_compare (F := F) hF w (j_I h 2 (nI j + (1 : Int32)).toNatClampNeg) (j_I h 2 (nI j + (2 : Int32)).toNatClampNeg) (j_I h 2 (nI j + (3 : Int32)).toNatClampNeg)) M C S
  refine ⟨h7, s', ?_, M7, C7, w', S7, c7, z7⟩
  rw [if_pos (show (j_k h 2 = 0 ∨ j_k h 2 = 6) ∧ j_in h 2 (nI j + (1 : Int32)) from ⟨Or.inr S.1, scr_in S hj hL 1 (by omega) rfl⟩)]
  rw [if_pos (show (j_k h 2 = 0 ∨ j_k h 2 = 6) ∧ j_in h 2 (nI j + (2 : Int32)) from ⟨Or.inr S.1, scr_in S hj hL 2 (by omega) rfl⟩)]
  rw [if_pos (show (j_k h 2 = 0 ∨ j_k h 2 = 6) ∧ j_in h 2 (nI j + (3 : Int32)) from ⟨Or.inr S.1, scr_in S hj hL 3 (by omega) rfl⟩)]
  rw [if_pos (sf_k4 C.S), bI_of e5]
  rw [if_pos (show (j_k h5 2 = 0 ∨ j_k h5 2 = 6) ∧ j_in h5 2 (nI j + (1 : Int32)) from ⟨Or.inr S5.1, scr_in S5 hj hL 1 (by omega) rfl⟩)]
  rw [if_pos (show (j_k h5 2 = 0 ∨ j_k h5 2 = 6) ∧ j_in h5 2 (nI j + (2 : Int32)) from ⟨Or.inr S5.1, scr_in S5 hj hL 2 (by omega) rfl⟩)]
  rw [if_pos (show (j_k h5 2 = 0 ∨ j_k h5 2 = 6) ∧ j_in h5 2 (nI j + (3 : Int32)) from ⟨Or.inr S5.1, scr_in S5 hj hL 3 (by omega) rfl⟩)]
  have ee : ∀ i, j_I h5 2 i = j_I h 2 i := fun i => (S5.2.2 i).trans (S.2.2 i).symm
  simp only [ee]
  rw [if_pos k5, bI_of e7, if_pos rfl]
theorem lw_36 {F : Nat × Nat} (hF : FF F) {h : jH} {s : St} (w : WJ s) (M : MJ h s) (C : CJ h s) {L : Nat} {xs : Nat → Int32} (S : scr h L xs) {j : Nat} (hj : j + 6 ≤ L) (hL : L ≤ 3072) (k18 : Nat → Nat → Nat → Int32 → jH → Option jO) : ∃ h7 s', (if (j_k h 2 = 0 ∨ j_k h 2 = 6) ∧ j_in h 2 (nI j + (1 : Int32)) then (if (j_k h 2 = 0 ∨ j_k h 2 = 6) ∧ j_in h 2 (nI j + (2 : Int32)) then (if j_k h 4 = 10 then (jbI (m_F_days F 4 (j_I h 2 (nI j + (1 : Int32)).toNatClampNeg) (j_I h 2 (nI j + (2 : Int32)).toNatClampNeg) h) fun r150 h149 => if (j_k h149 2 = 0 ∨ j_k h149 2 = 6) ∧ j_in h149 2 (nI j + (1 : Int32)) then (if (j_k h149 2 = 0 ∨ j_k h149 2 = 6) ∧ j_in h149 2 (nI j + (2 : Int32)) then (if j_k h149 85 = 17 then (jbI (m_M_days F 85 (j_I h149 2 (nI j + (1 : Int32)).toNatClampNeg) (j_I h149 2 (nI j + (2 : Int32)).toNatClampNeg) h149) fun r152 h151 => if r150 = r152 then (k18 2 4 85 (nI j + (6 : Int32)) h151) else some (some (.int (0 : Int32)), h151)) else none) else none) else none) else none) else none) else none) = k18 2 4 85 (nI j + (6 : Int32)) h7 ∧ MJ h7 s' ∧ CJ h7 s' ∧ WJ s' ∧ scr h7 L xs ∧ j_c h7 ≤ j_c h + 12 ∧ j_z h7 ≤ j_z h + 700 := by
  obtain ⟨r, h5, h7, s', e5, e7, M7, C7, w', S5, S7, k5, c7, z7⟩ := cal_I (K_days (F := F) hF w (j_I h 2 (nI j + (1 : Int32)).toNatClampNeg) (j_I h 2 (nI j + (2 : Int32)).toNatClampNeg)) M C S
  refine ⟨h7, s', ?_, M7, C7, w', S7, c7, z7⟩
  rw [if_pos (show (j_k h 2 = 0 ∨ j_k h 2 = 6) ∧ j_in h 2 (nI j + (1 : Int32)) from ⟨Or.inr S.1, scr_in S hj hL 1 (by omega) rfl⟩)]
  rw [if_pos (show (j_k h 2 = 0 ∨ j_k h 2 = 6) ∧ j_in h 2 (nI j + (2 : Int32)) from ⟨Or.inr S.1, scr_in S hj hL 2 (by omega) rfl⟩)]
  rw [if_pos (sf_k4 C.S), bI_of e5]
  rw [if_pos (show (j_k h5 2 = 0 ∨ j_k h5 2 = 6) ∧ j_in h5 2 (nI j + (1 : Int32)) from ⟨Or.inr S5.1, scr_in S5 hj hL 1 (by omega) rfl⟩)]
  rw [if_pos (show (j_k h5 2 = 0 ∨ j_k h5 2 = 6) ∧ j_in h5 2 (nI j + (2 : Int32)) from ⟨Or.inr S5.1, scr_in S5 hj hL 2 (by omega) rfl⟩)]
  have ee : ∀ i, j_I h5 2 i = j_I h 2 i := fun i => (S5.2.2 i).trans (S.2.2 i).symm
  simp only [ee]
  rw [if_pos k5, bI_of e7, if_pos rfl]
theorem lw_37 {F : Nat × Nat} (hF : FF F) {h : jH} {s : St} (w : WJ s) (M : MJ h s) (C : CJ h s) {L : Nat} {xs : Nat → Int32} (S : scr h L xs) {j : Nat} (hj : j + 6 ≤ L) (hL : L ≤ 3072) (k18 : Nat → Nat → Nat → Int32 → jH → Option jO) : ∃ h7 s', (if (j_k h 2 = 0 ∨ j_k h 2 = 6) ∧ j_in h 2 (nI j + (1 : Int32)) then (if (j_k h 2 = 0 ∨ j_k h 2 = 6) ∧ j_in h 2 (nI j + (2 : Int32)) then (if j_k h 4 = 10 then (jbI (m_F_drawn F 4 (j_I h 2 (nI j + (1 : Int32)).toNatClampNeg) (j_I h 2 (nI j + (2 : Int32)).toNatClampNeg) h) fun r154 h153 => if (j_k h153 2 = 0 ∨ j_k h153 2 = 6) ∧ j_in h153 2 (nI j + (1 : Int32)) then (if (j_k h153 2 = 0 ∨ j_k h153 2 = 6) ∧ j_in h153 2 (nI j + (2 : Int32)) then (if j_k h153 85 = 17 then (jbI (m_M_drawn F 85 (j_I h153 2 (nI j + (1 : Int32)).toNatClampNeg) (j_I h153 2 (nI j + (2 : Int32)).toNatClampNeg) h153) fun r156 h155 => if r154 = r156 then (k18 2 4 85 (nI j + (6 : Int32)) h155) else some (some (.int (0 : Int32)), h155)) else none) else none) else none) else none) else none) else none) = k18 2 4 85 (nI j + (6 : Int32)) h7 ∧ MJ h7 s' ∧ CJ h7 s' ∧ WJ s' ∧ scr h7 L xs ∧ j_c h7 ≤ j_c h + 12 ∧ j_z h7 ≤ j_z h + 700 := by
  obtain ⟨r, h5, h7, s', e5, e7, M7, C7, w', S5, S7, k5, c7, z7⟩ := cal_I (K_drawn (F := F) hF w (j_I h 2 (nI j + (1 : Int32)).toNatClampNeg) (j_I h 2 (nI j + (2 : Int32)).toNatClampNeg)) M C S
  refine ⟨h7, s', ?_, M7, C7, w', S7, c7, z7⟩
  rw [if_pos (show (j_k h 2 = 0 ∨ j_k h 2 = 6) ∧ j_in h 2 (nI j + (1 : Int32)) from ⟨Or.inr S.1, scr_in S hj hL 1 (by omega) rfl⟩)]
  rw [if_pos (show (j_k h 2 = 0 ∨ j_k h 2 = 6) ∧ j_in h 2 (nI j + (2 : Int32)) from ⟨Or.inr S.1, scr_in S hj hL 2 (by omega) rfl⟩)]
  rw [if_pos (sf_k4 C.S), bI_of e5]
  rw [if_pos (show (j_k h5 2 = 0 ∨ j_k h5 2 = 6) ∧ j_in h5 2 (nI j + (1 : Int32)) from ⟨Or.inr S5.1, scr_in S5 hj hL 1 (by omega) rfl⟩)]
  rw [if_pos (show (j_k h5 2 = 0 ∨ j_k h5 2 = 6) ∧ j_in h5 2 (nI j + (2 : Int32)) from ⟨Or.inr S5.1, scr_in S5 hj hL 2 (by omega) rfl⟩)]
  have ee : ∀ i, j_I h5 2 i = j_I h 2 i := fun i => (S5.2.2 i).trans (S.2.2 i).symm
  simp only [ee]
  rw [if_pos k5, bI_of e7, if_pos rfl]
theorem lw_38 {F : Nat × Nat} (hF : FF F) {h : jH} {s : St} (w : WJ s) (M : MJ h s) (C : CJ h s) {L : Nat} {xs : Nat → Int32} (S : scr h L xs) {j : Nat} (hj : j + 6 ≤ L) (hL : L ≤ 3072) (k18 : Nat → Nat → Nat → Int32 → jH → Option jO) : ∃ h7 s', (if (j_k h 2 = 0 ∨ j_k h 2 = 6) ∧ j_in h 2 (nI j + (1 : Int32)) then (if j_k h 4 = 10 then (jbI (m_F_image F 4 (j_I h 2 (nI j + (1 : Int32)).toNatClampNeg) h) fun r158 h157 => if (j_k h157 2 = 0 ∨ j_k h157 2 = 6) ∧ j_in h157 2 (nI j + (1 : Int32)) then (if j_k h157 85 = 17 then (jbI (m_M_image F 85 (j_I h157 2 (nI j + (1 : Int32)).toNatClampNeg) h157) fun r160 h159 => if r158 = r160 then (k18 2 4 85 (nI j + (6 : Int32)) h159) else some (some (.int (0 : Int32)), h159)) else none) else none) else none) else none) = k18 2 4 85 (nI j + (6 : Int32)) h7 ∧ MJ h7 s' ∧ CJ h7 s' ∧ WJ s' ∧ scr h7 L xs ∧ j_c h7 ≤ j_c h + 12 ∧ j_z h7 ≤ j_z h + 700 := by
  obtain ⟨r, h5, h7, s', e5, e7, M7, C7, w', S5, S7, k5, c7, z7⟩ := cal_I (K_image (F := F) hF w (j_I h 2 (nI j + (1 : Int32)).toNatClampNeg)) M C S
  refine ⟨h7, s', ?_, M7, C7, w', S7, c7, z7⟩
  rw [if_pos (show (j_k h 2 = 0 ∨ j_k h 2 = 6) ∧ j_in h 2 (nI j + (1 : Int32)) from ⟨Or.inr S.1, scr_in S hj hL 1 (by omega) rfl⟩)]
  rw [if_pos (sf_k4 C.S), bI_of e5]
  rw [if_pos (show (j_k h5 2 = 0 ∨ j_k h5 2 = 6) ∧ j_in h5 2 (nI j + (1 : Int32)) from ⟨Or.inr S5.1, scr_in S5 hj hL 1 (by omega) rfl⟩)]
  have ee : ∀ i, j_I h5 2 i = j_I h 2 i := fun i => (S5.2.2 i).trans (S.2.2 i).symm
  simp only [ee]
  rw [if_pos k5, bI_of e7, if_pos rfl]
theorem lw_39 {F : Nat × Nat} (hF : FF F) {h : jH} {s : St} (w : WJ s) (M : MJ h s) (C : CJ h s) {L : Nat} {xs : Nat → Int32} (S : scr h L xs) {j : Nat} (hj : j + 6 ≤ L) (hL : L ≤ 3072) (k18 : Nat → Nat → Nat → Int32 → jH → Option jO) : ∃ h7 s', (if (j_k h 2 = 0 ∨ j_k h 2 = 6) ∧ j_in h 2 (nI j + (1 : Int32)) then (if j_k h 4 = 10 then (jbI (m_F_back F 4 (j_I h 2 (nI j + (1 : Int32)).toNatClampNeg) h) fun r162 h161 => if (j_k h161 2 = 0 ∨ j_k h161 2 = 6) ∧ j_in h161 2 (nI j + (1 : Int32)) then (if j_k h161 85 = 17 then (jbI (m_M_back F 85 (j_I h161 2 (nI j + (1 : Int32)).toNatClampNeg) h161) fun r164 h163 => if r162 = r164 then (k18 2 4 85 (nI j + (6 : Int32)) h163) else some (some (.int (0 : Int32)), h163)) else none) else none) else none) else none) = k18 2 4 85 (nI j + (6 : Int32)) h7 ∧ MJ h7 s' ∧ CJ h7 s' ∧ WJ s' ∧ scr h7 L xs ∧ j_c h7 ≤ j_c h + 12 ∧ j_z h7 ≤ j_z h + 700 := by
  obtain ⟨r, h5, h7, s', e5, e7, M7, C7, w', S5, S7, k5, c7, z7⟩ := cal_I (K_back (F := F) hF w (j_I h 2 (nI j + (1 : Int32)).toNatClampNeg)) M C S
  refine ⟨h7, s', ?_, M7, C7, w', S7, c7, z7⟩
  rw [if_pos (show (j_k h 2 = 0 ∨ j_k h 2 = 6) ∧ j_in h 2 (nI j + (1 : Int32)) from ⟨Or.inr S.1, scr_in S hj hL 1 (by omega) rfl⟩)]
  rw [if_pos (sf_k4 C.S), bI_of e5]
  rw [if_pos (show (j_k h5 2 = 0 ∨ j_k h5 2 = 6) ∧ j_in h5 2 (nI j + (1 : Int32)) from ⟨Or.inr S5.1, scr_in S5 hj hL 1 (by omega) rfl⟩)]
  have ee : ∀ i, j_I h5 2 i = j_I h 2 i := fun i => (S5.2.2 i).trans (S.2.2 i).symm
  simp only [ee]
  rw [if_pos k5, bI_of e7, if_pos rfl]
theorem lw_40 {F : Nat × Nat} (hF : FF F) {h : jH} {s : St} (w : WJ s) (M : MJ h s) (C : CJ h s) {L : Nat} {xs : Nat → Int32} (S : scr h L xs) {j : Nat} (hj : j + 6 ≤ L) (hL : L ≤ 3072) (k18 : Nat → Nat → Nat → Int32 → jH → Option jO) : ∃ h7 s', (if (j_k h 2 = 0 ∨ j_k h 2 = 6) ∧ j_in h 2 (nI j + (1 : Int32)) then (if j_k h 4 = 10 then (jbI (m_F_count F 4 (j_I h 2 (nI j + (1 : Int32)).toNatClampNeg) h) fun r166 h165 => if (j_k h165 2 = 0 ∨ j_k h165 2 = 6) ∧ j_in h165 2 (nI j + (1 : Int32)) then (if j_k h165 85 = 17 then (jbI (m_M_count F 85 (j_I h165 2 (nI j + (1 : Int32)).toNatClampNeg) h165) fun r168 h167 => if r166 = r168 then (k18 2 4 85 (nI j + (6 : Int32)) h167) else some (some (.int (0 : Int32)), h167)) else none) else none) else none) else none) = k18 2 4 85 (nI j + (6 : Int32)) h7 ∧ MJ h7 s' ∧ CJ h7 s' ∧ WJ s' ∧ scr h7 L xs ∧ j_c h7 ≤ j_c h + 12 ∧ j_z h7 ≤ j_z h + 700 := by
  obtain ⟨r, h5, h7, s', e5, e7, M7, C7, w', S5, S7, k5, c7, z7⟩ := cal_I (K_count (F := F) hF w (j_I h 2 (nI j + (1 : Int32)).toNatClampNeg)) M C S
  refine ⟨h7, s', ?_, M7, C7, w', S7, c7, z7⟩
  rw [if_pos (show (j_k h 2 = 0 ∨ j_k h 2 = 6) ∧ j_in h 2 (nI j + (1 : Int32)) from ⟨Or.inr S.1, scr_in S hj hL 1 (by omega) rfl⟩)]
  rw [if_pos (sf_k4 C.S), bI_of e5]
  rw [if_pos (show (j_k h5 2 = 0 ∨ j_k h5 2 = 6) ∧ j_in h5 2 (nI j + (1 : Int32)) from ⟨Or.inr S5.1, scr_in S5 hj hL 1 (by omega) rfl⟩)]
  have ee : ∀ i, j_I h5 2 i = j_I h 2 i := fun i => (S5.2.2 i).trans (S.2.2 i).symm
  simp only [ee]
  rw [if_pos k5, bI_of e7, if_pos rfl]
theorem lw_41 {F : Nat × Nat} (hF : FF F) {h : jH} {s : St} (w : WJ s) (M : MJ h s) (C : CJ h s) {L : Nat} {xs : Nat → Int32} (S : scr h L xs) {j : Nat} (hj : j + 6 ≤ L) (hL : L ≤ 3072) (k18 : Nat → Nat → Nat → Int32 → jH → Option jO) : ∃ h7 s', (if j_k h 4 = 10 then (jbI (m_F_status F 4 h) fun r170 h169 => if j_k h169 85 = 17 then (jbI (m_M_status F 85 h169) fun r172 h171 => if r170 = r172 then (k18 2 4 85 (nI j + (6 : Int32)) h171) else some (some (.int (0 : Int32)), h171)) else none) else none) = k18 2 4 85 (nI j + (6 : Int32)) h7 ∧ MJ h7 s' ∧ CJ h7 s' ∧ WJ s' ∧ scr h7 L xs ∧ j_c h7 ≤ j_c h + 12 ∧ j_z h7 ≤ j_z h + 700 := by
  obtain ⟨r, h5, h7, s', e5, e7, M7, C7, w', S5, S7, k5, c7, z7⟩ := cal_I (K_status (F := F) w ) M C S
  refine ⟨h7, s', ?_, M7, C7, w', S7, c7, z7⟩
  rw [if_pos (sf_k4 C.S), bI_of e5]
  rw [if_pos k5, bI_of e7, if_pos rfl]
