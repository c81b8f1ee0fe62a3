/-! ORDERS: TIMES AND CLAUSES -/
def stopR (F : Nat × Nat) (v2 : Int32) (h25 : jH) : Option jO := if j_k h25 4 = 10 then (if j_k h25 4 = 10 then (j_rv (va_rf (j_R h25 4 0)) fun p27 => j_rv (va_rf (j_R h25 4 2)) fun p28 => if j_k h25 p27 = 12 then (jbV (m_L_copyFrom F p27 p28 h25) fun h29 => if j_k h29 4 = 10 then (if j_k h29 4 = 10 then (j_rv (va_rf (j_R h29 4 4)) fun p30 => j_rv (va_rf (j_R h29 4 5)) fun p31 => if j_k h29 p30 = 11 then (jbV (m_D_copyFrom F p30 p31 h29) fun h32 => if j_k h32 4 = 10 then (let h33 := j_sI h32 4 14 v2; if j_k h33 4 = 10 then (jbI (m_F_refuse F 4 (mI 2) h33) fun r35 h34 => some (some (.int r35), h34)) else none) else none) else none) else none) else none) else none) else none) else none
theorem kT_nx {s s' : St} (a : Nx s s') : kT s'.1 6 = kT s.1 6 := by
  have g := a.2.1
  unfold kT
  rw [g (181 + 6) (by omega)]
  refine Prod.ext (funext fun i => ?_) (funext fun i => ?_)
  · show (if _ then _ else _) = (if _ then _ else _)
    rw [g (188 + (400 * 6 + i)) (by omega)]
  · show (if _ then _ else _) = (if _ then _ else _)
    rw [g (2988 + (400 * 6 + i)) (by omega)]
theorem dRu_t {h h' h'' : jH} (x : jX dRu jN h h') (y : jX dRu jN h' h'') : jX dRu jN h h'' := (x.tr y).up (fun a i d => d.elim id id) (fun a i d => d.elim id id)
theorem dOc_t {h h' h'' : jH} (x : jX dOc jN h h') (y : jX dOc jN h' h'') : jX dOc jN h h'' := (x.tr y).up (fun a i d => d.elim id id) (fun a i d => d.elim id id)
/-- the class's row of times -/
theorem C_tm {h : jH} {cs : List Cz} (X : TX h 62 true cs) {ci : Nat} (hci : ci < cs.length) : j_I h 68 ci = nI cs[ci].2.2.2.1 := by
  obtain ⟨na, nb, ⟨A, ha, hb⟩, K, h6, h7, hl, hz, hcc, g, g2⟩ := id X
  obtain ⟨s, pre, post, Z, ez, es⟩ := KLp_at K ci hci
  rw [Nat.zero_add] at Z
  exact Z.2.2.2.2
theorem C_81 {F : Nat × Nat} {h : jH} (S : ShF h) {cs : List Cz} (X : TX h 62 true cs) {ci : Nat} (hci : ci < cs.length) (hc12 : cs.length ≤ 12) {tm tt : Nat} (htm : cs[ci].2.2.2.1 = tm) (h20 : tm ≤ 20) (htt : tt ≤ 20) (k71 : Nat → Value → Int32 → jH → Option jO) (f : Nat) : m_F_orders_81 F k71 (f + 1) 4 (.ref 62) (nI ci) (nI tt) h = if tt < tm then (jbI (m_F_runOnce F 4 62 (nI ci) h) fun r26 h25 => if r26 = (nI 0) then stopR F (nI ci) h25 else m_F_orders_81 F k71 f 4 (.ref 62) (nI ci) (nI (tt + 1)) h25) else k71 4 (.ref 62) (nI (ci + 1)) h := by
  have t1 := C_tm X hci
  rw [htm] at t1
  have inn : j_in h 68 (nI ci) := of_eq_true (by simp (disch := first | exact sR_rfl _ _ rfl | omega) only [ft_lit, ft_m1, ft_m2, ft_m3, ft_m5, ft_m6, ft_cl, ft_lt, ft_le, ft_eq, ft_mlt, ft_ltm, ft_mltm, ft_meq, ft_eqm, ft_meqm, ft_add, ft_mul, ft_sub, ft_nm, ft_m1p, ft_and, ft_or, ft_31, ft_shl, ft_shr, ft_bz, ft_z0, ft_z1, ft_z01, ft_bb, ft_zt, ft_zf, ft_or0, ft_rv, ft_rvr, ft_rf, ft_rfn, ft_bI, ft_bJ, ft_bV, ft_bR, ft_bRn, ft_isr, ft_isn, ft_ifn, ft_ifr, ft_ov, ft_ovn, ft_in, k_sI, n_sI, R_sI, J_sI, c_sI, z_sI, k_sJ, n_sJ, R_sJ, I_sJ, c_sJ, z_sJ, k_sR, n_sR, I_sR, J_sR, c_sR, z_sR, k_wI, n_wI, R_wI, J_wI, I_wIe, k_wJ, n_wJ, R_wJ, I_wJ, J_wJe, I_wIn, J_wJn, I_sIe, J_sJe, R_sRe, I_sIn, I_sIk, J_sJn, J_sJk, R_sRn, R_sRk, eq_self, if_true, if_false, ↓reduceIte, cond_true, cond_false, ↓cond_eq_ite, and_true, true_and, and_false, false_and, or_true, true_or, or_false, false_or, not_true_eq_false, not_false_eq_true, ft_ltT, ft_ltF, ft_eqT, ft_eqF, Bool.false_eq_true, Bool.true_eq_false, Bool.not_true, Bool.not_false, Bool.and_true, Bool.true_and, Bool.and_false, Bool.false_and, decide_true, decide_false, Nat.reduceAdd, Nat.reduceMul, Nat.reduceSub, Nat.reduceEqDiff, Nat.reduceLT, Nat.zero_add, Nat.add_zero, Nat.reduceDiv, Nat.reduceMod, sf_n68 S])
  rw [q_F_orders_81]
  show (if j_k h 62 = 15 then _ else _) = _
  rw [if_pos (sf_k62 S), sf_R62_5 S]
  show (if (j_k h 68 = 0 ∨ j_k h 68 = 6) ∧ j_in h 68 (nI ci) then (if nI tt < j_I h 68 (nI ci).toNatClampNeg then _ else _) else _) = _
  rw [if_pos ⟨Or.inl (sf_k68 S), inn⟩, ft_cl (by omega), t1]
  by_cases q : tt < tm
  · rw [if_pos q, if_pos (by rw [ft_lt (by omega) (by omega)]; exact q)]
    show (if j_k h 4 = 10 then _ else _) = _
    rw [if_pos (sf_k4 S), show nI tt + nI 1 = nI (tt + 1) from by simp (disch := first | exact sR_rfl _ _ rfl | omega) only [ft_lit, ft_m1, ft_m2, ft_m3, ft_m5, ft_m6, ft_cl, ft_lt, ft_le, ft_eq, ft_mlt, ft_ltm, ft_mltm, ft_meq, ft_eqm, ft_meqm, ft_add, ft_mul, ft_sub, ft_nm, ft_m1p, ft_and, ft_or, ft_31, ft_shl, ft_shr, ft_bz, ft_z0, ft_z1, ft_z01, ft_bb, ft_zt, ft_zf, ft_or0, ft_rv, ft_rvr, ft_rf, ft_rfn, ft_bI, ft_bJ, ft_bV, ft_bR, ft_bRn, ft_isr, ft_isn, ft_ifn, ft_ifr, ft_ov, ft_ovn, ft_in, k_sI, n_sI, R_sI, J_sI, c_sI, z_sI, k_sJ, n_sJ, R_sJ, I_sJ, c_sJ, z_sJ, k_sR, n_sR, I_sR, J_sR, c_sR, z_sR, k_wI, n_wI, R_wI, J_wI, I_wIe, k_wJ, n_wJ, R_wJ, I_wJ, J_wJe, I_wIn, J_wJn, I_sIe, J_sJe, R_sRe, I_sIn, I_sIk, J_sJn, J_sJk, R_sRn, R_sRk, eq_self, if_true, if_false, ↓reduceIte, cond_true, cond_false, ↓cond_eq_ite, and_true, true_and, and_false, false_and, or_true, true_or, or_false, false_or, not_true_eq_false, not_false_eq_true, ft_ltT, ft_ltF, ft_eqT, ft_eqF, Bool.false_eq_true, Bool.true_eq_false, Bool.not_true, Bool.not_false, Bool.and_true, Bool.true_and, Bool.and_false, Bool.false_and, decide_true, decide_false, Nat.reduceAdd, Nat.reduceMul, Nat.reduceSub, Nat.reduceEqDiff, Nat.reduceLT, Nat.zero_add, Nat.add_zero, Nat.reduceDiv, Nat.reduceMod]]
    rfl
  · rw [if_neg q, if_neg (by rw [ft_lt (by omega) (by omega)]; exact q), show nI ci + nI 1 = nI (ci + 1) from by simp (disch := first | exact sR_rfl _ _ rfl | omega) only [ft_lit, ft_m1, ft_m2, ft_m3, ft_m5, ft_m6, ft_cl, ft_lt, ft_le, ft_eq, ft_mlt, ft_ltm, ft_mltm, ft_meq, ft_eqm, ft_meqm, ft_add, ft_mul, ft_sub, ft_nm, ft_m1p, ft_and, ft_or, ft_31, ft_shl, ft_shr, ft_bz, ft_z0, ft_z1, ft_z01, ft_bb, ft_zt, ft_zf, ft_or0, ft_rv, ft_rvr, ft_rf, ft_rfn, ft_bI, ft_bJ, ft_bV, ft_bR, ft_bRn, ft_isr, ft_isn, ft_ifn, ft_ifr, ft_ov, ft_ovn, ft_in, k_sI, n_sI, R_sI, J_sI, c_sI, z_sI, k_sJ, n_sJ, R_sJ, I_sJ, c_sJ, z_sJ, k_sR, n_sR, I_sR, J_sR, c_sR, z_sR, k_wI, n_wI, R_wI, J_wI, I_wIe, k_wJ, n_wJ, R_wJ, I_wJ, J_wJe, I_wIn, J_wJn, I_sIe, J_sJe, R_sRe, I_sIn, I_sIk, J_sJn, J_sJk, R_sRn, R_sRk, eq_self, if_true, if_false, ↓reduceIte, cond_true, cond_false, ↓cond_eq_ite, and_true, true_and, and_false, false_and, or_true, true_or, or_false, false_or, not_true_eq_false, not_false_eq_true, ft_ltT, ft_ltF, ft_eqT, ft_eqF, Bool.false_eq_true, Bool.true_eq_false, Bool.not_true, Bool.not_false, Bool.and_true, Bool.true_and, Bool.and_false, Bool.false_and, decide_true, decide_false, Nat.reduceAdd, Nat.reduceMul, Nat.reduceSub, Nat.reduceEqDiff, Nat.reduceLT, Nat.zero_add, Nat.add_zero, Nat.reduceDiv, Nat.reduceMod]]
theorem O_times {F : Nat × Nat} (hF : FF F) {t l : Nat} {cs : List Cz} {ci : Nat} (hci : ci < cs.length) (hc12 : cs.length ≤ 12) {tm t' : Nat} (h20 : tm ≤ 20) (htm : cs[ci].2.2.2.1 = tm) : ∀ r tt (s : St) (m : Nat) (v : Int), tt + r = tm → WJ s → m + r < 1000 → (-1 ≤ v ∧ v ≤ 1000000) → t ≤ s.1 187 → (h_one (kT s.1 6) true (true, t, l)).1.1 = true → cs[ci] = (h_one (kT s.1 6) true (true, t, l)).2 → (∃ s' m' v', Nx s s' ∧ m' ≤ m + r ∧ (-1 ≤ v' ∧ v' ≤ 1000000) ∧ (∀ h, RM h s m v t → ∀ f, r < f → ∃ h', m_M_runs_19 F f 85 (nI (2400 + s.1 187)) (nI tm) (nI (2400 + t')) (nI tt) h = some (some (.int (nI 1)), h') ∧ RM h' s' m' v' t' ∧ jX dRu jN h h') ∧ (∀ h, CM h s m v cs → ∀ f k71, r < f → ∃ h', m_F_orders_81 F k71 f 4 (.ref 62) (nI ci) (nI tt) h = k71 4 (.ref 62) (nI (ci + 1)) h' ∧ CM h' s' m' v' cs ∧ jX dOc jN h h')) ∨ ((∀ h, RM h s m v t → ∀ f, r < f → ∃ h' s', m_M_runs_19 F f 85 (nI (2400 + s.1 187)) (nI tm) (nI (2400 + t')) (nI tt) h = some (some (.int (nI 0)), h') ∧ Nx s s' ∧ MJ h' s' ∧ jX dRu jN h h') ∧ (∀ h, CM h s m v cs → ∀ f k71, r < f → ∃ h' s', m_F_orders_81 F k71 f 4 (.ref 62) (nI ci) (nI tt) h = stopR F (nI ci) h' ∧ Nx s s' ∧ CJ h' s' ∧ jX dOc jN h h'))
  | 0, tt, s, m, v, e, w, hm, hv, ht, hok, hc => by
    left
    have e' : tt = tm := by omega
    refine ⟨s, m, v, Nx.rf w, by omega, hv, fun h R f hf => ?_, fun h Q f k71 hf => ?_⟩
    · obtain ⟨g, rfl⟩ : ∃ g, f = g + 1 := ⟨f - 1, by omega⟩
      have S : ShM h := by
        obtain ⟨k, im, u, tp, tl, sc, kd⟩ := s
        exact R.1.1
      refine ⟨j_sI h 85 43 (nI (2400 + t')), ?_, ⟨R.1.f27 (jX.rf.sI ⟨rfl, Or.inr (Or.inr rfl)⟩), by rw [I_sIk (by omega)]; exact R.2.1, by rw [I_sIk (by omega)]; exact R.2.2.1, I_sIe⟩, jX.rf.sI (Or.inr (Or.inr ⟨rfl, Or.inr (Or.inr rfl)⟩))⟩
      rw [q_M_runs_19, if_neg (by rw [ft_lt (by omega) (by omega)]; omega), if_pos (sm_k85 S)]
    · obtain ⟨g, rfl⟩ : ∃ g, f = g + 1 := ⟨f - 1, by omega⟩
      have S : ShF h := by
        obtain ⟨k, im, u, tp, tl, sc, kd⟩ := s
        exact Q.1.1
      refine ⟨h, ?_, Q, jX.rf⟩
      rw [C_81 S Q.2.1 hci hc12 htm h20 (by omega), if_neg (by omega)]
  | r + 1, tt, s, m, v, e, w, hm, hv, ht, hok, hc => by
    rcases O_once (F := F) hF w (m := m) (v := v) (by omega) hv ht hok hci hc with ⟨s1, m1, v1, N1, b1, b2, r1, c1⟩ | ⟨r1, c1⟩
    · have kt := kT_nx N1
      have k187 : s1.1 187 = s.1 187 := N1.2.1 187 (by omega)
      rcases O_times hF hci hc12 (t' := t') h20 htm r (tt + 1) s1 m1 v1 (by omega) N1.1 (by omega) b2 (by rw [k187]; exact ht) (by rw [kt]; exact hok) (by rw [kt]; exact hc) with ⟨s2, m2, v2, N2, b3, b4, r2, c2⟩ | ⟨r2, c2⟩
      · left
        refine ⟨s2, m2, v2, N1.tr N2, by omega, b4, fun h R f hf => ?_, fun h Q f k71 hf => ?_⟩
        · obtain ⟨g, rfl⟩ : ∃ g, f = g + 1 := ⟨f - 1, by omega⟩
          obtain ⟨h1, e1, R1, x1⟩ := r1 h R g tm (nI (2400 + t')) tt (by omega) h20
          obtain ⟨h2, e2, R2, x2⟩ := r2 h1 R1 g (by omega)
          rw [k187] at e2
          exact ⟨h2, e1.trans e2, R2, dRu_t x1 x2⟩
        · obtain ⟨g, rfl⟩ : ∃ g, f = g + 1 := ⟨f - 1, by omega⟩
          obtain ⟨h1, e1, Q1, x1⟩ := c1 h Q
          obtain ⟨h2, e2, Q2, x2⟩ := c2 h1 Q1 g k71 (by omega)
          have S : ShF h := by
            obtain ⟨k, im, u, tp, tl, sc, kd⟩ := s
            exact Q.1.1
          refine ⟨h2, ?_, Q2, dOc_t x1 x2⟩
          rw [C_81 S Q.2.1 hci hc12 htm h20 (by omega), if_pos (by omega), bI_of e1, if_neg (by decide)]
          exact e2
      · right
        refine ⟨fun h R f hf => ?_, fun h Q f k71 hf => ?_⟩
        · obtain ⟨g, rfl⟩ : ∃ g, f = g + 1 := ⟨f - 1, by omega⟩
          obtain ⟨h1, e1, R1, x1⟩ := r1 h R g tm (nI (2400 + t')) tt (by omega) h20
          obtain ⟨h2, s2, e2, N2, M2, x2⟩ := r2 h1 R1 g (by omega)
          rw [k187] at e2
          exact ⟨h2, s2, e1.trans e2, N1.tr N2, M2, dRu_t x1 x2⟩
        · obtain ⟨g, rfl⟩ : ∃ g, f = g + 1 := ⟨f - 1, by omega⟩
          obtain ⟨h1, e1, Q1, x1⟩ := c1 h Q
          obtain ⟨h2, s2, e2, N2, Q2, x2⟩ := c2 h1 Q1 g k71 (by omega)
          have S : ShF h := by
            obtain ⟨k, im, u, tp, tl, sc, kd⟩ := s
            exact Q.1.1
          refine ⟨h2, s2, ?_, N1.tr N2, Q2, dOc_t x1 x2⟩
          rw [C_81 S Q.2.1 hci hc12 htm h20 (by omega), if_pos (by omega), bI_of e1, if_neg (by decide)]
          exact e2
    · right
      refine ⟨fun h R f hf => ?_, fun h Q f k71 hf => ?_⟩
      · obtain ⟨g, rfl⟩ : ∃ g, f = g + 1 := ⟨f - 1, by omega⟩
        obtain ⟨h1, e1, M1, x1⟩ := r1 h R g tm (nI (2400 + t')) tt (by omega) h20
        exact ⟨h1, s, e1, Nx.rf w, M1, x1⟩
      · obtain ⟨g, rfl⟩ : ∃ g, f = g + 1 := ⟨f - 1, by omega⟩
        obtain ⟨h1, e1, Q1, x1⟩ := c1 h Q
        have S : ShF h := by
          obtain ⟨k, im, u, tp, tl, sc, kd⟩ := s
          exact Q.1.1
        refine ⟨h1, s, ?_, Nx.rf w, Q1, x1⟩
        rw [C_81 S Q.2.1 hci hc12 htm h20 (by omega), if_pos (by omega), bI_of e1, if_pos rfl]
theorem h_xl_pre {T : Tk} {od : Bool} : ∀ f m (x : Ps × List Cz), ∃ r, (h_xl T od f m x).2 = x.2 ++ r
  | 0, m, x => ⟨[], by rw [List.append_nil]; rfl⟩
  | f + 1, m, x => by
    unfold h_xl
    split
    · split
      · exact ⟨[], by rw [List.append_nil]⟩
      · obtain ⟨r, e⟩ := h_xl_pre (T := T) (od := od) f (m + 1) ((h_one T od (h_adv x.1)).1, x.2 ++ [(h_one T od (h_adv x.1)).2])
        exact ⟨[(h_one T od (h_adv x.1)).2] ++ r, by rw [e, List.append_assoc]⟩
    · exact ⟨[], by rw [List.append_nil]⟩
