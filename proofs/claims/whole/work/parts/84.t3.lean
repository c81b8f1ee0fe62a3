/-! ORDERS: CLAUSES -/
theorem C_71 {F : Nat × Nat} {h : jH} (S : ShF h) {cs : List Cz} (X : TX h 62 true cs) (hc12 : cs.length ≤ 12) {ci m : Nat} (hci : ci ≤ cs.length) (j1 : j_J h 81 1 = iL (m : Nat)) (f : Nat) : m_F_orders_71 F (f + 1) 4 (.ref 62) (nI ci) h = if ci < cs.length then m_F_orders_81 F (m_F_orders_71 F f) F.1 4 (.ref 62) (nI ci) (nI 0) h else jbI (m_F_accept F 4 (nI m) h) (fun r h => some (some (.int r), h)) := by
  obtain ⟨na, nb, ⟨A, ha, hb⟩, K, h6, h7, hl, hz, hcc, g, g2⟩ := id X
  have c1 : (nI 1).toNatClampNeg = 1 := ft_cl (by omega)
  have inn : j_in h 81 (nI 1) := of_eq_true (by simp (disch := first | exact sR_rfl _ _ rfl | omega) only [ft_lit, ft_m1, ft_m2, ft_m3, ft_m5, ft_m6, ft_cl, ft_lt, ft_le, ft_eq, ft_mlt, ft_ltm, ft_mltm, ft_meq, ft_eqm, ft_meqm, ft_add, ft_mul, ft_sub, ft_nm, ft_m1p, ft_and, ft_or, ft_31, ft_shl, ft_shr, ft_bz, ft_z0, ft_z1, ft_z01, ft_bb, ft_zt, ft_zf, ft_or0, ft_rv, ft_rvr, ft_rf, ft_rfn, ft_bI, ft_bJ, ft_bV, ft_bR, ft_bRn, ft_isr, ft_isn, ft_ifn, ft_ifr, ft_ov, ft_ovn, ft_in, k_sI, n_sI, R_sI, J_sI, c_sI, z_sI, k_sJ, n_sJ, R_sJ, I_sJ, c_sJ, z_sJ, k_sR, n_sR, I_sR, J_sR, c_sR, z_sR, k_wI, n_wI, R_wI, J_wI, I_wIe, k_wJ, n_wJ, R_wJ, I_wJ, J_wJe, I_wIn, J_wJn, I_sIe, J_sJe, R_sRe, I_sIn, I_sIk, J_sJn, J_sJk, R_sRn, R_sRk, eq_self, if_true, if_false, ↓reduceIte, cond_true, cond_false, ↓cond_eq_ite, and_true, true_and, and_false, false_and, or_true, true_or, or_false, false_or, not_true_eq_false, not_false_eq_true, ft_ltT, ft_ltF, ft_eqT, ft_eqF, Bool.false_eq_true, Bool.true_eq_false, Bool.not_true, Bool.not_false, Bool.and_true, Bool.true_and, Bool.and_false, Bool.false_and, decide_true, decide_false, Nat.reduceAdd, Nat.reduceMul, Nat.reduceSub, Nat.reduceEqDiff, Nat.reduceLT, Nat.zero_add, Nat.add_zero, Nat.reduceDiv, Nat.reduceMod, sf_n81 S])
  rw [q_F_orders_71]
  show (if j_k h 62 = 15 then (if nI ci < j_I h 62 7 then _ else _) else _) = _
  rw [if_pos (sf_k62 S), h7]
  by_cases q : ci < cs.length
  · rw [if_pos q, if_pos (by rw [ft_lt (by omega) (by omega)]; exact q)]
  · rw [if_neg q, if_neg (by rw [ft_lt (by omega) (by omega)]; exact q), if_pos (sf_k4 S), sf_R4_9 S]
    show (if j_k h 81 = 1 ∧ j_in h 81 (nI 1) then _ else _) = _
    rw [if_pos ⟨sf_k81 S, inn⟩, if_pos (sf_k4 S), c1, j1, iL_I, iI_n]
/-- a clause of the reference -/
theorem M_96 {F : Nat × Nat} {h : jH} (S : ShM h) {n t ci m : Nat} (hn : n ≤ 400) (ht : t ≤ 1000) (hci : ci < 100) (r43 : j_I h 85 43 = nI (2400 + t)) (r27 : j_I h 85 27 = nI m) (v1 : Int32) (f : Nat) : m_M_orders_96 F (f + 1) 85 v1 (nI (2400 + n)) (nI ci) h = if t < n then (jbI (m_M_runs F 85 (nI (2400 + n)) h) fun r18 h17 => if r18 = (nI 0) then (if j_k h17 85 = 17 then (jbV (m_M_takesBack F 85 (nI 1) h17) fun h19 => m_M_orders_123 F F.1 85 v1 (nI ci) (nI 0) h19) else none) else m_M_orders_96 F f 85 v1 (nI (2400 + n)) (nI (ci + 1)) h17) else jbI (m_M_good F 85 (nI m) h) (fun r h => some (some (.int r), h)) := by
  rw [q_M_orders_96, if_pos (sm_k85 S), r43]
  by_cases q : t < n
  · rw [if_pos q, if_pos (by rw [ft_lt (by omega) (by omega)]; omega), if_pos (sm_k85 S), show nI ci + nI 1 = nI (ci + 1) from by simp (disch := first | exact sR_rfl _ _ rfl | omega) only [ft_lit, ft_m1, ft_m2, ft_m3, ft_m5, ft_m6, ft_cl, ft_lt, ft_le, ft_eq, ft_mlt, ft_ltm, ft_mltm, ft_meq, ft_eqm, ft_meqm, ft_add, ft_mul, ft_sub, ft_nm, ft_m1p, ft_and, ft_or, ft_31, ft_shl, ft_shr, ft_bz, ft_z0, ft_z1, ft_z01, ft_bb, ft_zt, ft_zf, ft_or0, ft_rv, ft_rvr, ft_rf, ft_rfn, ft_bI, ft_bJ, ft_bV, ft_bR, ft_bRn, ft_isr, ft_isn, ft_ifn, ft_ifr, ft_ov, ft_ovn, ft_in, k_sI, n_sI, R_sI, J_sI, c_sI, z_sI, k_sJ, n_sJ, R_sJ, I_sJ, c_sJ, z_sJ, k_sR, n_sR, I_sR, J_sR, c_sR, z_sR, k_wI, n_wI, R_wI, J_wI, I_wIe, k_wJ, n_wJ, R_wJ, I_wJ, J_wJe, I_wIn, J_wJn, I_sIe, J_sJe, R_sRe, I_sIn, I_sIk, J_sJn, J_sJk, R_sRn, R_sRk, eq_self, if_true, if_false, ↓reduceIte, cond_true, cond_false, ↓cond_eq_ite, and_true, true_and, and_false, false_and, or_true, true_or, or_false, false_or, not_true_eq_false, not_false_eq_true, ft_ltT, ft_ltF, ft_eqT, ft_eqF, Bool.false_eq_true, Bool.true_eq_false, Bool.not_true, Bool.not_false, Bool.and_true, Bool.true_and, Bool.and_false, Bool.false_and, decide_true, decide_false, Nat.reduceAdd, Nat.reduceMul, Nat.reduceSub, Nat.reduceEqDiff, Nat.reduceLT, Nat.zero_add, Nat.add_zero, Nat.reduceDiv, Nat.reduceMod]]
  · rw [if_neg q, if_neg (by rw [ft_lt (by omega) (by omega)]; omega), if_pos (sm_k85 S), if_pos (sm_k85 S), r27]
theorem O_clause {F : Nat × Nat} (hF : FF F) {cs : List Cz} (hc12 : cs.length ≤ 12) {ci : Nat} (hci : ci < cs.length) {s : St} (w : WJ s) {m : Nat} {v : Int} (hm : m < 900) (hv : -1 ≤ v ∧ v ≤ 1000000) {t l : Nat} (ht : t ≤ s.1 187) (hok : (h_one (kT s.1 6) true (true, t, l)).1.1 = true) (hc : cs[ci] = (h_one (kT s.1 6) true (true, t, l)).2) : (∃ s' m' v', Nx s s' ∧ m' ≤ m + 20 ∧ (-1 ≤ v' ∧ v' ≤ 1000000) ∧ (∀ h, RM h s m v t → ∃ h', m_M_runs F 85 (nI (2400 + s.1 187)) h = some (some (.int (nI 1)), h') ∧ RM h' s' m' v' ((h_one (kT s.1 6) true (true, t, l)).1.2.1 + 1) ∧ jX dRu jN h h') ∧ (∀ h, CM h s m v cs → ∀ k71, ∃ h', m_F_orders_81 F k71 F.1 4 (.ref 62) (nI ci) (nI 0) h = k71 4 (.ref 62) (nI (ci + 1)) h' ∧ CM h' s' m' v' cs ∧ jX dOc jN h h')) ∨ ((∀ h, RM h s m v t → ∃ h' s', m_M_runs F 85 (nI (2400 + s.1 187)) h = some (some (.int (nI 0)), h') ∧ Nx s s' ∧ MJ h' s' ∧ jX dRu jN h h') ∧ (∀ h, CM h s m v cs → ∀ k71, ∃ h' s', m_F_orders_81 F k71 F.1 4 (.ref 62) (nI ci) (nI 0) h = stopR F (nI ci) h' ∧ Nx s s' ∧ CJ h' s' ∧ jX dOc jN h h')) := by
  have W : WK s.1 := by
    obtain ⟨k, im, u, tp, tl, sc, kd⟩ := s
    have w' : WS k im u := w
    exact w'.1
  have hn : (kT s.1 6).1 (s.1 187) = 0 := by
    show (if s.1 187 < s.1 (181 + 6) then _ else 0) = 0
    rw [if_neg (show ¬ s.1 187 < s.1 187 by omega)]
  obtain ⟨t2, l2, t3, l3, a1, a2, a3, a4, a5, a6, a7⟩ := h_one_o hn ht hok
  have c2 : (h_one (kT s.1 6) true (true, t, l)).2.2.2.2.1 = (h_tms (kT s.1 6) (true, t2, l2)).2 := by
    show (h_tms (kT s.1 6) (h_osum (kT s.1 6) (true, t, l)).1).2 = _
    rw [a5]
  have tm20 : (h_one (kT s.1 6) true (true, t, l)).2.2.2.2.1 ≤ 20 := by
    rw [c2]
    rcases a6 with ⟨_, _, _, z, _, e⟩ | ⟨_, _, e⟩
    · rw [e]; exact z
    · rw [e]; show 1 ≤ 20; omega
  have htm : cs[ci].2.2.2.1 = (h_one (kT s.1 6) true (true, t, l)).2.2.2.2.1 := by rw [hc]
  have ref : ∀ h, RM h s m v t → ∃ h1, RM h1 s m v t ∧ jX dRu jN h h1 ∧ m_M_runs F 85 (nI (2400 + s.1 187)) h = m_M_runs_19 F F.1 85 (nI (2400 + s.1 187)) (nI (h_one (kT s.1 6) true (true, t, l)).2.2.2.2.1) (nI (2400 + ((h_one (kT s.1 6) true (true, t, l)).1.2.1 + 1))) (nI 0) h1 := by
    intro h R
    obtain ⟨k, im, u, tp, tl, sc, kd⟩ := s
    obtain ⟨M, r1, r2, r3⟩ := R
    have M' : MI h k im u tp tl sc kd := M
    obtain ⟨h4, e4, x4, B4, f22, f44, _⟩ := G_al (F := F) hF W (m := m) (by omega) hv M'.1 M'.2.2.2.1 M'.2.2.1 r1 r2 r3 ht hok false
    have S4 : ShM h4 := M'.1.fr x4 (fun _ _ z => z)
    refine ⟨h4, ⟨M.gl x4 B4, ?_, ?_, ?_⟩, x4.up (fun a i z => Or.inr (Or.inl z)) (fun _ _ z => z), ?_⟩
    · rw [x4.I (fun z => by unfold dGl at z; omega)]; exact r1
    · rw [x4.I (fun z => by unfold dGl at z; omega)]; exact r2
    · rw [x4.I (fun z => by unfold dGl at z; omega)]; exact r3
    · have e4' : m_M_goesAlong F 85 (nI (2400 + k 187)) (nI 0) h = some (none, h4) := e4
      show m_M_runs F 85 (nI (2400 + k 187)) h = _
      rw [q_M_runs, if_pos (sm_k85 M'.1), bV_of e4', if_pos (sm_k85 S4)]
      show (if j_k h4 85 = 17 then m_M_runs_19 F F.1 85 (nI (2400 + k 187)) (j_I h4 85 44) (j_I h4 85 22) (nI 0) h4 else none) = _
      rw [if_pos (sm_k85 S4), f22, f44]
  rcases O_times (F := F) hF (l := l) hci hc12 (t' := (h_one (kT s.1 6) true (true, t, l)).1.2.1 + 1) tm20 htm (h_one (kT s.1 6) true (true, t, l)).2.2.2.2.1 0 s m v (by omega) w (by omega) hv ht hok hc with ⟨s2, m2, v2, N2, b3, b4, r2, c2⟩ | ⟨r2, c2⟩
  · left
    refine ⟨s2, m2, v2, N2, by omega, b4, fun h R => ?_, fun h Q k71 => c2 h Q F.1 k71 (by have := hF.1; omega)⟩
    obtain ⟨h1, R1, x1, e1⟩ := ref h R
    obtain ⟨h2, e2, R2, x2⟩ := r2 h1 R1 F.1 (by have := hF.1; omega)
    exact ⟨h2, e1.trans e2, R2, dRu_t x1 x2⟩
  · right
    refine ⟨fun h R => ?_, fun h Q k71 => c2 h Q F.1 k71 (by have := hF.1; omega)⟩
    obtain ⟨h1, R1, x1, e1⟩ := ref h R
    obtain ⟨h2, s2, e2, N2, M2, x2⟩ := r2 h1 R1 F.1 (by have := hF.1; omega)
    exact ⟨h2, s2, e1.trans e2, N2, M2, dRu_t x1 x2⟩
/-- all clauses from one on -/
def Ocl (F : Nat × Nat) (cs : List Cz) (n t ci : Nat) (s : St) (m : Nat) (v : Int) : Prop := (∃ s' m', Nx s s' ∧ m' ≤ 300 ∧ (∀ h, RM h s m v t → ∀ G v1, n < t + G → ∃ h', m_M_orders_96 F (G + 1) 85 v1 (nI (2400 + n)) (nI ci) h = jbI (m_M_good F 85 (nI m') h') (fun r h => some (some (.int r), h)) ∧ MJ h' s' ∧ jX dRu jN h h') ∧ (∀ h, CM h s m v cs → ∀ G, cs.length ≤ ci + G → ∃ h', m_F_orders_71 F (G + 1) 4 (.ref 62) (nI ci) h = jbI (m_F_accept F 4 (nI m') h') (fun r h => some (some (.int r), h)) ∧ CJ h' s' ∧ jX dOc jN h h')) ∨ (∃ cj, cj < 12 ∧ (∀ h, RM h s m v t → ∀ G v1, n < t + G → ∃ h' s', m_M_orders_96 F (G + 1) 85 v1 (nI (2400 + n)) (nI ci) h = jbV (m_M_takesBack F 85 (nI 1) h') (fun h19 => m_M_orders_123 F F.1 85 v1 (nI cj) (nI 0) h19) ∧ Nx s s' ∧ MJ h' s' ∧ jX dRu jN h h') ∧ (∀ h, CM h s m v cs → ∀ G, cs.length ≤ ci + G → ∃ h' s', m_F_orders_71 F (G + 1) 4 (.ref 62) (nI ci) h = stopR F (nI cj) h' ∧ Nx s s' ∧ CJ h' s' ∧ jX dOc jN h h'))
theorem MJ.S {h : jH} {s : St} (M : MJ h s) : ShM h := by
  obtain ⟨k, im, u, tp, tl, sc, kd⟩ := s
  exact M.1
theorem CJ.S {h : jH} {s : St} (C : CJ h s) : ShF h := by
  obtain ⟨k, im, u, tp, tl, sc, kd⟩ := s
  exact C.1
theorem O_cls {F : Nat × Nat} (hF : FF F) {cs : List Cz} (hc12 : cs.length ≤ 12) : ∀ f mm t l (cl : List Cz) (s : St) (m : Nat) (v : Int), WJ s → t ≤ s.1 187 → l ≤ 50 → s.1 187 < t + f → (h_xl (kT s.1 6) true f mm ((h_one (kT s.1 6) true (true, t, l)).1, cl ++ [(h_one (kT s.1 6) true (true, t, l)).2])).1.1 = true → (h_xl (kT s.1 6) true f mm ((h_one (kT s.1 6) true (true, t, l)).1, cl ++ [(h_one (kT s.1 6) true (true, t, l)).2])).1.2.1 = s.1 187 → (h_xl (kT s.1 6) true f mm ((h_one (kT s.1 6) true (true, t, l)).1, cl ++ [(h_one (kT s.1 6) true (true, t, l)).2])).2 = cs → m ≤ 20 * cl.length → (-1 ≤ v ∧ v ≤ 1000000) → Ocl F cs (s.1 187) t cl.length s m v
  | 0, mm, t, l, cl, s, m, v, w, ht, hl, h3, hok, hend, hcs, hm, hv => absurd h3 (by omega)
  | f + 1, mm, t, l, cl, s, m, v, w, ht, hl, h3, hok, hend, hcs, hm, hv => by
    have W : WK s.1 := by
      obtain ⟨k, im, u, tp, tl, sc, kd⟩ := s
      have w' : WS k im u := w
      exact w'.1
    have hsz : s.1 187 ≤ 400 := W.size (j := 6) (by omega)
    have hn : (kT s.1 6).1 (s.1 187) = 0 := by
      show (if s.1 187 < s.1 (181 + 6) then _ else 0) = 0
      rw [if_neg (show ¬ s.1 187 < s.1 187 by omega)]
    have ok0 := h_xl_f hok
    have ok1 : (h_one (kT s.1 6) true (true, t, l)).1.1 = true := ok0
    have tlt : t < s.1 187 := by
      obtain ⟨_, _, _, _, _, _, a3, _⟩ := h_one_o hn ht ok1
      exact a3
    obtain ⟨rest, er⟩ := h_xl_pre (T := kT s.1 6) (od := true) (f + 1) mm ((h_one (kT s.1 6) true (true, t, l)).1, cl ++ [(h_one (kT s.1 6) true (true, t, l)).2])
    rw [hcs] at er
    have er' : cs = cl ++ ([(h_one (kT s.1 6) true (true, t, l)).2] ++ rest) := by rw [er]; show (cl ++ _) ++ rest = _; rw [List.append_assoc]
    have hci : cl.length < cs.length := by rw [er']; simp only [List.length_append, List.length_cons]; omega
    have hc : cs[cl.length] = (h_one (kT s.1 6) true (true, t, l)).2 := by
      have : cs[cl.length]? = some (h_one (kT s.1 6) true (true, t, l)).2 := by
        rw [er', List.getElem?_append_right (Nat.le_refl _), Nat.sub_self]
        rfl
      rw [List.getElem?_eq_getElem hci] at this
      exact Option.some.inj this
    have k1 := h_one_ok (od := true) hn (s := (true, t, l)) ht ⟨by show l ≤ 51; omega, fun _ => hl⟩
    have cl12 : cl.length < 12 := by omega
    rcases O_clause (F := F) hF hc12 hci w (m := m) (by omega) hv ht ok1 hc with ⟨s1, m1, v1, N1, b1, b2, r1, c1⟩ | ⟨r1, c1⟩
    · have kt := kT_nx N1
      have k187 : s1.1 187 = s.1 187 := N1.2.1 187 (by omega)
      generalize hcc : (h_one (kT s.1 6) true (true, t, l)).2 = cc at *
      generalize hz : (h_one (kT s.1 6) true (true, t, l)).1 = z at *
      obtain ⟨zb, zt, zl⟩ := z
      replace ok1 : zb = true := ok1
      subst ok1
      have hgt : t < zt := (k1.1.2 rfl).2
      have hle : zt ≤ s.1 187 := k1.1.1
      have hzl : zl ≤ 50 := k1.2.2 rfl
      replace r1 : ∀ h, RM h s m v t → ∃ h', m_M_runs F 85 (nI (2400 + s.1 187)) h = some (some (.int (nI 1)), h') ∧ RM h' s1 m1 v1 (zt + 1) ∧ jX dRu jN h h' := r1
      unfold h_xl at hok hend hcs
      by_cases q : h_tk (kT s.1 6) 159 (true, zt, zl) = true
      · have hh := h_tk_ne hn (s := (true, zt, zl)) hle (by omega) q
        have hlt : zt < s.1 187 := hh.2.2
        simp only [q, if_true] at hok hend hcs
        by_cases q2 : mm = 12
        · rw [if_pos q2] at hok
          simp [h_flt] at hok
        · simp only [q2, if_false] at hok hend hcs
          have a0 : h_adv (true, zt, zl) = (true, zt + 1, zl) := rfl
          rw [a0] at hok hend hcs
          have ih := O_cls hF hc12 f (mm + 1) (zt + 1) zl (cl ++ [cc]) s1 m1 v1 N1.1 (by rw [k187]; exact hlt) hzl (by rw [k187]; omega) (by rw [kt]; exact hok) (by rw [kt, k187]; exact hend) (by rw [kt]; exact hcs) (by rw [List.length_append]; show m1 ≤ 20 * (cl.length + 1); omega) b2
          rw [k187] at ih
          have ll : (cl ++ [cc]).length = cl.length + 1 := by rw [List.length_append]; rfl
          rw [ll] at ih
          rcases ih with ⟨s2, m2, N2, b3, r2, c2⟩ | ⟨cj, hcj, r2, c2⟩
          · left
            refine ⟨s2, m2, N1.tr N2, b3, fun h R G v1 hG => ?_, fun h Q G hG => ?_⟩
            · obtain ⟨h1, e1, R1, x1⟩ := r1 h R
              obtain ⟨g, rfl⟩ : ∃ g, G = g + 1 := ⟨G - 1, by omega⟩
              obtain ⟨h2, e2, M2, x2⟩ := r2 h1 R1 g v1 (by omega)
              refine ⟨h2, ?_, M2, dRu_t x1 x2⟩
              rw [M_96 R.1.S hsz (by omega) (by omega) R.2.2.2 R.2.1, if_pos tlt, bI_of e1, if_neg (by decide)]
              exact e2
            · obtain ⟨g, rfl⟩ : ∃ g, G = g + 1 := ⟨G - 1, by omega⟩
              obtain ⟨h1, e1, Q1, x1⟩ := c1 h Q (m_F_orders_71 F (g + 1))
              obtain ⟨h2, e2, M2, x2⟩ := c2 h1 Q1 g (by omega)
              refine ⟨h2, ?_, M2, dOc_t x1 x2⟩
              rw [C_71 Q.1.S Q.2.1 hc12 (by omega) Q.2.2.1, if_pos hci, e1]
              exact e2
          · right
            refine ⟨cj, hcj, fun h R G v1 hG => ?_, fun h Q G hG => ?_⟩
            · obtain ⟨h1, e1, R1, x1⟩ := r1 h R
              obtain ⟨g, rfl⟩ : ∃ g, G = g + 1 := ⟨G - 1, by omega⟩
              obtain ⟨h2, s2, e2, N2, M2, x2⟩ := r2 h1 R1 g v1 (by omega)
              refine ⟨h2, s2, ?_, N1.tr N2, M2, dRu_t x1 x2⟩
              rw [M_96 R.1.S hsz (by omega) (by omega) R.2.2.2 R.2.1, if_pos tlt, bI_of e1, if_neg (by decide)]
              exact e2
            · obtain ⟨g, rfl⟩ : ∃ g, G = g + 1 := ⟨G - 1, by omega⟩
              obtain ⟨h1, e1, Q1, x1⟩ := c1 h Q (m_F_orders_71 F (g + 1))
              obtain ⟨h2, s2, e2, N2, M2, x2⟩ := c2 h1 Q1 g (by omega)
              refine ⟨h2, s2, ?_, N1.tr N2, M2, dOc_t x1 x2⟩
              rw [C_71 Q.1.S Q.2.1 hc12 (by omega) Q.2.2.1, if_pos hci, e1]
              exact e2
      · have q1 : h_tk (kT s.1 6) 159 (true, zt, zl) = false := by simpa using q
        simp only [q1, Bool.false_eq_true, if_false] at hok hend hcs
        have l1 : cs.length = cl.length + 1 := by rw [← hcs, List.length_append]; rfl
        left
        refine ⟨s1, m1, N1, by omega, fun h R G vv hG => ?_, fun h Q G hG => ?_⟩
        · obtain ⟨h1, e1, R1, x1⟩ := r1 h R
          obtain ⟨g, rfl⟩ : ∃ g, G = g + 1 := ⟨G - 1, by omega⟩
          refine ⟨h1, ?_, R1.1, x1⟩
          rw [M_96 R.1.S hsz (by omega) (by omega) R.2.2.2 R.2.1, if_pos tlt, bI_of e1, if_neg (by decide), M_96 R1.1.S hsz (by omega) (by omega) R1.2.2.2 R1.2.1, if_neg (by omega)]
        · obtain ⟨g, rfl⟩ : ∃ g, G = g + 1 := ⟨G - 1, by omega⟩
          obtain ⟨h1, e1, Q1, x1⟩ := c1 h Q (m_F_orders_71 F (g + 1))
          refine ⟨h1, ?_, Q1.1, x1⟩
          rw [C_71 Q.1.S Q.2.1 hc12 (by omega) Q.2.2.1, if_pos hci, e1, C_71 Q1.1.S Q1.2.1 hc12 (by omega) Q1.2.2.1, if_neg (by omega)]
    · right
      refine ⟨cl.length, cl12, fun h R G v1 hG => ?_, fun h Q G hG => ?_⟩
      · obtain ⟨h1, s1, e1, N1, M1, x1⟩ := r1 h R
        refine ⟨h1, s1, ?_, N1, M1, x1⟩
        rw [M_96 R.1.S hsz (by omega) (by omega) R.2.2.2 R.2.1, if_pos tlt, bI_of e1, if_pos rfl, if_pos (sm_k85 M1.S)]
      · obtain ⟨h1, s1, e1, N1, C1, x1⟩ := c1 h Q (m_F_orders_71 F G)
        refine ⟨h1, s1, ?_, N1, C1, x1⟩
        rw [C_71 Q.1.S Q.2.1 hc12 (by omega) Q.2.2.1, if_pos hci, e1]
