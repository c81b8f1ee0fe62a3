/-! CALL: orders, done -/
theorem h_xl_len {T : Tk} {od : Bool} : ∀ f m (x : Ps × List Cz), x.2.length ≤ m → m ≤ 12 → (h_xl T od f m x).1.1 = true → (h_xl T od f m x).2.length ≤ 12
  | 0, m, x, h1, h2, _ => Nat.le_trans h1 h2
  | f + 1, m, x, h1, h2, ok => by
    unfold h_xl at ok ⊢
    by_cases q : h_tk T 159 x.1 = true
    · rw [if_pos q] at ok ⊢
      by_cases q2 : m = 12
      · rw [if_pos q2] at ok
        cases ok
      · rw [if_neg q2] at ok ⊢
        exact h_xl_len f (m + 1) _ (by rw [List.length_append]; show x.2.length + 1 ≤ m + 1; omega) (by omega) ok
    · rw [if_neg q] at ok ⊢
      omega
theorem K_orders {F : Nat × Nat} (hF : FF F) {s : St} (w : WJ s) : Alk (m_M_orders F 85) (m_F_orders F 4) s := by
  obtain ⟨k, im, u, tp, tl, sc, kd⟩ := s
  have w' : WS k im u := w
  have W := w'.1
  have hF1 := hF.1
  cases ok : (tX tp tl true).1.1 with
  | false =>
    have fl : flT tp tl true = nI (tPl tp tl (tX tp tl true).1.2.1) := by unfold flT; rw [if_neg (by rw [ok]; decide)]
    refine ⟨(mI 5), (k, im, u, tp, 0, rfC (flC (stC sc (mI 0)) (flT tp tl true)) 5, kd), w, Mst.pre (m2 := m_M_refuses F 85 (mI 5)) (s1 := (k, im, u, tp, 0, flC (stC sc (mI 0)) (flT tp tl true), kd)) (fun h M => ?_) (M_ref (by omega)), Cst.pre (m2 := m_F_refuse F 4 (mI 5)) (s1 := (k, im, u, tp, 0, flC (stC sc (mI 0)) (flT tp tl true), kd)) (fun h C => ?_) (C_ref (by omega))⟩
    · have M' : MI h k im u tp tl sc kd := M
      have S := M'.1
      obtain ⟨h1, e1, M1, x1, -, -⟩ := M_rd (F := F) hF (M'.st (mI 0)) true
      rw [ok] at e1
      refine ⟨h1, ?_, M1, (show jX dMM jN h (j_sI h 85 42 (mI 0)) from jX.rf.sI (by unfold dMM; omega)).t x1⟩
      have S1 := M1.1
      have e1' : m_M_readsAs F 85 (nI 1) (j_sI h 85 42 (mI 0)) = some (some (.int (nI 0)), h1) := e1
      rw [q_M_orders, if_pos (sm_k85 S)]
      show (if j_k (j_sI h 85 42 (mI 0)) 85 = 17 then _ else _) = _
      rw [if_pos (show j_k (j_sI h 85 42 (mI 0)) 85 = 17 from sm_k85 S), bI_of e1', if_pos rfl, if_pos (sm_k85 S1), bI_eta (M_refuses (F := F) (q := 5) S1 (by omega)), M_refuses (F := F) (q := 5) S1 (by omega)]
    · have C' : CI h k im u tp tl sc kd := C
      have S := C'.1
      have C0 := C'.st (mI 0)
      obtain ⟨h1, e1, x1, p1, p2⟩ := (C_reads (F := F) hF C0.1 C0.2.2.2.2.2.1 true).2 ok
      have C1 := C0.rd (f := flT tp tl true) x1 p2 (by rw [fl]; exact p1)
      refine ⟨h1, ?_, C1, (show jX (fun a _ => 2 < a ∧ a < 85) jN h (j_sI h 4 14 (mI 0)) from jX.rf.sI (by omega)).t (dQ_85 x1)⟩
      have S0 : ShF (j_sI h 4 14 (mI 0)) := C0.1
      have S1 := C1.1
      have e1' : m_P_reads F 60 (nI 1) (j_sI h 4 14 (mI 0)) = some (some (.int (nI 0)), h1) := e1
      rw [q_F_orders, if_pos (sf_k4 S)]
      show (if j_k (j_sI h 4 14 (mI 0)) 4 = 10 then _ else _) = _
      rw [if_pos (sf_k4 S0), sf_v4_6 S0 (sR_rfl _ _ rfl), if_pos (sf_k60 S0), bI_of e1', if_pos rfl, if_pos (sf_k4 S1), bI_eta (C_refuse (F := F) (q := 5) S1 (by omega)), C_refuse (F := F) (q := 5) S1 (by omega)]
  | true =>
    by_cases ht : tl ≤ 400 ∧ ∀ i, i < tl → tp i < 256
    case neg =>
      refine ⟨(mI 0), _, w, fun h M => ?_, fun h C => ?_⟩
      · have T := (show MI h k im u tp tl sc kd from M).2.2.2.2.2.2.1.1
        exact absurd ⟨T.1, fun i hi => (T.2 i hi).2⟩ ht
      · have T := (show CI h k im u tp tl sc kd from C).2.2.2.2.2.1
        exact absurd ⟨T.2.1, fun i hi => (T.2.2 i hi).2⟩ ht
    obtain ⟨ht, hb⟩ := ht
    have fl : flT tp tl true = mI 0 := by unfold flT; rw [if_pos ok]
    have hn := tN_le (tp := tp) ht
    have tz := fun i (hi : tN tp tl ≤ i) => tT_z (tp := tp) (tl := tl) hi
    have tb := tT_b (tp := tp) (tl := tl) hb ht
    have W6 : WK (o6 k (tT tp tl) (tN tp tl)) := o6_W W hn tz tb
    have lo : ∀ i, i < 187 → o6 k (tT tp tl) (tN tp tl) i = k i := fun i hi => o6_o hi
    obtain ⟨t6, n6⟩ := o6_T (k := k) hn tz
    have U6 : UC (o6 k (tT tp tl) (tN tp tl) 177) (o6 k (tT tp tl) (tN tp tl)) u := by
      rw [lo 177 (by omega)]
      exact w'.2.2.e (fun i hi => lo i (by omega))
    have w0 : WJ (o6 k (tT tp tl) (tN tp tl), im, u, tp, 0, flC (stC sc (mI 0)) (flT tp tl true), kd) := ⟨W6, w'.2.1, U6⟩
    have hok := h_text_ok (T := tT tp tl) (n := tN tp tl) (tz _ (Nat.le_refl _)).1 (od := true) ok
    have c12 : (tX tp tl true).2.length ≤ 12 := h_xl_len (T := tT tp tl) (od := true) hN 1 ((h_one (tT tp tl) true (true, 0, 0)).1, [(h_one (tT tp tl) true (true, 0, 0)).2]) (Nat.le_refl _) (by omega) hok.1
    have main : Ocl F (tX tp tl true).2 (tN tp tl) 0 0 (o6 k (tT tp tl) (tN tp tl), im, u, tp, 0, flC (stC sc (mI 0)) (flT tp tl true), kd) 0 (-1) := by
      have := O_cls (F := F) hF c12 hN 1 0 0 [] (o6 k (tT tp tl) (tN tp tl), im, u, tp, 0, flC (stC sc (mI 0)) (flT tp tl true), kd) 0 (-1) w0 (Nat.zero_le _) (by omega) (by show o6 k (tT tp tl) (tN tp tl) 187 < 0 + 500; rw [n6]; omega) (by show (h_xl (kT (o6 k (tT tp tl) (tN tp tl)) 6) true hN 1 _).1.1 = true; rw [t6]; exact hok.1) (by show (h_xl (kT (o6 k (tT tp tl) (tN tp tl)) 6) true hN 1 _).1.2.1 = o6 k (tT tp tl) (tN tp tl) 187; rw [t6, n6]; exact hok.2) (by show (h_xl (kT (o6 k (tT tp tl) (tN tp tl)) 6) true hN 1 _).2 = _; rw [t6]; rfl) (by show 0 ≤ 20 * 0; omega) (by omega)
      have e : (o6 k (tT tp tl) (tN tp tl), im, u, tp, (0 : Nat), flC (stC sc (mI 0)) (flT tp tl true), kd).1 187 = tN tp tl := n6
      rw [e] at this
      exact this
    obtain ⟨G, hG⟩ : ∃ G, F.1 = G + 1 := ⟨F.1 - 1, by omega⟩
    have mpre : ∀ h, MI h k im u tp tl sc kd → ∃ h3 hB, m_M_orders F 85 h = m_M_orders_96 F F.1 85 (nI u.length) (nI (2400 + tN tp tl)) (nI 0) h3 ∧ RM h3 (o6 k (tT tp tl) (tN tp tl), im, u, tp, 0, flC (stC sc (mI 0)) (flT tp tl true), kd) 0 (-1) 0 ∧ jX dMM jN h h3 ∧ (∀ i, i < 105 → j_I h3 90 (105 + i) = nI (k i)) ∧ MU hB u ∧ ∀ i, i < 1696 → j_I h3 99 i = j_I hB 98 i := by
      intro h M'
      have S := M'.1
      obtain ⟨h1, e1, M1, x1, n18, rows⟩ := M_rd (F := F) hF (M'.st (mI 0)) true
      rw [ok] at e1
      have S1 := M1.1
      have e1' : m_M_readsAs F 85 (nI 1) (j_sI h 85 42 (mI 0)) = some (some (.int (nI 1)), h1) := e1
      obtain ⟨h3, e3, R3, x3, v90, U1, v99⟩ := M_opre (F := F) hF M1 hn n18 rows n6
      refine ⟨h3, h1, ?_, R3, ((show jX dMM jN h (j_sI h 85 42 (mI 0)) from jX.rf.sI (by unfold dMM; omega)).t x1).t x3, v90, U1, v99⟩
      rw [q_M_orders, if_pos (sm_k85 S)]
      show (if j_k (j_sI h 85 42 (mI 0)) 85 = 17 then _ else _) = _
      rw [if_pos (show j_k (j_sI h 85 42 (mI 0)) 85 = 17 from sm_k85 S), bI_of e1', if_neg (by decide), if_pos (sm_k85 S1)]
      exact e3
    have cpre : ∀ h, CI h k im u tp tl sc kd → ∃ h3, m_F_orders F 4 h = m_F_orders_71 F F.1 4 (.ref 62) (nI 0) h3 ∧ CM h3 (o6 k (tT tp tl) (tN tp tl), im, u, tp, 0, flC (stC sc (mI 0)) (flT tp tl true), kd) 0 (-1) (tX tp tl true).2 ∧ jX (fun a _ => 2 < a ∧ a < 85) (fun a _ => 2 < a ∧ a < 85) h h3 ∧ LI h3 29 (o6 k (tT tp tl) (tN tp tl)) ∧ (∀ i, i < 6 → j_R h3 40 i = j_R h3 16 i) ∧ CU h3 51 u := by
      intro h C'
      have S := C'.1
      have C0 := C'.st (mI 0)
      have S0 : ShF (j_sI h 4 14 (mI 0)) := C0.1
      obtain ⟨h1, e1, x1, X1, p2, p1⟩ := C_draft (F := F) hF C0.1 C0.2.2.2.2.2.1 (od := true) ok
      have C1 := C0.rd (f := flT tp tl true) x1 p1 (by rw [fl]; exact p2)
      have S1 := C1.1
      have C2 := C1.k6o W (T := tT tp tl) (n := tN tp tl) hn
      obtain ⟨h3, e3, Q3, x3, I3, r3, U3⟩ := C_opre (F := F) hF W6 C2 X1
      have e1' : m_P_reads F 60 (nI 1) (j_sI h 4 14 (mI 0)) = some (some (.int (nI 1)), h1) := e1
      have x01 : jX (fun a _ => 2 < a ∧ a < 85) (fun a _ => 2 < a ∧ a < 85) h h1 := ((show jX (fun a _ => 2 < a ∧ a < 85) jN h (j_sI h 4 14 (mI 0)) from jX.rf.sI (by omega)).t (dQ_85 x1)).up (fun _ _ z => z) (fun _ _ z => z.elim)
      refine ⟨h3, ?_, Q3, x01.t x3, I3, r3, U3⟩
      rw [q_F_orders, if_pos (sf_k4 S)]
      show (if j_k (j_sI h 4 14 (mI 0)) 4 = 10 then _ else _) = _
      rw [if_pos (sf_k4 S0), sf_v4_6 S0 (sR_rfl _ _ rfl), if_pos (sf_k60 S0), bI_of e1', if_neg (by decide)]
      exact e3
    have dO85 : ∀ {h h' : jH}, jX dOc jN h h' → jX (fun a _ => 2 < a ∧ a < 85) (fun a _ => 2 < a ∧ a < 85) h h' := fun x => x.up (fun a i z => by unfold dOc dDd dWo at z; omega) (fun _ _ z => z.elim)
    have dRMM : ∀ {h h' : jH}, jX dRu jN h h' → jX dMM jN h h' := fun x => x.up (fun a i z => by unfold dRu dMd dGl dT dKp at z; unfold dMM; omega) (fun _ _ z => z)
    rcases main with ⟨s1, m1, N1, b1, r1, c1⟩ | ⟨cj, hcj, r1, c1⟩
    · obtain ⟨k1, im1, u1, tp1, tl1, sc1, kd1⟩ := s1
      refine ⟨(nI m1), (k1, im1, u1, tp1, tl1, gdC sc1, kd1), N1.1, Mst.pre (m2 := m_M_good F 85 (nI m1)) (s1 := (k1, im1, u1, tp1, tl1, sc1, kd1)) (fun h M => ?_) (M_gd (F := F) _), Cst.pre3 (m2 := m_F_accept F 4 (nI m1)) (s1 := (k1, im1, u1, tp1, tl1, sc1, kd1)) (fun h C => ?_) (C_gd (F := F) _)⟩
      · obtain ⟨h3, hB, e3, R3, x3, _, _, _⟩ := mpre h M
        obtain ⟨h4, e4, M4, x4⟩ := r1 h3 R3 G (nI u.length) (by omega)
        refine ⟨h4, ?_, M4, x3.t (dRMM x4)⟩
        rw [e3, hG, e4, bI_eta (M_good (F := F) M4.S (nI m1)), M_good (F := F) M4.S (nI m1)]
      · obtain ⟨h3, e3, Q3, x3, _, _, _⟩ := cpre h C
        obtain ⟨h4, e4, C4, x4⟩ := c1 h3 Q3 G (by omega)
        refine ⟨h4, ?_, C4, x3.t (dO85 x4)⟩
        rw [e3, hG, e4, bI_eta (C_accept (F := F) C4.S (nI m1)), C_accept (F := F) C4.S (nI m1)]
    · refine ⟨(mI 2), (o6 k (tT tp tl) (tN tp tl), im, u, tp, 0, rfC (stC (flC (stC sc (mI 0)) (flT tp tl true)) (nI cj)) 2, kd), w0, Mst.pre (m2 := m_M_refuses F 85 (mI 2)) (s1 := (o6 k (tT tp tl) (tN tp tl), im, u, tp, 0, stC (flC (stC sc (mI 0)) (flT tp tl true)) (nI cj), kd)) (fun h M => ?_) (M_ref (by omega)), Cst.pre3 (m2 := m_F_refuse F 4 (mI 2)) (s1 := (o6 k (tT tp tl) (tN tp tl), im, u, tp, 0, stC (flC (stC sc (mI 0)) (flT tp tl true)) (nI cj), kd)) (fun h C => ?_) (C_ref (by omega))⟩
      · obtain ⟨h3, hB, e3, R3, x3, v90, UB, v99⟩ := mpre h M
        obtain ⟨h4, s4, e4, N4, M4, x4⟩ := r1 h3 R3 G (nI u.length) (by omega)
        obtain ⟨h5, e5, M5, x5⟩ := M_opost (F := F) hF (k := k) M4 N4 (fun i hi => lo i (by omega)) (fun i hi => by rw [x4.I (fun z => by unfold dRu dMd dGl dT dKp at z; omega)]; exact v90 i hi) ⟨UB.2.1, fun j e he => by
          have hj : j < u.length := by
            rcases Nat.lt_or_ge j u.length with q | q
            · exact q
            · rw [List.getElem?_eq_none q] at he; cases he
          have ul := UB.2.1
          obtain ⟨q1, q2⟩ := UB.2.2 j e he
          exact ⟨fun i hi => by rw [x4.I (fun z => by unfold dRu dMd dGl dT dKp at z; omega), v99 _ (by omega)]; exact q1 i hi, by rw [x4.I (fun z => by unfold dRu dMd dGl dT dKp at z; omega), v99 _ (by omega)]; exact q2⟩⟩ (nI cj)
        refine ⟨h5, ?_, M5, (x3.t (dRMM x4)).t x5⟩
        rw [e3, hG, e4, e5, bI_eta (M_refuses (F := F) (q := 2) M5.S (by omega)), M_refuses (F := F) (q := 2) M5.S (by omega)]
      · obtain ⟨h3, e3, Q3, x3, I3, r3, U3⟩ := cpre h C
        obtain ⟨h4, s4, e4, N4, C4, x4⟩ := c1 h3 Q3 G (by omega)
        obtain ⟨h5, e5, C5, x5⟩ := C_opost (F := F) hF W6 C4 N4 (I3.fr x4 (fun j i hj z => by unfold dOc dDd dWo at z; omega)) (fun i hi => by rw [x4.R (fun z => z), x4.R (fun z => z)]; exact r3 i hi) (U3.fr x4 (fun a i q1 q2 z => by unfold dOc dDd dWo at z; omega)) (nI cj)
        refine ⟨h5, ?_, C5, (x3.t (dO85 x4)).t (x5.up (fun _ _ z => z) (fun _ _ z => z.elim))⟩
        rw [e3, hG, e4, e5, bI_eta (C_refuse (F := F) (q := 2) C5.S (by omega)), C_refuse (F := F) (q := 2) C5.S (by omega)]
