/-! A TEXT IS LAID ANEW -/
/-- all that lay stays -/
def jB (h h' : jH) : Prop := j_c h ≤ j_c h' ∧ ∀ a, a < j_c h → (j_k h' a = j_k h a ∧ j_n h' a = j_n h a) ∧ ∀ i, j_I h' a i = j_I h a i ∧ j_J h' a i = j_J h a i ∧ j_R h' a i = j_R h a i
theorem jB.rf {h : jH} : jB h h := ⟨Nat.le_refl _, fun a _ => ⟨⟨rfl, rfl⟩, fun i => ⟨rfl, rfl, rfl⟩⟩⟩
theorem jB.tr {h h1 h2 : jH} (x : jB h h1) (y : jB h1 h2) : jB h h2 := ⟨Nat.le_trans x.1 y.1, fun a ha => by
  obtain ⟨⟨x1, x2⟩, x3⟩ := x.2 a ha
  obtain ⟨⟨y1, y2⟩, y3⟩ := y.2 a (Nat.lt_of_lt_of_le ha x.1)
  exact ⟨⟨y1.trans x1, y2.trans x2⟩, fun i => ⟨(y3 i).1.trans (x3 i).1, (y3 i).2.1.trans (x3 i).2.1, (y3 i).2.2.trans (x3 i).2.2⟩⟩⟩
theorem va_up2 {α : Type} {f : Nat → α} {a : Nat} {x : α} {b : Nat} (h : b ≠ a) : va_up f a x b = f b := by unfold va_up; rw [if_neg h]
theorem va_up3 {α : Type} {f : Nat → α} {a : Nat} {x : α} : va_up f a x a = x := by unfold va_up; rw [if_pos rfl]
theorem jB.new (h : jH) (q n : Nat) : jB h (j_new h q n) := ⟨Nat.le_succ _, fun a ha => by
  have ne : a ≠ j_c h := by omega
  refine ⟨⟨?_, ?_⟩, fun i => ⟨?_, ?_, ?_⟩⟩
  · exact congrArg Prod.fst (va_up2 (f := h.1) ne)
  · exact congrArg Prod.snd (va_up2 (f := h.1) ne)
  · exact congrFun (va_up2 (f := h.2.1) ne) i
  · exact congrFun (va_up2 (f := h.2.2.1) ne) i
  · exact congrFun (va_up2 (f := h.2.2.2.1) ne) i⟩
theorem new_k (h : jH) (q n : Nat) : j_k (j_new h q n) (j_c h) = q := congrArg Prod.fst (va_up3 (f := h.1))
theorem new_n (h : jH) (q n : Nat) : j_n (j_new h q n) (j_c h) = n := congrArg Prod.snd (va_up3 (f := h.1))
theorem new_c (h : jH) (q n : Nat) : j_c (j_new h q n) = j_c h + 1 := rfl
theorem new_z (h : jH) (q n : Nat) : j_z (j_new h q n) = j_z h + n := rfl
theorem jB.cl (h : jH) (b : Nat) : jB h (j_cl h b) := ⟨Nat.le_succ _, fun a ha => by
  have ne : a ≠ j_c h := by omega
  refine ⟨⟨?_, ?_⟩, fun i => ⟨?_, ?_, ?_⟩⟩
  · exact congrArg Prod.fst (va_up2 (f := h.1) ne)
  · exact congrArg Prod.snd (va_up2 (f := h.1) ne)
  · exact congrFun (va_up2 (f := h.2.1) ne) i
  · exact congrFun (va_up2 (f := h.2.2.1) ne) i
  · exact congrFun (va_up2 (f := h.2.2.2.1) ne) i⟩
theorem cl_k (h : jH) (b : Nat) : j_k (j_cl h b) (j_c h) = 0 := congrArg Prod.fst (va_up3 (f := h.1))
theorem cl_n (h : jH) (b : Nat) : j_n (j_cl h b) (j_c h) = j_n h b := by
  have e := congrArg Prod.snd (va_up3 (f := h.1) (a := j_c h) (x := ((0 : Nat), j_n h b)))
  exact e
theorem cl_I (h : jH) (b i : Nat) : j_I (j_cl h b) (j_c h) i = j_I h b i := congrFun (va_up3 (f := h.2.1)) i
theorem jB.sI {h h' : jH} {a i : Nat} {x : Int32} (b : jB h h') (ha : j_c h ≤ a) : jB h (j_sI h' a i x) := ⟨b.1, fun y hy => ⟨(b.2 y hy).1, fun k => ⟨(I_sIn (by omega)).trans ((b.2 y hy).2 k).1, ((b.2 y hy).2 k).2⟩⟩⟩
theorem jB.sR {h h' : jH} {a i : Nat} {x : Option Nat} (b : jB h h') (ha : j_c h ≤ a) : jB h (j_sR h' a i x) := ⟨b.1, fun y hy => ⟨(b.2 y hy).1, fun k => ⟨((b.2 y hy).2 k).1, ((b.2 y hy).2 k).2.1, (R_sRn (by omega)).trans ((b.2 y hy).2 k).2.2⟩⟩⟩
theorem jB.cI {h h' : jH} {a d n : Nat} (b : jB h h') (hd : j_c h ≤ d) : jB h (j_cpI h' a 0 d 0 n) := ⟨b.1, fun y hy => ⟨(b.2 y hy).1, fun k => ⟨(I_cpIn (by omega)).trans ((b.2 y hy).2 k).1, ((b.2 y hy).2 k).2⟩⟩⟩
theorem Ja_copy {F : Nat × Nat} {h : jH} {a m n0 : Nat} (k0 : j_k h a = 0) (hn : j_n h a = n0) (hm : m ≤ n0) (hb : n0 ≤ 1000) (ha : a < j_c h) : ∃ h', m_Ja_copyOf F a (nI m) h = some (some (.ref (j_c h)), h') ∧ jB h h' ∧ j_c h' = j_c h + 1 ∧ j_z h' = j_z h + m ∧ j_k h' (j_c h) = 0 ∧ j_n h' (j_c h) = m ∧ ∀ i, i < m → j_I h' (j_c h) i = j_I h a i := by
  have n1 : Int32.ofNat (j_n h a) = nI n0 := by rw [hn]; rfl
  rw [q_Ja_copyOf, if_pos (by omega), n1]
  by_cases c : m = n0
  · refine ⟨j_cl h a, ?_, jB.cl h a, rfl, by show j_z h + j_n h a = _; rw [hn, c], cl_k h a, by rw [cl_n, hn, c], fun i hi => cl_I h a i⟩
    rw [if_pos (by rw [c]), if_pos k0]
    show (if j_k (j_cl h a) (j_c h) = 0 then _ else _) = _
    rw [if_pos (cl_k h a)]
  · have B0 := jB.new h 0 m
    have ka : j_k (j_new h 0 m) a = 0 := by rw [(B0.2 a ha).1.1]; exact k0
    have na : j_n (j_new h 0 m) a = n0 := by rw [(B0.2 a ha).1.2]; exact hn
    have mn : m_Jm_min_II F (Int32.ofNat (j_n (j_new h 0 m) a)) (nI m) (j_new h 0 m) = some (some (.int (nI m)), j_new h 0 m) := by
      have : Int32.ofNat (j_n (j_new h 0 m) a) = nI n0 := by rw [na]; rfl
      rw [this, q_Jm_min_II, if_pos (by rw [ft_lt (by omega) (by omega)]; omega)]
    refine ⟨j_cpI (j_new h 0 m) a 0 (j_c h) 0 m, ?_, B0.cI (Nat.le_refl _), rfl, rfl, new_k h 0 m, new_n h 0 m, fun i hi => ?_⟩
    · have nz : ¬ nI m < 0 := by
        show ¬ nI m < nI 0
        rw [ft_lt (by omega) (by omega)]; omega
      rw [if_neg (by rw [ft_eq (by omega) (by omega)]; exact c), if_pos ⟨nz, by rw [ft_cl (by omega)]; omega⟩, ft_cl (by omega)]
      show (if j_k (j_new h 0 m) a < 7 then _ else _) = _
      rw [if_pos (by omega), bI_of mn, if_pos ⟨⟨ka, new_k h 0 m, by decide, by decide, nz⟩, by rw [ft_cl (by omega), ft_cl (by omega), na]; omega, by rw [ft_cl (by omega), ft_cl (by omega), new_n]; omega⟩]
      show some (some (Value.ref (j_c h)), j_cpI (j_new h 0 m) a 0 (j_c h) 0 (nI m).toNatClampNeg) = _
      rw [ft_cl (by omega)]
    · rw [I_cpIe hi]; exact ((B0.2 a ha).2 i).1
/-- a text is laid as far as its s-th array -/
def TS (h hs : jH) (sz cl s : Nat) : Prop := jB h hs ∧ j_c hs = j_c h + 1 + s ∧ j_k hs (j_c h) = 15 ∧ j_I hs (j_c h) 6 = nI sz ∧ j_I hs (j_c h) 7 = nI cl ∧ (∀ r, r < s → j_R hs (j_c h) r = some (j_c h + 1 + r)) ∧ (∀ r, r < s → j_k hs (j_c h + 1 + r) = 0 ∧ j_n hs (j_c h + 1 + r) = (if r = 0 then sz else cl) ∧ ∀ i, i < (if r = 0 then sz else cl) → j_I hs (j_c h + 1 + r) i = j_I h (63 + r) i) ∧ j_z hs ≤ j_z h + (if s = 0 then 8 else 396 + 12 * s)
theorem TS.step {F : Nat × Nat} {h hs : jH} {sz cl s : Nat} (T : TS h hs sz cl s) (c : 110 < j_c h) (hs6 : s < 6) (k0 : j_k h (63 + s) = 0) (n0 : j_n h (63 + s) = if s = 0 then 480 else 12) (hz : sz ≤ 400) (hc : cl ≤ 12) : ∃ h', m_Ja_copyOf F (63 + s) (nI (if s = 0 then sz else cl)) hs = some (some (.ref (j_c h + 1 + s)), h') ∧ j_k h' (j_c h) = 15 ∧ TS h (j_sR h' (j_c h) s (some (j_c h + 1 + s))) sz cl (s + 1) := by
  obtain ⟨t1, t2, t3, t4, t5, t6, t7, t8⟩ := T
  have b := t1.2 (63 + s) (by omega)
  have m1 : (if s = 0 then sz else cl) ≤ (if s = 0 then 480 else 12) := by
    by_cases z : s = 0
    · rw [if_pos z, if_pos z]; omega
    · rw [if_neg z, if_neg z]; omega
  obtain ⟨h', e, p1, p2, p3, p4, p5, p6⟩ := Ja_copy (F := F) (h := hs) (a := 63 + s) (m := if s = 0 then sz else cl) (n0 := if s = 0 then 480 else 12) (by rw [b.1.1]; exact k0) (by rw [b.1.2]; exact n0) m1 (by split <;> omega) (by omega)
  rw [t2] at e p2 p4 p5 p6
  have bt := p1.2 (j_c h) (by omega)
  have mb : (if s = 0 then sz else cl) ≤ 400 := by split <;> omega
  refine ⟨h', e, by rw [bt.1.1]; exact t3, ?_, by show j_c h' = _; omega, by rw [k_sR, bt.1.1]; exact t3, by rw [I_sR, (bt.2 6).1]; exact t4, by rw [I_sR, (bt.2 7).1]; exact t5, fun r hr => ?_, fun r hr => ?_, ?_⟩
  · exact (t1.tr p1).sR (Nat.le_refl _)
  · by_cases q : r = s
    · rw [q, R_sRe]
    · rw [R_sRk q, (bt.2 r).2.2]; exact t6 r (by omega)
  · by_cases q : r = s
    · subst q
      exact ⟨p4, p5, fun i hi => by rw [I_sR, p6 i hi]; exact (b.2 i).1⟩
    · have br := p1.2 (j_c h + 1 + r) (by omega)
      obtain ⟨v1, v2, v3⟩ := t7 r (by omega)
      exact ⟨by rw [k_sR, br.1.1]; exact v1, by rw [n_sR, br.1.2]; exact v2, fun i hi => by rw [I_sR, (br.2 i).1]; exact v3 i hi⟩
  · show j_z h' ≤ _
    rw [if_neg (by omega : ¬ s + 1 = 0)]
    by_cases z : s = 0
    · rw [if_pos z] at t8 p3
      omega
    · rw [if_neg z] at t8 p3
      omega
theorem T_new {F : Nat × Nat} {h : jH} (S : ShF h) (c : 110 < j_c h) {od : Bool} {cs : List Cz} (X : TX h 62 od cs) : ∃ h', m_T_new_L F (j_c h) 62 (j_new h 15 8) = some (none, h') ∧ jB h h' ∧ j_c h' = j_c h + 7 ∧ j_z h' ≤ j_z h + 468 ∧ TX h' (j_c h) od cs := by
  obtain ⟨na, nb, ⟨A, ha, hb⟩, K, h6, h7, hl, hz, hcc, g, g2⟩ := X
  let sz := (czL 0 cs).length
  let cl := cs.length
  let t := j_c h
  let h4 := j_sI (j_sI (j_sI (j_sI (j_new h 15 8) t 6 (nI 0)) t 7 (nI 0)) t 6 (nI sz)) t 7 (nI cl)
  have B0 := jB.new h 15 8
  have kt : j_k (j_new h 15 8) t = 15 := new_k h 15 8
  have k62 : j_k (j_new h 15 8) 62 = 15 := by rw [(B0.2 62 (by omega)).1.1]; exact sf_k62 S
  have ne62 : (62 : Nat) ≠ t := by show (62 : Nat) ≠ j_c h; omega
  have i6 : ∀ x, j_I (j_sI (j_sI (j_new h 15 8) t 6 (nI 0)) t 7 (nI 0)) 62 x = j_I h 62 x := fun x => by rw [I_sIn ne62, I_sIn ne62]; exact ((B0.2 62 (by omega)).2 x).1
  have T0 : TS h h4 sz cl 0 := ⟨(((B0.sI (Nat.le_refl _)).sI (Nat.le_refl _)).sI (Nat.le_refl _)).sI (Nat.le_refl _), rfl, kt, by show j_I h4 t 6 = _; simp only [h4]; rw [I_sIk (by omega), I_sIe], I_sIe, fun r hr => absurd hr (by omega), fun r hr => absurd hr (by omega), Nat.le_refl _⟩
  obtain ⟨g1, e1, q1, T1⟩ := T0.step (F := F) c (by omega) (sf_k63 S) (sf_n63 S) hz hl
  obtain ⟨g2', e2, q2, T2⟩ := T1.step (F := F) c (by omega) (sf_k64 S) (sf_n64 S) hz hl
  obtain ⟨g3, e3, q3, T3⟩ := T2.step (F := F) c (by omega) (sf_k65 S) (sf_n65 S) hz hl
  obtain ⟨g4, e4, q4, T4⟩ := T3.step (F := F) c (by omega) (sf_k66 S) (sf_n66 S) hz hl
  obtain ⟨g5, e5, q5, T5⟩ := T4.step (F := F) c (by omega) (sf_k67 S) (sf_n67 S) hz hl
  obtain ⟨g6, e6, q6, T6⟩ := T5.step (F := F) c (by omega) (sf_k68 S) (sf_n68 S) hz hl
  have kk : ∀ {hs : jH} {s : Nat}, TS h hs sz cl s → j_k hs 62 = 15 := fun T => by rw [(T.1.2 62 (by omega)).1.1]; exact sf_k62 S
  have rr : ∀ {hs : jH} {s : Nat}, TS h hs sz cl s → ∀ x, j_R hs 62 x = j_R h 62 x := fun T x => ((T.1.2 62 (by omega)).2 x).2.2
  have p : ∀ {hs : jH} {s : Nat} (x y : Nat), TS h hs sz cl s → j_R h 62 x = some y → ∀ ff : Nat → Option jO, j_rv (va_rf (j_R hs 62 x)) ff = ff y := fun x y T q ff => by rw [rr T, q]; rfl
  have f1 : m_Ja_copyOf F 63 (nI sz) h4 = some (some (.ref (t + 1 + 0)), g1) := e1
  have f2 : m_Ja_copyOf F 64 (nI cl) (j_sR g1 t 0 (some (t + 1 + 0))) = some (some (.ref (t + 1 + 1)), g2') := e2
  have f3 : m_Ja_copyOf F 65 (nI cl) (j_sR g2' t 1 (some (t + 1 + 1))) = some (some (.ref (t + 1 + 2)), g3) := e3
  have f4 : m_Ja_copyOf F 66 (nI cl) (j_sR g3 t 2 (some (t + 1 + 2))) = some (some (.ref (t + 1 + 3)), g4) := e4
  have f5 : m_Ja_copyOf F 67 (nI cl) (j_sR g4 t 3 (some (t + 1 + 3))) = some (some (.ref (t + 1 + 4)), g5) := e5
  have f6 : m_Ja_copyOf F 68 (nI cl) (j_sR g5 t 4 (some (t + 1 + 4))) = some (some (.ref (t + 1 + 5)), g6) := e6
  have i7 : j_I (j_sI (j_sI (j_sI (j_new h 15 8) t 6 (nI 0)) t 7 (nI 0)) t 6 (nI sz)) 62 7 = nI cl := by rw [I_sIn ne62, i6]; exact h7
  refine ⟨_, ?_, T6.1, T6.2.1, T6.2.2.2.2.2.2.2, ?_⟩
  · rw [q_T_new_L, if_pos kt]
    show (if j_k (j_sI (j_new h 15 8) t 6 (nI 0)) t = 15 then _ else _) = _
    rw [if_pos (show j_k (j_sI (j_new h 15 8) t 6 (nI 0)) t = 15 from kt)]
    show (if j_k (j_sI (j_sI (j_new h 15 8) t 6 (nI 0)) t 7 (nI 0)) 62 = 15 then _ else _) = _
    rw [if_pos (show j_k (j_sI (j_sI (j_new h 15 8) t 6 (nI 0)) t 7 (nI 0)) 62 = 15 from k62), if_pos (show j_k (j_sI (j_sI (j_new h 15 8) t 6 (nI 0)) t 7 (nI 0)) t = 15 from kt), i6, h6]
    show (if j_k (j_sI (j_sI (j_sI (j_new h 15 8) t 6 (nI 0)) t 7 (nI 0)) t 6 (nI sz)) 62 = 15 then _ else _) = _
    rw [if_pos (show j_k (j_sI (j_sI (j_sI (j_new h 15 8) t 6 (nI 0)) t 7 (nI 0)) t 6 (nI sz)) 62 = 15 from k62), if_pos (show j_k (j_sI (j_sI (j_sI (j_new h 15 8) t 6 (nI 0)) t 7 (nI 0)) t 6 (nI sz)) t = 15 from kt), i7]
    show (if j_k h4 62 = 15 then _ else _) = _
    rw [if_pos (kk T0), if_pos T0.2.2.1, p 0 63 T0 (sf_R62_0 S), show j_I h4 t 6 = nI sz from T0.2.2.2.1, bR_of f1 rfl, ft_isr, cond_true, if_pos q1, ft_ov]
    show (if j_k (j_sR g1 t 0 (some (t + 1 + 0))) 62 = 15 then _ else _) = _
    rw [if_pos (kk T1), if_pos T1.2.2.1, p 1 64 T1 (sf_R62_1 S), show j_I (j_sR g1 t 0 (some (t + 1 + 0))) t 7 = nI cl from T1.2.2.2.2.1, bR_of f2 rfl, ft_isr, cond_true, if_pos q2, ft_ov]
    show (if j_k (j_sR g2' t 1 (some (t + 1 + 1))) 62 = 15 then _ else _) = _
    rw [if_pos (kk T2), if_pos T2.2.2.1, p 2 65 T2 (sf_R62_2 S), show j_I (j_sR g2' t 1 (some (t + 1 + 1))) t 7 = nI cl from T2.2.2.2.2.1, bR_of f3 rfl, ft_isr, cond_true, if_pos q3, ft_ov]
    show (if j_k (j_sR g3 t 2 (some (t + 1 + 2))) 62 = 15 then _ else _) = _
    rw [if_pos (kk T3), if_pos T3.2.2.1, p 3 66 T3 (sf_R62_3 S), show j_I (j_sR g3 t 2 (some (t + 1 + 2))) t 7 = nI cl from T3.2.2.2.2.1, bR_of f4 rfl, ft_isr, cond_true, if_pos q4, ft_ov]
    show (if j_k (j_sR g4 t 3 (some (t + 1 + 3))) 62 = 15 then _ else _) = _
    rw [if_pos (kk T4), if_pos T4.2.2.1, p 4 67 T4 (sf_R62_4 S), show j_I (j_sR g4 t 3 (some (t + 1 + 3))) t 7 = nI cl from T4.2.2.2.2.1, bR_of f5 rfl, ft_isr, cond_true, if_pos q5, ft_ov]
    show (if j_k (j_sR g5 t 4 (some (t + 1 + 4))) 62 = 15 then _ else _) = _
    rw [if_pos (kk T5), if_pos T5.2.2.1, p 5 68 T5 (sf_R62_5 S), show j_I (j_sR g5 t 4 (some (t + 1 + 4))) t 7 = nI cl from T5.2.2.2.2.1, bR_of f6 rfl, ft_isr, cond_true, if_pos q6, ft_ov]
  · have cs0 : ∀ r i, 1 ≤ r → r < 6 → i < cl → j_I (j_sR g6 t 5 (some (t + 1 + 5))) (t + 1 + r) i = j_I h (63 + r) i := fun r i h1 h2 hi => (T6.2.2.2.2.2.2.1 r h2).2.2 i (by rw [if_neg (by omega)]; exact hi)
    have kl : ∀ (cs' : List Cz) (i s : Nat), i + cs'.length ≤ cl → KLp h 62 i s cs' → KLp (j_sR g6 t 5 (some (t + 1 + 5))) t i s cs' := by
      intro cs'
      induction cs' with
      | nil => intro i s _ _; exact True.intro
      | cons x cs' ih =>
        intro i s hl2 Kx
        have ll : (x :: cs').length = cs'.length + 1 := rfl
        rw [ll] at hl2
        refine ⟨?_, ih _ _ (by omega) Kx.2⟩
        obtain ⟨z1, z2, z3, z4, z5⟩ := Kx.1
        have hi : i < cl := by omega
        exact ⟨(cs0 1 i (by omega) (by omega) hi).trans z1, (cs0 2 i (by omega) (by omega) hi).trans z2, (cs0 3 i (by omega) (by omega) hi).trans z3, (cs0 4 i (by omega) (by omega) hi).trans z4, (cs0 5 i (by omega) (by omega) hi).trans z5⟩
    have R := T6.2.2.2.2.2.1
    have Q := T6.2.2.2.2.2.2.1
    refine ⟨sz, cl, ⟨⟨T6.2.2.1, ⟨R 0 (by omega), R 1 (by omega), R 2 (by omega), R 3 (by omega), R 4 (by omega), R 5 (by omega)⟩, ⟨(Q 0 (by omega)).1, (Q 0 (by omega)).2.1⟩, ⟨(Q 1 (by omega)).1, (Q 1 (by omega)).2.1⟩, ⟨(Q 2 (by omega)).1, (Q 2 (by omega)).2.1⟩, ⟨(Q 3 (by omega)).1, (Q 3 (by omega)).2.1⟩, ⟨(Q 4 (by omega)).1, (Q 4 (by omega)).2.1⟩, ⟨(Q 5 (by omega)).1, (Q 5 (by omega)).2.1⟩⟩, Nat.le_refl _, Nat.le_refl _⟩, kl cs 0 0 (by show 0 + cs.length ≤ cs.length; omega) K, T6.2.2.2.1, T6.2.2.2.2.1, hl, hz, fun i hi => ?_, g, g2⟩
    rw [show j_I (j_sR g6 t 5 (some (t + 1 + 5))) (t + 1) i = j_I h 63 i from (Q 0 (by omega)).2.2 i hi]
    exact hcc i hi
