/-! CALL: law -/
def flC (sc : Sc) (f : Int32) : Sc := (sc.1, sc.2.1, sc.2.2.1, f, sc.2.2.2.2)
def flT (tp : Nat → Nat) (tl : Nat) (od : Bool) : Int32 := if (tX tp tl od).1.1 = true then mI 0 else nI (tPl tp tl (tX tp tl od).1.2.1)
theorem tT_z {tp : Nat → Nat} {tl i : Nat} (h : tN tp tl ≤ i) : (tT tp tl).1 i = 0 ∧ (tT tp tl).2 i = 0 := by
  unfold tN at h
  rcases Nat.lt_or_ge (tL tp tl).length i with y | y
  · exact ⟨gd_out y, gd_out y⟩
  · have : i = (tL tp tl).length := by omega
    rw [this]; exact ⟨gd_end, gd_end⟩
theorem tT_b {tp : Nat → Nat} {tl : Nat} (hb : ∀ i, i < tl → tp i < 256) (hl : tl ≤ 400) (i : Nat) : (tT tp tl).1 i < 356 ∧ (tT tp tl).2 i < 33554432 := by
  have g := tz_good hb hl (tl + 1) 0
  exact ⟨gd_all (p := fun x => x < 356) (fun q hq => (g q hq).2.1) (by omega) (by omega) i, gd_all (p := fun x => x < 33554432) (fun q hq => by have := (g q hq).2.2.1; omega) (by omega) (by omega) i⟩
theorem M_rd {F : Nat × Nat} (hF : FF F) {h : jH} {k : Nat → Nat} {im : Nat → Option (Nat → Nat)} {u : List Ue} {tp : Nat → Nat} {tl : Nat} {sc : Sc} {kd : Nat → Nat} (M : MI h k im u tp tl sc kd) (od : Bool) : ∃ h1, m_M_readsAs F 85 (nI (ft_z od)) h = some (some (.int (nI (ft_z (tX tp tl od).1.1))), h1) ∧ MI h1 k im u tp 0 (flC sc (flT tp tl od)) kd ∧ jX dMM jN h h1 ∧ j_I h1 85 18 = nI (tN tp tl) ∧ ∀ i, i < tN tp tl → j_I h1 94 i = nI ((tT tp tl).1 i) ∧ j_I h1 95 i = nI ((tT tp tl).2 i) := by
  obtain ⟨m1, m2, m3, m4, m5, m6, m7, m8, m9⟩ := M
  obtain ⟨h0, x0, e⟩ := M_readsAs (F := F) hF m1 m2 m7.1 od m7.2
  have S0 := m1.fr x0 (fun _ _ z => z)
  have Q0 : TQ h0 tp tl := ⟨m7.1.1, fun i hi => by rw [x0.I (by omega)]; exact m7.1.2 i hi⟩
  have TMf : TM (hRd h0 tp tl) (tT tp tl) (tPl tp tl) (tN tp tl) := by
    refine tTM (A := j_I h0 94) (B := j_I h0 95) (C := j_I h0 96) (fun i hi => (Q0.2 i hi).2) Q0.1 (fun i _ => ?_) (fun i _ => ?_) (fun i _ => ?_)
    · unfold hRd hSp
      rw [I_sIn (by omega), I_sIn (by omega), I_sIn (by omega), I_sIn (by omega), hS_94]
    · unfold hRd hSp
      rw [I_sIn (by omega), I_sIn (by omega), I_sIn (by omega), I_sIn (by omega), hS_95]
    · unfold hRd hSp
      rw [I_sIn (by omega), I_sIn (by omega), I_sIn (by omega), I_sIn (by omega), hS_96]
  have hn : ∀ a i, a ≠ 85 → j_I (hPe (hRd h0 tp tl) (tPl tp tl) (tX tp tl od).1) a i = j_I (hRd h0 tp tl) a i := fun a i q => by
    unfold hPe
    rw [I_sIn q, hP_I q]
  have h85 : ∀ i, i ≠ 14 → (i < 19 ∨ 21 < i) → j_I (hPe (hRd h0 tp tl) (tPl tp tl) (tX tp tl od).1) 85 i = j_I (hRd h0 tp tl) 85 i := fun i q1 q2 => by
    unfold hPe
    rw [I_sIk q1, hP_o q2]
  have e14 : j_I (hPe (hRd h0 tp tl) (tPl tp tl) (tX tp tl od).1) 85 14 = flT tp tl od := by
    unfold hPe; rw [I_sIe]; rfl
  have e13 : j_I (hPe (hRd h0 tp tl) (tPl tp tl) (tX tp tl od).1) 85 13 = nI 0 := by
    rw [h85 13 (by omega) (by omega)]
    unfold hRd
    rw [I_sIk (by omega), I_sIk (by omega), I_sIk (by omega), I_sIe]
  have n : ∀ a i, (a ≠ 85 ∧ (a < 85 ∨ (85 < a ∧ a < 94) ∨ 96 < a)) ∨ (a = 85 ∧ (i < 8 ∨ 10 < i) ∧ i ≠ 13 ∧ i ≠ 14 ∧ (i < 18 ∨ 21 < i)) → j_I (hPe (hRd h0 tp tl) (tPl tp tl) (tX tp tl od).1) a i = j_I h a i := fun a i q => by
    rcases q with ⟨q1, q2⟩ | ⟨q1, q2, q3, q4, q5⟩
    · rw [hn a i q1, hRd_I q2, x0.I (by omega)]
    · subst q1
      rw [h85 i q4 (by omega), hRd_o (by omega), x0.I (by omega)]
  have xx : jX dMM jN h (hPe (hRd h0 tp tl) (tPl tp tl) (tX tp tl od).1) := ⟨x0.1, x0.2.1, x0.2.2.1, fun a i => ⟨fun nd => ⟨n a i (by unfold dMM at nd; omega), x0.J (fun z => nd (by unfold dMM; omega))⟩, fun ne => x0.R ne⟩⟩
  refine ⟨_, e, ⟨S0, ?_, ?_, ?_, ?_, ?_, ⟨⟨by omega, fun i hi => absurd hi (by omega)⟩, e13⟩, ?_, ?_⟩, xx, by rw [h85 18 (by omega) (by omega), hRd_18], fun i hi => ?_⟩
  · unfold WM at m2 ⊢
    simp (disch := omega) only [n]
    exact m2
  · unfold SB at m3 ⊢
    simp (disch := omega) only [n]
    exact m3
  · unfold KM at m4 ⊢
    simp (disch := omega) only [n]
    exact m4
  · unfold MIm at m5 ⊢
    simp (disch := omega) only [n]
    exact m5
  · unfold MU at m6 ⊢
    simp (disch := omega) only [n]
    exact m6
  · unfold MS at m8 ⊢
    simp (disch := omega) only [n]
    exact ⟨m8.1, m8.2.1, m8.2.2.1, e14, m8.2.2.2.2⟩
  · unfold MD at m9 ⊢
    simp (disch := omega) only [n]
    exact m9
  · obtain ⟨t1, t2, t3⟩ := TMf.1 i (by omega)
    exact ⟨by rw [hn 94 i (by omega)]; exact t1, by rw [hn 95 i (by omega)]; exact t2⟩
/-- a law more, the kept row -/
def lwK (k : Nat → Nat) (T : Tk) (n : Nat) : Nat → Nat := va_up (lyT k T n (k 179) n) 179 (k 179 + 1)
theorem lwK_o {k : Nat → Nat} {T : Tk} {n i : Nat} (hn : n ≤ 400) (h : i < 179 ∨ i = 180) (h6 : k 179 < 6) : lwK k T n i = k i := by
  unfold lwK
  rw [va_n (by omega), lyT_o n (by omega) (by omega) (by omega)]
theorem lwK_T {k : Nat → Nat} {T : Tk} {n : Nat} (hn : n ≤ 400) (h6 : k 179 < 6) (z : ∀ i, n ≤ i → T.1 i = 0 ∧ T.2 i = 0) : kT (lwK k T n) (k 179) = T ∧ lwK k T n (181 + k 179) = n := by
  have e0 : lwK k T n (181 + k 179) = n := by
    unfold lwK
    rw [va_n (by omega)]; exact lyT_n (by omega) n hn
  refine ⟨?_, e0⟩
  unfold kT
  rw [e0]
  refine Prod.ext (funext fun i => ?_) (funext fun i => ?_)
  · show (if i < n then lwK k T n (188 + (400 * k 179 + i)) else 0) = T.1 i
    by_cases q : i < n
    · rw [if_pos q]
      unfold lwK
      rw [va_n (by omega)]; exact (lyT_1 (by omega) n i hn q).1
    · rw [if_neg q]; exact (z i (by omega)).1.symm
  · show (if i < n then lwK k T n (2988 + (400 * k 179 + i)) else 0) = T.2 i
    by_cases q : i < n
    · rw [if_pos q]
      unfold lwK
      rw [va_n (by omega)]; exact (lyT_1 (by omega) n i hn q).2
    · rw [if_neg q]; exact (z i (by omega)).2.symm
theorem lwK_j {k : Nat → Nat} {T : Tk} {n j : Nat} (W : WK k) (hn : n ≤ 400) (h6 : k 179 < 6) (hj : j < 7) (ne : j ≠ k 179) : kT (lwK k T n) j = kT k j ∧ lwK k T n (181 + j) = k (181 + j) := by
  have sz := W.size hj
  have e0 : lwK k T n (181 + j) = k (181 + j) := by
    unfold lwK
    rw [va_n (by omega), lyT_o n (by omega) (by omega) (by omega)]
  refine ⟨?_, e0⟩
  unfold kT
  rw [e0]
  refine Prod.ext (funext fun i => ?_) (funext fun i => ?_)
  · show (if i < k (181 + j) then lwK k T n (188 + (400 * j + i)) else 0) = if i < k (181 + j) then k (188 + (400 * j + i)) else 0
    by_cases q : i < k (181 + j)
    · rw [if_pos q, if_pos q]
      unfold lwK
      rw [va_n (by omega), lyT_o n (by omega) (by omega) (by omega)]
    · rw [if_neg q, if_neg q]
  · show (if i < k (181 + j) then lwK k T n (2988 + (400 * j + i)) else 0) = if i < k (181 + j) then k (2988 + (400 * j + i)) else 0
    by_cases q : i < k (181 + j)
    · rw [if_pos q, if_pos q]
      unfold lwK
      rw [va_n (by omega), lyT_o n (by omega) (by omega) (by omega)]
    · rw [if_neg q, if_neg q]
theorem lyT_b {k : Nat → Nat} {T : Tk} {n j : Nat} (kb : ∀ i, k i < 33554432) (tb : ∀ i, T.1 i < 356 ∧ T.2 i < 33554432) (hn : n ≤ 400) : ∀ m i, lyT k T n j m i < 33554432
  | 0, i => by
    show va_up k _ _ i < _
    by_cases q : i = 181 + j
    · rw [q, va_e]; omega
    · rw [va_n q]; exact kb i
  | m + 1, i => by
    have := tb m
    show va_up (va_up (lyT k T n j m) _ _) _ _ i < _
    by_cases q : i = 2988 + 400 * j + m
    · rw [q, va_e]; omega
    · rw [va_n q]
      by_cases q2 : i = 188 + 400 * j + m
      · rw [q2, va_e]; omega
      · rw [va_n q2]; exact lyT_b kb tb hn m i
theorem lwK_W {k : Nat → Nat} {T : Tk} {n : Nat} (W : WK k) (hn : n ≤ 400) (h6 : k 179 < 6) (z : ∀ i, n ≤ i → T.1 i = 0 ∧ T.2 i = 0) (tb : ∀ i, T.1 i < 356 ∧ T.2 i < 33554432) (ok : (h_text T false n).1.1 = true) : WK (lwK k T n) := by
  have o : ∀ i, i < 179 ∨ i = 180 → lwK k T n i = k i := fun i hi => lwK_o hn hi h6
  have e9 : lwK k T n 179 = k 179 + 1 := by unfold lwK; rw [va_e]
  obtain ⟨w1, w2, w3, w4, w5, w6, w7, w8, w9, w10, w11, w12, w13, w14, w15, w16, w17⟩ := id W
  refine ⟨fun i => ?_, fun w hw => by rw [o _ (by omega)]; exact w2 w hw, fun i hi => by rw [o _ (by omega)]; exact w3 i hi, by rw [o _ (by omega)]; exact w4, fun i hi => by rw [o _ (by omega)]; exact w5 i hi, fun i hi => by rw [o _ (by omega)]; exact w6 i hi, fun i hi => by rw [o _ (by omega)]; exact w7 i hi, fun i hi => by rw [o _ (by omega)]; exact w8 i hi, fun i hi => by rw [o _ (by omega)]; exact w9 i hi, by rw [o _ (by omega)]; exact w10, by rw [o _ (by omega)]; exact w11, by rw [o _ (by omega)]; exact w12, by rw [o _ (by omega)]; exact w13, by rw [e9]; omega, by rw [e9, o _ (by omega)]; omega, fun j hj => ?_, fun j hj => ?_⟩
  · unfold lwK
    by_cases q : i = 179
    · rw [q, va_e]; omega
    · rw [va_n q]; exact lyT_b w1 tb hn n i
  · by_cases q : j = k 179
    · rw [q, (lwK_T hn h6 z).2]; exact hn
    · rw [(lwK_j W hn h6 hj q).2]; exact w16 j hj
  · rw [e9] at hj
    unfold kOK
    by_cases q : j = k 179
    · rw [q, (lwK_T hn h6 z).1, (lwK_T hn h6 z).2]; exact ok
    · rw [(lwK_j W hn h6 (by omega) q).1, (lwK_j W hn h6 (by omega) q).2]; exact w17 j (by omega)
