/-! SINGLE CELLS OF A LAND ARE SET (written by program genli.py) -/
theorem LI.kind {h : jH} {o : Nat} {k : Nat → Nat} (I : LI h o k) (b : k 177 ≤ 4) (b2 : k 178 ≤ 6) {c x : Nat} (hc : c < 25) : LI (j_sI h (o + 1) (c) (nI x)) o (va_up k (105 + c) (x)) := by
  obtain ⟨i1, i2, i3, i4, i5, i6, i7, i8, i9, i10, i11⟩ := I
  have kk : ∀ i, i ≠ 105 + c → (va_up k (105 + c) (x)) i = k i := fun i hi => va_n hi
  have e : ∀ r i, r ≠ 1 → j_I (j_sI h (o + 1) (c) (nI x)) (o + r) i = j_I h (o + r) i := fun r i n => I_sIn (by omega)
  have ek : ∀ i, i ≠ c → j_I (j_sI h (o + 1) (c) (nI x)) (o + 1) i = j_I h (o + 1) i := fun i n => I_sIk n
  have e0 : ∀ i : Nat, i ≠ 999 → j_I (j_sI h (o + 1) (c) (nI x)) o i = j_I h o i := fun i n => I_sIn (by omega)
  refine ⟨fun c1 hc1 => ?_, fun c1 hc1 => ?_, ?_, fun v hv => ?_, ?_, fun g hg => ?_, ?_, ?_, ?_, ?_, ?_⟩
  · by_cases q : c1 = c
    · rw [q, I_sIe, va_e]
    · rw [ek c1 q, kk _ (by omega)]; exact i1 c1 hc1
  · rw [e 2 (c1) (by omega), kk _ (by omega)]; exact i2 c1 hc1
  · rw [e0 2 (by omega), kk 177 (by omega)]; exact i3
  · rw [kk 177 (by omega)] at hv
    obtain ⟨j1, j2, j3, j4, j5⟩ := i4 v hv
    have s1 : ft_bs (ft_sh (va_up k (105 + c) (x)) v) 25 = ft_bs (ft_sh k v) 25 := sh_o (by omega)
    have s2 : mrk (va_up k (105 + c) (x)) v = mrk k v := mrk_o (by omega)
    refine ⟨?_, ?_, ?_, by rw [e 6 (v) (by omega), s1]; exact j4, by rw [J_sI, s2]; exact j5⟩
    · rw [e 3 (v) (by omega), kk _ (by omega)]; exact j1
    · rw [e 4 (v) (by omega), kk _ (by omega)]; exact j2
    · rw [e 5 (v) (by omega), kk _ (by omega)]; exact j3
  · rw [e0 8 (by omega), kk 178 (by omega)]; exact i5
  · rw [kk 178 (by omega)] at hg
    exact ⟨by rw [e 8 (g) (by omega), kk _ (by omega)]; exact (i6 g hg).1, by rw [e 9 (g) (by omega), kk _ (by omega)]; exact (i6 g hg).2⟩
  · rw [e 10 (0) (by omega), kk 104 (by omega)]; exact i7
  · rw [e 10 (1) (by omega), kk 175 (by omega)]; exact i8
  · rw [e 10 (2) (by omega), kk 176 (by omega)]; exact i9
  · rw [e0 13 (by omega), kk 179 (by omega)]; exact i10
  · rw [e0 14 (by omega), kk 180 (by omega)]; exact i11
theorem LI.hgt {h : jH} {o : Nat} {k : Nat → Nat} (I : LI h o k) (b : k 177 ≤ 4) (b2 : k 178 ≤ 6) {c x : Nat} (hc : c < 25) : LI (j_sI h (o + 2) (c) (nI x)) o (va_up k (130 + c) (x)) := by
  obtain ⟨i1, i2, i3, i4, i5, i6, i7, i8, i9, i10, i11⟩ := I
  have kk : ∀ i, i ≠ 130 + c → (va_up k (130 + c) (x)) i = k i := fun i hi => va_n hi
  have e : ∀ r i, r ≠ 2 → j_I (j_sI h (o + 2) (c) (nI x)) (o + r) i = j_I h (o + r) i := fun r i n => I_sIn (by omega)
  have ek : ∀ i, i ≠ c → j_I (j_sI h (o + 2) (c) (nI x)) (o + 2) i = j_I h (o + 2) i := fun i n => I_sIk n
  have e0 : ∀ i : Nat, i ≠ 999 → j_I (j_sI h (o + 2) (c) (nI x)) o i = j_I h o i := fun i n => I_sIn (by omega)
  refine ⟨fun c1 hc1 => ?_, fun c1 hc1 => ?_, ?_, fun v hv => ?_, ?_, fun g hg => ?_, ?_, ?_, ?_, ?_, ?_⟩
  · rw [e 1 (c1) (by omega), kk _ (by omega)]; exact i1 c1 hc1
  · by_cases q : c1 = c
    · rw [q, I_sIe, va_e]
    · rw [ek c1 q, kk _ (by omega)]; exact i2 c1 hc1
  · rw [e0 2 (by omega), kk 177 (by omega)]; exact i3
  · rw [kk 177 (by omega)] at hv
    obtain ⟨j1, j2, j3, j4, j5⟩ := i4 v hv
    have s1 : ft_bs (ft_sh (va_up k (130 + c) (x)) v) 25 = ft_bs (ft_sh k v) 25 := sh_o (by omega)
    have s2 : mrk (va_up k (130 + c) (x)) v = mrk k v := mrk_o (by omega)
    refine ⟨?_, ?_, ?_, by rw [e 6 (v) (by omega), s1]; exact j4, by rw [J_sI, s2]; exact j5⟩
    · rw [e 3 (v) (by omega), kk _ (by omega)]; exact j1
    · rw [e 4 (v) (by omega), kk _ (by omega)]; exact j2
    · rw [e 5 (v) (by omega), kk _ (by omega)]; exact j3
  · rw [e0 8 (by omega), kk 178 (by omega)]; exact i5
  · rw [kk 178 (by omega)] at hg
    exact ⟨by rw [e 8 (g) (by omega), kk _ (by omega)]; exact (i6 g hg).1, by rw [e 9 (g) (by omega), kk _ (by omega)]; exact (i6 g hg).2⟩
  · rw [e 10 (0) (by omega), kk 104 (by omega)]; exact i7
  · rw [e 10 (1) (by omega), kk 175 (by omega)]; exact i8
  · rw [e 10 (2) (by omega), kk 176 (by omega)]; exact i9
  · rw [e0 13 (by omega), kk 179 (by omega)]; exact i10
  · rw [e0 14 (by omega), kk 180 (by omega)]; exact i11
theorem LI.want {h : jH} {o : Nat} {k : Nat → Nat} (I : LI h o k) (b : k 177 ≤ 4) (b2 : k 178 ≤ 6) {w x : Nat} (hw : w < 4) : LI (j_sI h (o + 5) (w) (nI x)) o (va_up k (159 + w) (x)) := by
  obtain ⟨i1, i2, i3, i4, i5, i6, i7, i8, i9, i10, i11⟩ := I
  have kk : ∀ i, i ≠ 159 + w → (va_up k (159 + w) (x)) i = k i := fun i hi => va_n hi
  have e : ∀ r i, r ≠ 5 → j_I (j_sI h (o + 5) (w) (nI x)) (o + r) i = j_I h (o + r) i := fun r i n => I_sIn (by omega)
  have ek : ∀ i, i ≠ w → j_I (j_sI h (o + 5) (w) (nI x)) (o + 5) i = j_I h (o + 5) i := fun i n => I_sIk n
  have e0 : ∀ i : Nat, i ≠ 999 → j_I (j_sI h (o + 5) (w) (nI x)) o i = j_I h o i := fun i n => I_sIn (by omega)
  refine ⟨fun c1 hc1 => ?_, fun c1 hc1 => ?_, ?_, fun v hv => ?_, ?_, fun g hg => ?_, ?_, ?_, ?_, ?_, ?_⟩
  · rw [e 1 (c1) (by omega), kk _ (by omega)]; exact i1 c1 hc1
  · rw [e 2 (c1) (by omega), kk _ (by omega)]; exact i2 c1 hc1
  · rw [e0 2 (by omega), kk 177 (by omega)]; exact i3
  · rw [kk 177 (by omega)] at hv
    obtain ⟨j1, j2, j3, j4, j5⟩ := i4 v hv
    have s1 : ft_bs (ft_sh (va_up k (159 + w) (x)) v) 25 = ft_bs (ft_sh k v) 25 := sh_o (by omega)
    have s2 : mrk (va_up k (159 + w) (x)) v = mrk k v := mrk_o (by omega)
    refine ⟨?_, ?_, ?_, by rw [e 6 (v) (by omega), s1]; exact j4, by rw [J_sI, s2]; exact j5⟩
    · rw [e 3 (v) (by omega), kk _ (by omega)]; exact j1
    · rw [e 4 (v) (by omega), kk _ (by omega)]; exact j2
    · by_cases q : v = w
      · rw [q, I_sIe, va_e]
      · rw [ek v q, kk _ (by omega)]; exact j3
  · rw [e0 8 (by omega), kk 178 (by omega)]; exact i5
  · rw [kk 178 (by omega)] at hg
    exact ⟨by rw [e 8 (g) (by omega), kk _ (by omega)]; exact (i6 g hg).1, by rw [e 9 (g) (by omega), kk _ (by omega)]; exact (i6 g hg).2⟩
  · rw [e 10 (0) (by omega), kk 104 (by omega)]; exact i7
  · rw [e 10 (1) (by omega), kk 175 (by omega)]; exact i8
  · rw [e 10 (2) (by omega), kk 176 (by omega)]; exact i9
  · rw [e0 13 (by omega), kk 179 (by omega)]; exact i10
  · rw [e0 14 (by omega), kk 180 (by omega)]; exact i11
theorem LI.min {h : jH} {o : Nat} {k : Nat → Nat} (I : LI h o k) (b : k 177 ≤ 4) (b2 : k 178 ≤ 6) {x : Nat} : LI (j_sI h (o + 10) (0) (nI x)) o (va_up k (104) (x)) := by
  obtain ⟨i1, i2, i3, i4, i5, i6, i7, i8, i9, i10, i11⟩ := I
  have kk : ∀ i, i ≠ 104 → (va_up k (104) (x)) i = k i := fun i hi => va_n hi
  have e : ∀ r i, r ≠ 10 → j_I (j_sI h (o + 10) (0) (nI x)) (o + r) i = j_I h (o + r) i := fun r i n => I_sIn (by omega)
  have ek : ∀ i, i ≠ 0 → j_I (j_sI h (o + 10) (0) (nI x)) (o + 10) i = j_I h (o + 10) i := fun i n => I_sIk n
  have e0 : ∀ i : Nat, i ≠ 999 → j_I (j_sI h (o + 10) (0) (nI x)) o i = j_I h o i := fun i n => I_sIn (by omega)
  refine ⟨fun c1 hc1 => ?_, fun c1 hc1 => ?_, ?_, fun v hv => ?_, ?_, fun g hg => ?_, ?_, ?_, ?_, ?_, ?_⟩
  · rw [e 1 (c1) (by omega), kk _ (by omega)]; exact i1 c1 hc1
  · rw [e 2 (c1) (by omega), kk _ (by omega)]; exact i2 c1 hc1
  · rw [e0 2 (by omega), kk 177 (by omega)]; exact i3
  · rw [kk 177 (by omega)] at hv
    obtain ⟨j1, j2, j3, j4, j5⟩ := i4 v hv
    have s1 : ft_bs (ft_sh (va_up k (104) (x)) v) 25 = ft_bs (ft_sh k v) 25 := sh_o (by omega)
    have s2 : mrk (va_up k (104) (x)) v = mrk k v := mrk_o (by omega)
    refine ⟨?_, ?_, ?_, by rw [e 6 (v) (by omega), s1]; exact j4, by rw [J_sI, s2]; exact j5⟩
    · rw [e 3 (v) (by omega), kk _ (by omega)]; exact j1
    · rw [e 4 (v) (by omega), kk _ (by omega)]; exact j2
    · rw [e 5 (v) (by omega), kk _ (by omega)]; exact j3
  · rw [e0 8 (by omega), kk 178 (by omega)]; exact i5
  · rw [kk 178 (by omega)] at hg
    exact ⟨by rw [e 8 (g) (by omega), kk _ (by omega)]; exact (i6 g hg).1, by rw [e 9 (g) (by omega), kk _ (by omega)]; exact (i6 g hg).2⟩
  · rw [I_sIe, va_e]
  · rw [ek (1) (by omega), kk 175 (by omega)]; exact i8
  · rw [ek (2) (by omega), kk 176 (by omega)]; exact i9
  · rw [e0 13 (by omega), kk 179 (by omega)]; exact i10
  · rw [e0 14 (by omega), kk 180 (by omega)]; exact i11
theorem LI.smr {h : jH} {o : Nat} {k : Nat → Nat} (I : LI h o k) (b : k 177 ≤ 4) (b2 : k 178 ≤ 6) {x : Nat} : LI (j_sI h (o + 10) (1) (nI x)) o (va_up k (175) (x)) := by
  obtain ⟨i1, i2, i3, i4, i5, i6, i7, i8, i9, i10, i11⟩ := I
  have kk : ∀ i, i ≠ 175 → (va_up k (175) (x)) i = k i := fun i hi => va_n hi
  have e : ∀ r i, r ≠ 10 → j_I (j_sI h (o + 10) (1) (nI x)) (o + r) i = j_I h (o + r) i := fun r i n => I_sIn (by omega)
  have ek : ∀ i, i ≠ 1 → j_I (j_sI h (o + 10) (1) (nI x)) (o + 10) i = j_I h (o + 10) i := fun i n => I_sIk n
  have e0 : ∀ i : Nat, i ≠ 999 → j_I (j_sI h (o + 10) (1) (nI x)) o i = j_I h o i := fun i n => I_sIn (by omega)
  refine ⟨fun c1 hc1 => ?_, fun c1 hc1 => ?_, ?_, fun v hv => ?_, ?_, fun g hg => ?_, ?_, ?_, ?_, ?_, ?_⟩
  · rw [e 1 (c1) (by omega), kk _ (by omega)]; exact i1 c1 hc1
  · rw [e 2 (c1) (by omega), kk _ (by omega)]; exact i2 c1 hc1
  · rw [e0 2 (by omega), kk 177 (by omega)]; exact i3
  · rw [kk 177 (by omega)] at hv
    obtain ⟨j1, j2, j3, j4, j5⟩ := i4 v hv
    have s1 : ft_bs (ft_sh (va_up k (175) (x)) v) 25 = ft_bs (ft_sh k v) 25 := sh_o (by omega)
    have s2 : mrk (va_up k (175) (x)) v = mrk k v := mrk_o (by omega)
    refine ⟨?_, ?_, ?_, by rw [e 6 (v) (by omega), s1]; exact j4, by rw [J_sI, s2]; exact j5⟩
    · rw [e 3 (v) (by omega), kk _ (by omega)]; exact j1
    · rw [e 4 (v) (by omega), kk _ (by omega)]; exact j2
    · rw [e 5 (v) (by omega), kk _ (by omega)]; exact j3
  · rw [e0 8 (by omega), kk 178 (by omega)]; exact i5
  · rw [kk 178 (by omega)] at hg
    exact ⟨by rw [e 8 (g) (by omega), kk _ (by omega)]; exact (i6 g hg).1, by rw [e 9 (g) (by omega), kk _ (by omega)]; exact (i6 g hg).2⟩
  · rw [ek (0) (by omega), kk 104 (by omega)]; exact i7
  · rw [I_sIe, va_e]
  · rw [ek (2) (by omega), kk 176 (by omega)]; exact i9
  · rw [e0 13 (by omega), kk 179 (by omega)]; exact i10
  · rw [e0 14 (by omega), kk 180 (by omega)]; exact i11
theorem LI.mood {h : jH} {o : Nat} {k : Nat → Nat} (I : LI h o k) (b : k 177 ≤ 4) (b2 : k 178 ≤ 6) {x : Nat} : LI (j_sI h (o + 10) (2) (nI x)) o (va_up k (176) (x)) := by
  obtain ⟨i1, i2, i3, i4, i5, i6, i7, i8, i9, i10, i11⟩ := I
  have kk : ∀ i, i ≠ 176 → (va_up k (176) (x)) i = k i := fun i hi => va_n hi
  have e : ∀ r i, r ≠ 10 → j_I (j_sI h (o + 10) (2) (nI x)) (o + r) i = j_I h (o + r) i := fun r i n => I_sIn (by omega)
  have ek : ∀ i, i ≠ 2 → j_I (j_sI h (o + 10) (2) (nI x)) (o + 10) i = j_I h (o + 10) i := fun i n => I_sIk n
  have e0 : ∀ i : Nat, i ≠ 999 → j_I (j_sI h (o + 10) (2) (nI x)) o i = j_I h o i := fun i n => I_sIn (by omega)
  refine ⟨fun c1 hc1 => ?_, fun c1 hc1 => ?_, ?_, fun v hv => ?_, ?_, fun g hg => ?_, ?_, ?_, ?_, ?_, ?_⟩
  · rw [e 1 (c1) (by omega), kk _ (by omega)]; exact i1 c1 hc1
  · rw [e 2 (c1) (by omega), kk _ (by omega)]; exact i2 c1 hc1
  · rw [e0 2 (by omega), kk 177 (by omega)]; exact i3
  · rw [kk 177 (by omega)] at hv
    obtain ⟨j1, j2, j3, j4, j5⟩ := i4 v hv
    have s1 : ft_bs (ft_sh (va_up k (176) (x)) v) 25 = ft_bs (ft_sh k v) 25 := sh_o (by omega)
    have s2 : mrk (va_up k (176) (x)) v = mrk k v := mrk_o (by omega)
    refine ⟨?_, ?_, ?_, by rw [e 6 (v) (by omega), s1]; exact j4, by rw [J_sI, s2]; exact j5⟩
    · rw [e 3 (v) (by omega), kk _ (by omega)]; exact j1
    · rw [e 4 (v) (by omega), kk _ (by omega)]; exact j2
    · rw [e 5 (v) (by omega), kk _ (by omega)]; exact j3
  · rw [e0 8 (by omega), kk 178 (by omega)]; exact i5
  · rw [kk 178 (by omega)] at hg
    exact ⟨by rw [e 8 (g) (by omega), kk _ (by omega)]; exact (i6 g hg).1, by rw [e 9 (g) (by omega), kk _ (by omega)]; exact (i6 g hg).2⟩
  · rw [ek (0) (by omega), kk 104 (by omega)]; exact i7
  · rw [ek (1) (by omega), kk 175 (by omega)]; exact i8
  · rw [I_sIe, va_e]
  · rw [e0 13 (by omega), kk 179 (by omega)]; exact i10
  · rw [e0 14 (by omega), kk 180 (by omega)]; exact i11
theorem LI.force {h : jH} {o : Nat} {k : Nat → Nat} (I : LI h o k) (b : k 177 ≤ 4) (b2 : k 178 ≤ 6) {x : Nat} : LI (j_sI h o (14) (iV x)) o (va_up k (180) (x)) := by
  obtain ⟨i1, i2, i3, i4, i5, i6, i7, i8, i9, i10, i11⟩ := I
  have kk : ∀ i, i ≠ 180 → (va_up k (180) (x)) i = k i := fun i hi => va_n hi
  have e : ∀ r i, r ≠ 0 → j_I (j_sI h o (14) (iV x)) (o + r) i = j_I h (o + r) i := fun r i n => I_sIn (by omega)
  have ek : ∀ i, i ≠ 14 → j_I (j_sI h o (14) (iV x)) (o + 0) i = j_I h (o + 0) i := fun i n => I_sIk n
  have e0 : ∀ i, i ≠ 14 → j_I (j_sI h o (14) (iV x)) o i = j_I h o i := fun i n => I_sIk n
  refine ⟨fun c1 hc1 => ?_, fun c1 hc1 => ?_, ?_, fun v hv => ?_, ?_, fun g hg => ?_, ?_, ?_, ?_, ?_, ?_⟩
  · rw [e 1 (c1) (by omega), kk _ (by omega)]; exact i1 c1 hc1
  · rw [e 2 (c1) (by omega), kk _ (by omega)]; exact i2 c1 hc1
  · rw [e0 2 (by omega), kk 177 (by omega)]; exact i3
  · rw [kk 177 (by omega)] at hv
    obtain ⟨j1, j2, j3, j4, j5⟩ := i4 v hv
    have s1 : ft_bs (ft_sh (va_up k (180) (x)) v) 25 = ft_bs (ft_sh k v) 25 := sh_o (by omega)
    have s2 : mrk (va_up k (180) (x)) v = mrk k v := mrk_o (by omega)
    refine ⟨?_, ?_, ?_, by rw [e 6 (v) (by omega), s1]; exact j4, by rw [J_sI, s2]; exact j5⟩
    · rw [e 3 (v) (by omega), kk _ (by omega)]; exact j1
    · rw [e 4 (v) (by omega), kk _ (by omega)]; exact j2
    · rw [e 5 (v) (by omega), kk _ (by omega)]; exact j3
  · rw [e0 8 (by omega), kk 178 (by omega)]; exact i5
  · rw [kk 178 (by omega)] at hg
    exact ⟨by rw [e 8 (g) (by omega), kk _ (by omega)]; exact (i6 g hg).1, by rw [e 9 (g) (by omega), kk _ (by omega)]; exact (i6 g hg).2⟩
  · rw [e 10 (0) (by omega), kk 104 (by omega)]; exact i7
  · rw [e 10 (1) (by omega), kk 175 (by omega)]; exact i8
  · rw [e 10 (2) (by omega), kk 176 (by omega)]; exact i9
  · rw [e0 13 (by omega), kk 179 (by omega)]; exact i10
  · rw [I_sIe, va_e]
/-- a walker more -/
def nwK (k k' : Nat → Nat) (c p : Nat) : Prop := (∀ i, i ≠ k 177 → ¬ (4 + 25 * k 177 ≤ i ∧ i < 4 + 25 * k 177 + 25) → i ≠ 155 + k 177 → i ≠ 159 + k 177 → i ≠ 177 → k' i = k i) ∧ k' (k 177) = c ∧ (∀ i, 4 + 25 * k 177 ≤ i → i < 4 + 25 * k 177 + 25 → k' i = 0) ∧ k' (155 + k 177) = p ∧ k' (159 + k 177) = 0 ∧ k' 177 = k 177 + 1
theorem bs_zero {p : Nat → Bool} : ∀ n, (∀ i, i < n → p i = false) → ft_bs p n = 0
  | 0, _ => rfl
  | n + 1, h => by
    rw [ft_bs_s, bs_zero n (fun i hi => h i (by omega)), h n (by omega)]
    simp
theorem LI.add {h : jH} {o : Nat} {k k' : Nat → Nat} (I : LI h o k) (b : k 177 < 4) (b2 : k 178 ≤ 6) {c p : Nat} (N : nwK k k' c p) : LI (j_sI (j_sJ (j_sI (j_sI (j_sI (j_sI h (o + 3) (k 177) (nI c)) (o + 4) (k 177) (nI p)) (o + 5) (k 177) (nI 0)) (o + 6) (k 177) (nI 0)) (o + 7) (k 177) (0 : Int64)) o 2 (nI (k 177 + 1))) o k' := by
  obtain ⟨n1, n2, n3, n4, n5, n6⟩ := N
  obtain ⟨i1, i2, i3, i4, i5, i6, i7, i8, i9, i10, i11⟩ := I
  generalize hn : k 177 = n at *
  refine ⟨fun c hc => ?_, fun c hc => ?_, ?_, fun v hv => ?_, ?_, fun g hg => ?_, ?_, ?_, ?_, ?_, ?_⟩
  · simp (disch := omega) only [I_sIn, I_sJ]; rw [n1 _ (by omega) (by omega) (by omega) (by omega) (by omega)]; exact i1 c hc
  · simp (disch := omega) only [I_sIn, I_sJ]; rw [n1 _ (by omega) (by omega) (by omega) (by omega) (by omega)]; exact i2 c hc
  · rw [I_sIe, n6]
  · rw [n6] at hv
    by_cases q : v = n
    · subst q
      have z1 : ft_bs (ft_sh k' v) 25 = 0 := bs_zero 25 (fun i hi => by unfold ft_sh; rw [n3 _ (by omega) (by omega)]; rfl)
      have z2 : mrk k' v = 0 := bs_zero 50 (fun i hi => by show (k' (4 + 25 * v + i / 2) - 1).testBit _ = false; rw [n3 _ (by omega) (by omega)]; exact Nat.zero_testBit _)
      rw [n2, n4, n5, z1, z2]
      simp (disch := omega) only [I_sIn, I_sJ, I_sIe, J_sI, J_sJe, true_and]
      rfl
    · obtain ⟨j1, j2, j3, j4, j5⟩ := i4 v (by omega)
      have z1 : ft_bs (ft_sh k' v) 25 = ft_bs (ft_sh k v) 25 := ft_bs_e 25 (fun i hi => by unfold ft_sh; rw [n1 _ (by omega) (by omega) (by omega) (by omega) (by omega)])
      have z2 : mrk k' v = mrk k v := ft_bs_e 50 (fun i hi => by show (k' (4 + 25 * v + i / 2) - 1).testBit _ = (k (4 + 25 * v + i / 2) - 1).testBit _; rw [n1 _ (by omega) (by omega) (by omega) (by omega) (by omega)])
      rw [z1, z2, n1 v (by omega) (by omega) (by omega) (by omega) (by omega), n1 (155 + v) (by omega) (by omega) (by omega) (by omega) (by omega), n1 (159 + v) (by omega) (by omega) (by omega) (by omega) (by omega)]
      simp (disch := omega) only [I_sIn, I_sJ, I_sIk, J_sI, J_sJk]
      exact ⟨j1, j2, j3, j4, j5⟩
  · simp (disch := omega) only [I_sIn, I_sJ, I_sIk]; rw [n1 _ (by omega) (by omega) (by omega) (by omega) (by omega)]; exact i5
  · rw [n1 178 (by omega) (by omega) (by omega) (by omega) (by omega)] at hg
    simp (disch := omega) only [I_sIn, I_sJ, I_sIk]
    rw [n1 _ (by omega) (by omega) (by omega) (by omega) (by omega), n1 _ (by omega) (by omega) (by omega) (by omega) (by omega)]; exact i6 g hg
  · simp (disch := omega) only [I_sIn, I_sJ, I_sIk]; rw [n1 _ (by omega) (by omega) (by omega) (by omega) (by omega)]; exact i7
  · simp (disch := omega) only [I_sIn, I_sJ, I_sIk]; rw [n1 _ (by omega) (by omega) (by omega) (by omega) (by omega)]; exact i8
  · simp (disch := omega) only [I_sIn, I_sJ, I_sIk]; rw [n1 _ (by omega) (by omega) (by omega) (by omega) (by omega)]; exact i9
  · simp (disch := omega) only [I_sIn, I_sJ, I_sIk]; rw [n1 _ (by omega) (by omega) (by omega) (by omega) (by omega)]; exact i10
  · simp (disch := omega) only [I_sIn, I_sJ, I_sIk]; rw [n1 _ (by omega) (by omega) (by omega) (by omega) (by omega)]; exact i11
/-- a glimpse more -/
theorem LI.glm {h : jH} {o : Nat} {k : Nat → Nat} (I : LI h o k) (b : k 177 ≤ 4) (b2 : k 178 < 6) {x y : Nat} : LI (j_sI (j_sI (j_sI h (o + 8) (k 178) (nI x)) (o + 9) (k 178) (nI y)) o 8 (nI (k 178 + 1))) o (va_up (va_up (va_up k (163 + 2 * k 178) x) (164 + 2 * k 178) y) 178 (k 178 + 1)) := by
  obtain ⟨i1, i2, i3, i4, i5, i6, i7, i8, i9, i10, i11⟩ := I
  generalize hn : k 178 = n at *
  have kk : ∀ i, i ≠ 178 → i ≠ 163 + 2 * n → i ≠ 164 + 2 * n → va_up (va_up (va_up k (163 + 2 * n) x) (164 + 2 * n) y) 178 (n + 1) i = k i := fun i h1 h2 h3 => by rw [va_n h1, va_n h3, va_n h2]
  generalize hk : va_up (va_up (va_up k (163 + 2 * n) x) (164 + 2 * n) y) 178 (n + 1) = k' at *
  have e1 : k' (163 + 2 * n) = x := by rw [← hk, va_n (by omega), va_n (by omega), va_e]
  have e2 : k' (164 + 2 * n) = y := by rw [← hk, va_n (by omega), va_e]
  have e3 : k' 178 = n + 1 := by rw [← hk, va_e]
  refine ⟨fun c hc => ?_, fun c hc => ?_, ?_, fun v hv => ?_, ?_, fun g hg => ?_, ?_, ?_, ?_, ?_, ?_⟩
  · simp (disch := omega) only [I_sIn]; rw [kk _ (by omega) (by omega) (by omega)]; exact i1 c hc
  · simp (disch := omega) only [I_sIn]; rw [kk _ (by omega) (by omega) (by omega)]; exact i2 c hc
  · simp (disch := omega) only [I_sIn, I_sIk]; rw [kk _ (by omega) (by omega) (by omega)]; exact i3
  · rw [kk 177 (by omega) (by omega) (by omega)] at hv
    have z1 : ft_bs (ft_sh k' v) 25 = ft_bs (ft_sh k v) 25 := ft_bs_e 25 (fun i hi => by unfold ft_sh; rw [kk _ (by omega) (by omega) (by omega)])
    have z2 : mrk k' v = mrk k v := ft_bs_e 50 (fun i hi => by show (k' (4 + 25 * v + i / 2) - 1).testBit _ = (k (4 + 25 * v + i / 2) - 1).testBit _; rw [kk _ (by omega) (by omega) (by omega)])
    rw [z1, z2, kk v (by omega) (by omega) (by omega), kk (155 + v) (by omega) (by omega) (by omega), kk (159 + v) (by omega) (by omega) (by omega)]
    simp (disch := omega) only [I_sIn, J_sI]
    exact i4 v hv
  · rw [I_sIe, e3]
  · rw [e3] at hg
    by_cases q : g = n
    · subst q
      rw [e1, e2]
      simp (disch := omega) only [I_sIn, I_sIe, and_self]
    · rw [kk _ (by omega) (by omega) (by omega), kk _ (by omega) (by omega) (by omega)]
      simp (disch := omega) only [I_sIn, I_sIk]
      exact i6 g (by omega)
  · simp (disch := omega) only [I_sIn, I_sIk]; rw [kk _ (by omega) (by omega) (by omega)]; exact i7
  · simp (disch := omega) only [I_sIn, I_sIk]; rw [kk _ (by omega) (by omega) (by omega)]; exact i8
  · simp (disch := omega) only [I_sIn, I_sIk]; rw [kk _ (by omega) (by omega) (by omega)]; exact i9
  · simp (disch := omega) only [I_sIn, I_sIk]; rw [kk _ (by omega) (by omega) (by omega)]; exact i10
  · simp (disch := omega) only [I_sIn, I_sIk]; rw [kk _ (by omega) (by omega) (by omega)]; exact i11
theorem LI.gl0 {h : jH} {o : Nat} {k : Nat → Nat} (I : LI h o k) (b : k 177 ≤ 4) : LI (j_sI h o 8 (nI 0)) o (va_up k 178 0) := by
  obtain ⟨i1, i2, i3, i4, i5, i6, i7, i8, i9, i10, i11⟩ := I
  have kk : ∀ i, i ≠ 178 → va_up k 178 0 i = k i := fun i h1 => va_n h1
  have e3 : va_up k 178 0 178 = 0 := va_e
  refine ⟨fun c hc => ?_, fun c hc => ?_, ?_, fun v hv => ?_, ?_, fun g hg => ?_, ?_, ?_, ?_, ?_, ?_⟩
  · simp (disch := omega) only [I_sIn]; rw [kk _ (by omega)]; exact i1 c hc
  · simp (disch := omega) only [I_sIn]; rw [kk _ (by omega)]; exact i2 c hc
  · simp (disch := omega) only [I_sIn, I_sIk]; rw [kk _ (by omega)]; exact i3
  · rw [kk 177 (by omega)] at hv
    have z1 : ft_bs (ft_sh (va_up k 178 0) v) 25 = ft_bs (ft_sh k v) 25 := sh_o (by omega)
    have z2 : mrk (va_up k 178 0) v = mrk k v := mrk_o (by omega)
    rw [z1, z2, kk v (by omega), kk (155 + v) (by omega), kk (159 + v) (by omega)]
    simp (disch := omega) only [I_sIn, J_sI]
    exact i4 v hv
  · rw [I_sIe, e3]
  · rw [e3] at hg
    exact absurd hg (by omega)
  · simp (disch := omega) only [I_sIn, I_sIk]; rw [kk _ (by omega)]; exact i7
  · simp (disch := omega) only [I_sIn, I_sIk]; rw [kk _ (by omega)]; exact i8
  · simp (disch := omega) only [I_sIn, I_sIk]; rw [kk _ (by omega)]; exact i9
  · simp (disch := omega) only [I_sIn, I_sIk]; rw [kk _ (by omega)]; exact i10
  · simp (disch := omega) only [I_sIn, I_sIk]; rw [kk _ (by omega)]; exact i11
