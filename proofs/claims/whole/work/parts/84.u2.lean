/-! THE CONSTRUCTORS, WALKED (written by gen8.py) -/
theorem i_L_new_2 (F : Nat × Nat) {h0 : jH} (hc : j_c h0 = 4) : m_L_new F 5 (HN 2 h0) = some (none, HN 29 h0) := by
  rw [q_L_new]
  show (if ¬ (nI 25) < 0 ∧ (nI 25).toNatClampNeg ≤ 50000 then _ else _) = _
  rw [if_pos (⟨by decide, by decide⟩)]
  show (if j_k (j_new (HN 2 h0) 0 (nI 25).toNatClampNeg) 5 = 12 then _ else _) = _
  rw [show j_new (HN 2 h0) 0 (nI 25).toNatClampNeg = (HN 3 h0) from by rw [show (nI 25).toNatClampNeg = 25 from ft_cl (by omega)]; exact uE_new (h0 := h0) 2 (k := 0) (l := 25) (by decide +kernel)]
  show (if j_k (HN 3 h0) 5 = 12 then _ else _) = _
  rw [if_pos (HKn hc (n := 3) (a := 5) (k := 12) (by decide +kernel))]
  show (if ¬ (nI 25) < 0 ∧ (nI 25).toNatClampNeg ≤ 50000 then _ else _) = _
  rw [show j_sR (HN 3 h0) 5 0 (some (j_c (HN 2 h0))) = (HN 4 h0) from by rw [HCn hc (n := 2) (m := 6) (by decide +kernel)]; exact uE_sR 3 (by decide +kernel)]
  show (if ¬ (nI 25) < 0 ∧ (nI 25).toNatClampNeg ≤ 50000 then _ else _) = _
  rw [if_pos (⟨by decide, by decide⟩)]
  show (if j_k (j_new (HN 4 h0) 0 (nI 25).toNatClampNeg) 5 = 12 then _ else _) = _
  rw [show j_new (HN 4 h0) 0 (nI 25).toNatClampNeg = (HN 5 h0) from by rw [show (nI 25).toNatClampNeg = 25 from ft_cl (by omega)]; exact uE_new (h0 := h0) 4 (k := 0) (l := 25) (by decide +kernel)]
  show (if j_k (HN 5 h0) 5 = 12 then _ else _) = _
  rw [if_pos (HKn hc (n := 5) (a := 5) (k := 12) (by decide +kernel))]
  show (if j_k (j_sR (HN 5 h0) 5 1 (some (j_c (HN 4 h0)))) 5 = 12 then _ else _) = _
  rw [show j_sR (HN 5 h0) 5 1 (some (j_c (HN 4 h0))) = (HN 6 h0) from by rw [HCn hc (n := 4) (m := 7) (by decide +kernel)]; exact uE_sR 5 (by decide +kernel)]
  show (if j_k (HN 6 h0) 5 = 12 then _ else _) = _
  rw [if_pos (HKn hc (n := 6) (a := 5) (k := 12) (by decide +kernel))]
  show (if ¬ (nI 4) < 0 ∧ (nI 4).toNatClampNeg ≤ 50000 then _ else _) = _
  rw [show j_sI (HN 6 h0) 5 2 (nI 0) = (HN 7 h0) from by exact uE_sI 6 (a := 5) (i := 2) (v := 0) (by decide +kernel)]
  show (if ¬ (nI 4) < 0 ∧ (nI 4).toNatClampNeg ≤ 50000 then _ else _) = _
  rw [if_pos (⟨by decide, by decide⟩)]
  show (if j_k (j_new (HN 7 h0) 0 (nI 4).toNatClampNeg) 5 = 12 then _ else _) = _
  rw [show j_new (HN 7 h0) 0 (nI 4).toNatClampNeg = (HN 8 h0) from by rw [show (nI 4).toNatClampNeg = 4 from ft_cl (by omega)]; exact uE_new (h0 := h0) 7 (k := 0) (l := 4) (by decide +kernel)]
  show (if j_k (HN 8 h0) 5 = 12 then _ else _) = _
  rw [if_pos (HKn hc (n := 8) (a := 5) (k := 12) (by decide +kernel))]
  show (if ¬ (nI 4) < 0 ∧ (nI 4).toNatClampNeg ≤ 50000 then _ else _) = _
  rw [show j_sR (HN 8 h0) 5 3 (some (j_c (HN 7 h0))) = (HN 9 h0) from by rw [HCn hc (n := 7) (m := 8) (by decide +kernel)]; exact uE_sR 8 (by decide +kernel)]
  show (if ¬ (nI 4) < 0 ∧ (nI 4).toNatClampNeg ≤ 50000 then _ else _) = _
  rw [if_pos (⟨by decide, by decide⟩)]
  show (if j_k (j_new (HN 9 h0) 0 (nI 4).toNatClampNeg) 5 = 12 then _ else _) = _
  rw [show j_new (HN 9 h0) 0 (nI 4).toNatClampNeg = (HN 10 h0) from by rw [show (nI 4).toNatClampNeg = 4 from ft_cl (by omega)]; exact uE_new (h0 := h0) 9 (k := 0) (l := 4) (by decide +kernel)]
  show (if j_k (HN 10 h0) 5 = 12 then _ else _) = _
  rw [if_pos (HKn hc (n := 10) (a := 5) (k := 12) (by decide +kernel))]
  show (if ¬ (nI 4) < 0 ∧ (nI 4).toNatClampNeg ≤ 50000 then _ else _) = _
  rw [show j_sR (HN 10 h0) 5 4 (some (j_c (HN 9 h0))) = (HN 11 h0) from by rw [HCn hc (n := 9) (m := 9) (by decide +kernel)]; exact uE_sR 10 (by decide +kernel)]
  show (if ¬ (nI 4) < 0 ∧ (nI 4).toNatClampNeg ≤ 50000 then _ else _) = _
  rw [if_pos (⟨by decide, by decide⟩)]
  show (if j_k (j_new (HN 11 h0) 0 (nI 4).toNatClampNeg) 5 = 12 then _ else _) = _
  rw [show j_new (HN 11 h0) 0 (nI 4).toNatClampNeg = (HN 12 h0) from by rw [show (nI 4).toNatClampNeg = 4 from ft_cl (by omega)]; exact uE_new (h0 := h0) 11 (k := 0) (l := 4) (by decide +kernel)]
  show (if j_k (HN 12 h0) 5 = 12 then _ else _) = _
  rw [if_pos (HKn hc (n := 12) (a := 5) (k := 12) (by decide +kernel))]
  show (if ¬ (nI 4) < 0 ∧ (nI 4).toNatClampNeg ≤ 50000 then _ else _) = _
  rw [show j_sR (HN 12 h0) 5 5 (some (j_c (HN 11 h0))) = (HN 13 h0) from by rw [HCn hc (n := 11) (m := 10) (by decide +kernel)]; exact uE_sR 12 (by decide +kernel)]
  show (if ¬ (nI 4) < 0 ∧ (nI 4).toNatClampNeg ≤ 50000 then _ else _) = _
  rw [if_pos (⟨by decide, by decide⟩)]
  show (if j_k (j_new (HN 13 h0) 0 (nI 4).toNatClampNeg) 5 = 12 then _ else _) = _
  rw [show j_new (HN 13 h0) 0 (nI 4).toNatClampNeg = (HN 14 h0) from by rw [show (nI 4).toNatClampNeg = 4 from ft_cl (by omega)]; exact uE_new (h0 := h0) 13 (k := 0) (l := 4) (by decide +kernel)]
  show (if j_k (HN 14 h0) 5 = 12 then _ else _) = _
  rw [if_pos (HKn hc (n := 14) (a := 5) (k := 12) (by decide +kernel))]
  show (if ¬ (nI 4) < 0 ∧ (nI 4).toNatClampNeg ≤ 50000 then _ else _) = _
  rw [show j_sR (HN 14 h0) 5 6 (some (j_c (HN 13 h0))) = (HN 15 h0) from by rw [HCn hc (n := 13) (m := 11) (by decide +kernel)]; exact uE_sR 14 (by decide +kernel)]
  show (if ¬ (nI 4) < 0 ∧ (nI 4).toNatClampNeg ≤ 50000 then _ else _) = _
  rw [if_pos (⟨by decide, by decide⟩)]
  show (if j_k (j_new (HN 15 h0) 1 (nI 4).toNatClampNeg) 5 = 12 then _ else _) = _
  rw [show j_new (HN 15 h0) 1 (nI 4).toNatClampNeg = (HN 16 h0) from by rw [show (nI 4).toNatClampNeg = 4 from ft_cl (by omega)]; exact uE_new (h0 := h0) 15 (k := 1) (l := 4) (by decide +kernel)]
  show (if j_k (HN 16 h0) 5 = 12 then _ else _) = _
  rw [if_pos (HKn hc (n := 16) (a := 5) (k := 12) (by decide +kernel))]
  show (if j_k (j_sR (HN 16 h0) 5 7 (some (j_c (HN 15 h0)))) 5 = 12 then _ else _) = _
  rw [show j_sR (HN 16 h0) 5 7 (some (j_c (HN 15 h0))) = (HN 17 h0) from by rw [HCn hc (n := 15) (m := 12) (by decide +kernel)]; exact uE_sR 16 (by decide +kernel)]
  show (if j_k (HN 17 h0) 5 = 12 then _ else _) = _
  rw [if_pos (HKn hc (n := 17) (a := 5) (k := 12) (by decide +kernel))]
  show (if ¬ (nI 6) < 0 ∧ (nI 6).toNatClampNeg ≤ 50000 then _ else _) = _
  rw [show j_sI (HN 17 h0) 5 8 (nI 0) = (HN 18 h0) from by exact uE_sI 17 (a := 5) (i := 8) (v := 0) (by decide +kernel)]
  show (if ¬ (nI 6) < 0 ∧ (nI 6).toNatClampNeg ≤ 50000 then _ else _) = _
  rw [if_pos (⟨by decide, by decide⟩)]
  show (if j_k (j_new (HN 18 h0) 0 (nI 6).toNatClampNeg) 5 = 12 then _ else _) = _
  rw [show j_new (HN 18 h0) 0 (nI 6).toNatClampNeg = (HN 19 h0) from by rw [show (nI 6).toNatClampNeg = 6 from ft_cl (by omega)]; exact uE_new (h0 := h0) 18 (k := 0) (l := 6) (by decide +kernel)]
  show (if j_k (HN 19 h0) 5 = 12 then _ else _) = _
  rw [if_pos (HKn hc (n := 19) (a := 5) (k := 12) (by decide +kernel))]
  show (if ¬ (nI 6) < 0 ∧ (nI 6).toNatClampNeg ≤ 50000 then _ else _) = _
  rw [show j_sR (HN 19 h0) 5 9 (some (j_c (HN 18 h0))) = (HN 20 h0) from by rw [HCn hc (n := 18) (m := 13) (by decide +kernel)]; exact uE_sR 19 (by decide +kernel)]
  show (if ¬ (nI 6) < 0 ∧ (nI 6).toNatClampNeg ≤ 50000 then _ else _) = _
  rw [if_pos (⟨by decide, by decide⟩)]
  show (if j_k (j_new (HN 20 h0) 0 (nI 6).toNatClampNeg) 5 = 12 then _ else _) = _
  rw [show j_new (HN 20 h0) 0 (nI 6).toNatClampNeg = (HN 21 h0) from by rw [show (nI 6).toNatClampNeg = 6 from ft_cl (by omega)]; exact uE_new (h0 := h0) 20 (k := 0) (l := 6) (by decide +kernel)]
  show (if j_k (HN 21 h0) 5 = 12 then _ else _) = _
  rw [if_pos (HKn hc (n := 21) (a := 5) (k := 12) (by decide +kernel))]
  show (if ¬ (nI 3) < 0 ∧ (nI 3).toNatClampNeg ≤ 50000 then _ else _) = _
  rw [show j_sR (HN 21 h0) 5 10 (some (j_c (HN 20 h0))) = (HN 22 h0) from by rw [HCn hc (n := 20) (m := 14) (by decide +kernel)]; exact uE_sR 21 (by decide +kernel)]
  show (if ¬ (nI 3) < 0 ∧ (nI 3).toNatClampNeg ≤ 50000 then _ else _) = _
  rw [if_pos (⟨by decide, by decide⟩)]
  show (if j_k (j_new (HN 22 h0) 0 (nI 3).toNatClampNeg) 5 = 12 then _ else _) = _
  rw [show j_new (HN 22 h0) 0 (nI 3).toNatClampNeg = (HN 23 h0) from by rw [show (nI 3).toNatClampNeg = 3 from ft_cl (by omega)]; exact uE_new (h0 := h0) 22 (k := 0) (l := 3) (by decide +kernel)]
  show (if j_k (HN 23 h0) 5 = 12 then _ else _) = _
  rw [if_pos (HKn hc (n := 23) (a := 5) (k := 12) (by decide +kernel))]
  show (if ¬ (nI 6) < 0 ∧ (nI 6).toNatClampNeg ≤ 50000 then _ else _) = _
  rw [show j_sR (HN 23 h0) 5 11 (some (j_c (HN 22 h0))) = (HN 24 h0) from by rw [HCn hc (n := 22) (m := 15) (by decide +kernel)]; exact uE_sR 23 (by decide +kernel)]
  show (if ¬ (nI 6) < 0 ∧ (nI 6).toNatClampNeg ≤ 50000 then _ else _) = _
  rw [if_pos (⟨by decide, by decide⟩)]
  show (if j_k (j_new (HN 24 h0) 4 (nI 6).toNatClampNeg) 5 = 12 then _ else _) = _
  rw [show j_new (HN 24 h0) 4 (nI 6).toNatClampNeg = (HN 25 h0) from by rw [show (nI 6).toNatClampNeg = 6 from ft_cl (by omega)]; exact uE_new (h0 := h0) 24 (k := 4) (l := 6) (by decide +kernel)]
  show (if j_k (HN 25 h0) 5 = 12 then _ else _) = _
  rw [if_pos (HKn hc (n := 25) (a := 5) (k := 12) (by decide +kernel))]
  show (if j_k (j_sR (HN 25 h0) 5 12 (some (j_c (HN 24 h0)))) 5 = 12 then _ else _) = _
  rw [show j_sR (HN 25 h0) 5 12 (some (j_c (HN 24 h0))) = (HN 26 h0) from by rw [HCn hc (n := 24) (m := 16) (by decide +kernel)]; exact uE_sR 25 (by decide +kernel)]
  show (if j_k (HN 26 h0) 5 = 12 then _ else _) = _
  rw [if_pos (HKn hc (n := 26) (a := 5) (k := 12) (by decide +kernel))]
  show (if j_k (j_sI (HN 26 h0) 5 13 (nI 0)) 5 = 12 then _ else _) = _
  rw [show j_sI (HN 26 h0) 5 13 (nI 0) = (HN 27 h0) from by exact uE_sI 26 (a := 5) (i := 13) (v := 0) (by decide +kernel)]
  show (if j_k (HN 27 h0) 5 = 12 then _ else _) = _
  rw [if_pos (HKn hc (n := 27) (a := 5) (k := 12) (by decide +kernel))]
  show (if j_k (j_sI (HN 27 h0) 5 14 (mI 0)) 5 = 12 then _ else _) = _
  rw [show j_sI (HN 27 h0) 5 14 (mI 0) = (HN 28 h0) from by exact uE_sM 27 (a := 5) (i := 14) (v := 0) (by decide +kernel)]
  show (if j_k (HN 28 h0) 5 = 12 then _ else _) = _
  rw [if_pos (HKn hc (n := 28) (a := 5) (k := 12) (by decide +kernel))]
  rw [HRn hc (n := 28) (a := 5) (i := 11) (x := some 15) (by decide +kernel)]
  show (if j_k (HN 28 h0) 15 = 0 ∧ j_in (HN 28 h0) 15 (nI 1) then _ else _) = _
  rw [if_pos (⟨HKn hc (n := 28) (a := 15) (k := 0) (by decide +kernel), by rw [ft_in (by omega), HLn hc (n := 28) (a := 15) (l := 3) (by decide +kernel)]; omega⟩)]
  show some (none, (j_sI (HN 28 h0) 15 ((nI 1).toNatClampNeg) (nI 1))) = _
  rw [show j_sI (HN 28 h0) 15 ((nI 1).toNatClampNeg) (nI 1) = (HN 29 h0) from by rw [show (nI 1).toNatClampNeg = 1 from ft_cl (by omega)]; exact uE_sI 28 (a := 15) (i := 1) (v := 1) (by decide +kernel)]
  all_goals exact rfl
theorem i_L_new_2_b (F : Nat × Nat) {h0 : jH} (hc : j_c h0 = 4) (ff : jH → Option jO) : jbV (m_L_new F 5 (HN 2 h0)) ff = ff (HN 29 h0) := bV_of (i_L_new_2 (F := F) (h0 := h0) (hc := hc)) ff
theorem i_L_new_3 (F : Nat × Nat) {h0 : jH} (hc : j_c h0 = 4) : m_L_new F 17 (HN 31 h0) = some (none, HN 58 h0) := by
  rw [q_L_new]
  show (if ¬ (nI 25) < 0 ∧ (nI 25).toNatClampNeg ≤ 50000 then _ else _) = _
  rw [if_pos (⟨by decide, by decide⟩)]
  show (if j_k (j_new (HN 31 h0) 0 (nI 25).toNatClampNeg) 17 = 12 then _ else _) = _
  rw [show j_new (HN 31 h0) 0 (nI 25).toNatClampNeg = (HN 32 h0) from by rw [show (nI 25).toNatClampNeg = 25 from ft_cl (by omega)]; exact uE_new (h0 := h0) 31 (k := 0) (l := 25) (by decide +kernel)]
  show (if j_k (HN 32 h0) 17 = 12 then _ else _) = _
  rw [if_pos (HKn hc (n := 32) (a := 17) (k := 12) (by decide +kernel))]
  show (if ¬ (nI 25) < 0 ∧ (nI 25).toNatClampNeg ≤ 50000 then _ else _) = _
  rw [show j_sR (HN 32 h0) 17 0 (some (j_c (HN 31 h0))) = (HN 33 h0) from by rw [HCn hc (n := 31) (m := 18) (by decide +kernel)]; exact uE_sR 32 (by decide +kernel)]
  show (if ¬ (nI 25) < 0 ∧ (nI 25).toNatClampNeg ≤ 50000 then _ else _) = _
  rw [if_pos (⟨by decide, by decide⟩)]
  show (if j_k (j_new (HN 33 h0) 0 (nI 25).toNatClampNeg) 17 = 12 then _ else _) = _
  rw [show j_new (HN 33 h0) 0 (nI 25).toNatClampNeg = (HN 34 h0) from by rw [show (nI 25).toNatClampNeg = 25 from ft_cl (by omega)]; exact uE_new (h0 := h0) 33 (k := 0) (l := 25) (by decide +kernel)]
  show (if j_k (HN 34 h0) 17 = 12 then _ else _) = _
  rw [if_pos (HKn hc (n := 34) (a := 17) (k := 12) (by decide +kernel))]
  show (if j_k (j_sR (HN 34 h0) 17 1 (some (j_c (HN 33 h0)))) 17 = 12 then _ else _) = _
  rw [show j_sR (HN 34 h0) 17 1 (some (j_c (HN 33 h0))) = (HN 35 h0) from by rw [HCn hc (n := 33) (m := 19) (by decide +kernel)]; exact uE_sR 34 (by decide +kernel)]
  show (if j_k (HN 35 h0) 17 = 12 then _ else _) = _
  rw [if_pos (HKn hc (n := 35) (a := 17) (k := 12) (by decide +kernel))]
  show (if ¬ (nI 4) < 0 ∧ (nI 4).toNatClampNeg ≤ 50000 then _ else _) = _
  rw [show j_sI (HN 35 h0) 17 2 (nI 0) = (HN 36 h0) from by exact uE_sI 35 (a := 17) (i := 2) (v := 0) (by decide +kernel)]
  show (if ¬ (nI 4) < 0 ∧ (nI 4).toNatClampNeg ≤ 50000 then _ else _) = _
  rw [if_pos (⟨by decide, by decide⟩)]
  show (if j_k (j_new (HN 36 h0) 0 (nI 4).toNatClampNeg) 17 = 12 then _ else _) = _
  rw [show j_new (HN 36 h0) 0 (nI 4).toNatClampNeg = (HN 37 h0) from by rw [show (nI 4).toNatClampNeg = 4 from ft_cl (by omega)]; exact uE_new (h0 := h0) 36 (k := 0) (l := 4) (by decide +kernel)]
  show (if j_k (HN 37 h0) 17 = 12 then _ else _) = _
  rw [if_pos (HKn hc (n := 37) (a := 17) (k := 12) (by decide +kernel))]
  show (if ¬ (nI 4) < 0 ∧ (nI 4).toNatClampNeg ≤ 50000 then _ else _) = _
  rw [show j_sR (HN 37 h0) 17 3 (some (j_c (HN 36 h0))) = (HN 38 h0) from by rw [HCn hc (n := 36) (m := 20) (by decide +kernel)]; exact uE_sR 37 (by decide +kernel)]
  show (if ¬ (nI 4) < 0 ∧ (nI 4).toNatClampNeg ≤ 50000 then _ else _) = _
  rw [if_pos (⟨by decide, by decide⟩)]
  show (if j_k (j_new (HN 38 h0) 0 (nI 4).toNatClampNeg) 17 = 12 then _ else _) = _
  rw [show j_new (HN 38 h0) 0 (nI 4).toNatClampNeg = (HN 39 h0) from by rw [show (nI 4).toNatClampNeg = 4 from ft_cl (by omega)]; exact uE_new (h0 := h0) 38 (k := 0) (l := 4) (by decide +kernel)]
  show (if j_k (HN 39 h0) 17 = 12 then _ else _) = _
  rw [if_pos (HKn hc (n := 39) (a := 17) (k := 12) (by decide +kernel))]
  show (if ¬ (nI 4) < 0 ∧ (nI 4).toNatClampNeg ≤ 50000 then _ else _) = _
  rw [show j_sR (HN 39 h0) 17 4 (some (j_c (HN 38 h0))) = (HN 40 h0) from by rw [HCn hc (n := 38) (m := 21) (by decide +kernel)]; exact uE_sR 39 (by decide +kernel)]
  show (if ¬ (nI 4) < 0 ∧ (nI 4).toNatClampNeg ≤ 50000 then _ else _) = _
  rw [if_pos (⟨by decide, by decide⟩)]
  show (if j_k (j_new (HN 40 h0) 0 (nI 4).toNatClampNeg) 17 = 12 then _ else _) = _
  rw [show j_new (HN 40 h0) 0 (nI 4).toNatClampNeg = (HN 41 h0) from by rw [show (nI 4).toNatClampNeg = 4 from ft_cl (by omega)]; exact uE_new (h0 := h0) 40 (k := 0) (l := 4) (by decide +kernel)]
  show (if j_k (HN 41 h0) 17 = 12 then _ else _) = _
  rw [if_pos (HKn hc (n := 41) (a := 17) (k := 12) (by decide +kernel))]
  show (if ¬ (nI 4) < 0 ∧ (nI 4).toNatClampNeg ≤ 50000 then _ else _) = _
  rw [show j_sR (HN 41 h0) 17 5 (some (j_c (HN 40 h0))) = (HN 42 h0) from by rw [HCn hc (n := 40) (m := 22) (by decide +kernel)]; exact uE_sR 41 (by decide +kernel)]
  show (if ¬ (nI 4) < 0 ∧ (nI 4).toNatClampNeg ≤ 50000 then _ else _) = _
  rw [if_pos (⟨by decide, by decide⟩)]
  show (if j_k (j_new (HN 42 h0) 0 (nI 4).toNatClampNeg) 17 = 12 then _ else _) = _
  rw [show j_new (HN 42 h0) 0 (nI 4).toNatClampNeg = (HN 43 h0) from by rw [show (nI 4).toNatClampNeg = 4 from ft_cl (by omega)]; exact uE_new (h0 := h0) 42 (k := 0) (l := 4) (by decide +kernel)]
  show (if j_k (HN 43 h0) 17 = 12 then _ else _) = _
  rw [if_pos (HKn hc (n := 43) (a := 17) (k := 12) (by decide +kernel))]
  show (if ¬ (nI 4) < 0 ∧ (nI 4).toNatClampNeg ≤ 50000 then _ else _) = _
  rw [show j_sR (HN 43 h0) 17 6 (some (j_c (HN 42 h0))) = (HN 44 h0) from by rw [HCn hc (n := 42) (m := 23) (by decide +kernel)]; exact uE_sR 43 (by decide +kernel)]
  show (if ¬ (nI 4) < 0 ∧ (nI 4).toNatClampNeg ≤ 50000 then _ else _) = _
  rw [if_pos (⟨by decide, by decide⟩)]
  show (if j_k (j_new (HN 44 h0) 1 (nI 4).toNatClampNeg) 17 = 12 then _ else _) = _
  rw [show j_new (HN 44 h0) 1 (nI 4).toNatClampNeg = (HN 45 h0) from by rw [show (nI 4).toNatClampNeg = 4 from ft_cl (by omega)]; exact uE_new (h0 := h0) 44 (k := 1) (l := 4) (by decide +kernel)]
  show (if j_k (HN 45 h0) 17 = 12 then _ else _) = _
  rw [if_pos (HKn hc (n := 45) (a := 17) (k := 12) (by decide +kernel))]
  show (if j_k (j_sR (HN 45 h0) 17 7 (some (j_c (HN 44 h0)))) 17 = 12 then _ else _) = _
  rw [show j_sR (HN 45 h0) 17 7 (some (j_c (HN 44 h0))) = (HN 46 h0) from by rw [HCn hc (n := 44) (m := 24) (by decide +kernel)]; exact uE_sR 45 (by decide +kernel)]
  show (if j_k (HN 46 h0) 17 = 12 then _ else _) = _
  rw [if_pos (HKn hc (n := 46) (a := 17) (k := 12) (by decide +kernel))]
  show (if ¬ (nI 6) < 0 ∧ (nI 6).toNatClampNeg ≤ 50000 then _ else _) = _
  rw [show j_sI (HN 46 h0) 17 8 (nI 0) = (HN 47 h0) from by exact uE_sI 46 (a := 17) (i := 8) (v := 0) (by decide +kernel)]
  show (if ¬ (nI 6) < 0 ∧ (nI 6).toNatClampNeg ≤ 50000 then _ else _) = _
  rw [if_pos (⟨by decide, by decide⟩)]
  show (if j_k (j_new (HN 47 h0) 0 (nI 6).toNatClampNeg) 17 = 12 then _ else _) = _
  rw [show j_new (HN 47 h0) 0 (nI 6).toNatClampNeg = (HN 48 h0) from by rw [show (nI 6).toNatClampNeg = 6 from ft_cl (by omega)]; exact uE_new (h0 := h0) 47 (k := 0) (l := 6) (by decide +kernel)]
  show (if j_k (HN 48 h0) 17 = 12 then _ else _) = _
  rw [if_pos (HKn hc (n := 48) (a := 17) (k := 12) (by decide +kernel))]
  show (if ¬ (nI 6) < 0 ∧ (nI 6).toNatClampNeg ≤ 50000 then _ else _) = _
  rw [show j_sR (HN 48 h0) 17 9 (some (j_c (HN 47 h0))) = (HN 49 h0) from by rw [HCn hc (n := 47) (m := 25) (by decide +kernel)]; exact uE_sR 48 (by decide +kernel)]
  show (if ¬ (nI 6) < 0 ∧ (nI 6).toNatClampNeg ≤ 50000 then _ else _) = _
  rw [if_pos (⟨by decide, by decide⟩)]
  show (if j_k (j_new (HN 49 h0) 0 (nI 6).toNatClampNeg) 17 = 12 then _ else _) = _
  rw [show j_new (HN 49 h0) 0 (nI 6).toNatClampNeg = (HN 50 h0) from by rw [show (nI 6).toNatClampNeg = 6 from ft_cl (by omega)]; exact uE_new (h0 := h0) 49 (k := 0) (l := 6) (by decide +kernel)]
  show (if j_k (HN 50 h0) 17 = 12 then _ else _) = _
  rw [if_pos (HKn hc (n := 50) (a := 17) (k := 12) (by decide +kernel))]
  show (if ¬ (nI 3) < 0 ∧ (nI 3).toNatClampNeg ≤ 50000 then _ else _) = _
  rw [show j_sR (HN 50 h0) 17 10 (some (j_c (HN 49 h0))) = (HN 51 h0) from by rw [HCn hc (n := 49) (m := 26) (by decide +kernel)]; exact uE_sR 50 (by decide +kernel)]
  show (if ¬ (nI 3) < 0 ∧ (nI 3).toNatClampNeg ≤ 50000 then _ else _) = _
  rw [if_pos (⟨by decide, by decide⟩)]
  show (if j_k (j_new (HN 51 h0) 0 (nI 3).toNatClampNeg) 17 = 12 then _ else _) = _
  rw [show j_new (HN 51 h0) 0 (nI 3).toNatClampNeg = (HN 52 h0) from by rw [show (nI 3).toNatClampNeg = 3 from ft_cl (by omega)]; exact uE_new (h0 := h0) 51 (k := 0) (l := 3) (by decide +kernel)]
  show (if j_k (HN 52 h0) 17 = 12 then _ else _) = _
  rw [if_pos (HKn hc (n := 52) (a := 17) (k := 12) (by decide +kernel))]
  show (if ¬ (nI 6) < 0 ∧ (nI 6).toNatClampNeg ≤ 50000 then _ else _) = _
  rw [show j_sR (HN 52 h0) 17 11 (some (j_c (HN 51 h0))) = (HN 53 h0) from by rw [HCn hc (n := 51) (m := 27) (by decide +kernel)]; exact uE_sR 52 (by decide +kernel)]
  show (if ¬ (nI 6) < 0 ∧ (nI 6).toNatClampNeg ≤ 50000 then _ else _) = _
  rw [if_pos (⟨by decide, by decide⟩)]
  show (if j_k (j_new (HN 53 h0) 4 (nI 6).toNatClampNeg) 17 = 12 then _ else _) = _
  rw [show j_new (HN 53 h0) 4 (nI 6).toNatClampNeg = (HN 54 h0) from by rw [show (nI 6).toNatClampNeg = 6 from ft_cl (by omega)]; exact uE_new (h0 := h0) 53 (k := 4) (l := 6) (by decide +kernel)]
  show (if j_k (HN 54 h0) 17 = 12 then _ else _) = _
  rw [if_pos (HKn hc (n := 54) (a := 17) (k := 12) (by decide +kernel))]
  show (if j_k (j_sR (HN 54 h0) 17 12 (some (j_c (HN 53 h0)))) 17 = 12 then _ else _) = _
  rw [show j_sR (HN 54 h0) 17 12 (some (j_c (HN 53 h0))) = (HN 55 h0) from by rw [HCn hc (n := 53) (m := 28) (by decide +kernel)]; exact uE_sR 54 (by decide +kernel)]
  show (if j_k (HN 55 h0) 17 = 12 then _ else _) = _
  rw [if_pos (HKn hc (n := 55) (a := 17) (k := 12) (by decide +kernel))]
  show (if j_k (j_sI (HN 55 h0) 17 13 (nI 0)) 17 = 12 then _ else _) = _
  rw [show j_sI (HN 55 h0) 17 13 (nI 0) = (HN 56 h0) from by exact uE_sI 55 (a := 17) (i := 13) (v := 0) (by decide +kernel)]
  show (if j_k (HN 56 h0) 17 = 12 then _ else _) = _
  rw [if_pos (HKn hc (n := 56) (a := 17) (k := 12) (by decide +kernel))]
  show (if j_k (j_sI (HN 56 h0) 17 14 (mI 0)) 17 = 12 then _ else _) = _
  rw [show j_sI (HN 56 h0) 17 14 (mI 0) = (HN 57 h0) from by exact uE_sM 56 (a := 17) (i := 14) (v := 0) (by decide +kernel)]
  show (if j_k (HN 57 h0) 17 = 12 then _ else _) = _
  rw [if_pos (HKn hc (n := 57) (a := 17) (k := 12) (by decide +kernel))]
  rw [HRn hc (n := 57) (a := 17) (i := 11) (x := some 27) (by decide +kernel)]
  show (if j_k (HN 57 h0) 27 = 0 ∧ j_in (HN 57 h0) 27 (nI 1) then _ else _) = _
  rw [if_pos (⟨HKn hc (n := 57) (a := 27) (k := 0) (by decide +kernel), by rw [ft_in (by omega), HLn hc (n := 57) (a := 27) (l := 3) (by decide +kernel)]; omega⟩)]
  show some (none, (j_sI (HN 57 h0) 27 ((nI 1).toNatClampNeg) (nI 1))) = _
  rw [show j_sI (HN 57 h0) 27 ((nI 1).toNatClampNeg) (nI 1) = (HN 58 h0) from by rw [show (nI 1).toNatClampNeg = 1 from ft_cl (by omega)]; exact uE_sI 57 (a := 27) (i := 1) (v := 1) (by decide +kernel)]
  all_goals exact rfl
theorem i_L_new_3_b (F : Nat × Nat) {h0 : jH} (hc : j_c h0 = 4) (ff : jH → Option jO) : jbV (m_L_new F 17 (HN 31 h0)) ff = ff (HN 58 h0) := bV_of (i_L_new_3 (F := F) (h0 := h0) (hc := hc)) ff
theorem i_L_new_4 (F : Nat × Nat) {h0 : jH} (hc : j_c h0 = 4) : m_L_new F 29 (HN 60 h0) = some (none, HN 87 h0) := by
  rw [q_L_new]
  show (if ¬ (nI 25) < 0 ∧ (nI 25).toNatClampNeg ≤ 50000 then _ else _) = _
  rw [if_pos (⟨by decide, by decide⟩)]
  show (if j_k (j_new (HN 60 h0) 0 (nI 25).toNatClampNeg) 29 = 12 then _ else _) = _
  rw [show j_new (HN 60 h0) 0 (nI 25).toNatClampNeg = (HN 61 h0) from by rw [show (nI 25).toNatClampNeg = 25 from ft_cl (by omega)]; exact uE_new (h0 := h0) 60 (k := 0) (l := 25) (by decide +kernel)]
  show (if j_k (HN 61 h0) 29 = 12 then _ else _) = _
  rw [if_pos (HKn hc (n := 61) (a := 29) (k := 12) (by decide +kernel))]
  show (if ¬ (nI 25) < 0 ∧ (nI 25).toNatClampNeg ≤ 50000 then _ else _) = _
  rw [show j_sR (HN 61 h0) 29 0 (some (j_c (HN 60 h0))) = (HN 62 h0) from by rw [HCn hc (n := 60) (m := 30) (by decide +kernel)]; exact uE_sR 61 (by decide +kernel)]
  show (if ¬ (nI 25) < 0 ∧ (nI 25).toNatClampNeg ≤ 50000 then _ else _) = _
  rw [if_pos (⟨by decide, by decide⟩)]
  show (if j_k (j_new (HN 62 h0) 0 (nI 25).toNatClampNeg) 29 = 12 then _ else _) = _
  rw [show j_new (HN 62 h0) 0 (nI 25).toNatClampNeg = (HN 63 h0) from by rw [show (nI 25).toNatClampNeg = 25 from ft_cl (by omega)]; exact uE_new (h0 := h0) 62 (k := 0) (l := 25) (by decide +kernel)]
  show (if j_k (HN 63 h0) 29 = 12 then _ else _) = _
  rw [if_pos (HKn hc (n := 63) (a := 29) (k := 12) (by decide +kernel))]
  show (if j_k (j_sR (HN 63 h0) 29 1 (some (j_c (HN 62 h0)))) 29 = 12 then _ else _) = _
  rw [show j_sR (HN 63 h0) 29 1 (some (j_c (HN 62 h0))) = (HN 64 h0) from by rw [HCn hc (n := 62) (m := 31) (by decide +kernel)]; exact uE_sR 63 (by decide +kernel)]
  show (if j_k (HN 64 h0) 29 = 12 then _ else _) = _
  rw [if_pos (HKn hc (n := 64) (a := 29) (k := 12) (by decide +kernel))]
  show (if ¬ (nI 4) < 0 ∧ (nI 4).toNatClampNeg ≤ 50000 then _ else _) = _
  rw [show j_sI (HN 64 h0) 29 2 (nI 0) = (HN 65 h0) from by exact uE_sI 64 (a := 29) (i := 2) (v := 0) (by decide +kernel)]
  show (if ¬ (nI 4) < 0 ∧ (nI 4).toNatClampNeg ≤ 50000 then _ else _) = _
  rw [if_pos (⟨by decide, by decide⟩)]
  show (if j_k (j_new (HN 65 h0) 0 (nI 4).toNatClampNeg) 29 = 12 then _ else _) = _
  rw [show j_new (HN 65 h0) 0 (nI 4).toNatClampNeg = (HN 66 h0) from by rw [show (nI 4).toNatClampNeg = 4 from ft_cl (by omega)]; exact uE_new (h0 := h0) 65 (k := 0) (l := 4) (by decide +kernel)]
  show (if j_k (HN 66 h0) 29 = 12 then _ else _) = _
  rw [if_pos (HKn hc (n := 66) (a := 29) (k := 12) (by decide +kernel))]
  show (if ¬ (nI 4) < 0 ∧ (nI 4).toNatClampNeg ≤ 50000 then _ else _) = _
  rw [show j_sR (HN 66 h0) 29 3 (some (j_c (HN 65 h0))) = (HN 67 h0) from by rw [HCn hc (n := 65) (m := 32) (by decide +kernel)]; exact uE_sR 66 (by decide +kernel)]
  show (if ¬ (nI 4) < 0 ∧ (nI 4).toNatClampNeg ≤ 50000 then _ else _) = _
  rw [if_pos (⟨by decide, by decide⟩)]
  show (if j_k (j_new (HN 67 h0) 0 (nI 4).toNatClampNeg) 29 = 12 then _ else _) = _
  rw [show j_new (HN 67 h0) 0 (nI 4).toNatClampNeg = (HN 68 h0) from by rw [show (nI 4).toNatClampNeg = 4 from ft_cl (by omega)]; exact uE_new (h0 := h0) 67 (k := 0) (l := 4) (by decide +kernel)]
  show (if j_k (HN 68 h0) 29 = 12 then _ else _) = _
  rw [if_pos (HKn hc (n := 68) (a := 29) (k := 12) (by decide +kernel))]
  show (if ¬ (nI 4) < 0 ∧ (nI 4).toNatClampNeg ≤ 50000 then _ else _) = _
  rw [show j_sR (HN 68 h0) 29 4 (some (j_c (HN 67 h0))) = (HN 69 h0) from by rw [HCn hc (n := 67) (m := 33) (by decide +kernel)]; exact uE_sR 68 (by decide +kernel)]
  show (if ¬ (nI 4) < 0 ∧ (nI 4).toNatClampNeg ≤ 50000 then _ else _) = _
  rw [if_pos (⟨by decide, by decide⟩)]
  show (if j_k (j_new (HN 69 h0) 0 (nI 4).toNatClampNeg) 29 = 12 then _ else _) = _
  rw [show j_new (HN 69 h0) 0 (nI 4).toNatClampNeg = (HN 70 h0) from by rw [show (nI 4).toNatClampNeg = 4 from ft_cl (by omega)]; exact uE_new (h0 := h0) 69 (k := 0) (l := 4) (by decide +kernel)]
  show (if j_k (HN 70 h0) 29 = 12 then _ else _) = _
  rw [if_pos (HKn hc (n := 70) (a := 29) (k := 12) (by decide +kernel))]
  show (if ¬ (nI 4) < 0 ∧ (nI 4).toNatClampNeg ≤ 50000 then _ else _) = _
  rw [show j_sR (HN 70 h0) 29 5 (some (j_c (HN 69 h0))) = (HN 71 h0) from by rw [HCn hc (n := 69) (m := 34) (by decide +kernel)]; exact uE_sR 70 (by decide +kernel)]
  show (if ¬ (nI 4) < 0 ∧ (nI 4).toNatClampNeg ≤ 50000 then _ else _) = _
  rw [if_pos (⟨by decide, by decide⟩)]
  show (if j_k (j_new (HN 71 h0) 0 (nI 4).toNatClampNeg) 29 = 12 then _ else _) = _
  rw [show j_new (HN 71 h0) 0 (nI 4).toNatClampNeg = (HN 72 h0) from by rw [show (nI 4).toNatClampNeg = 4 from ft_cl (by omega)]; exact uE_new (h0 := h0) 71 (k := 0) (l := 4) (by decide +kernel)]
  show (if j_k (HN 72 h0) 29 = 12 then _ else _) = _
  rw [if_pos (HKn hc (n := 72) (a := 29) (k := 12) (by decide +kernel))]
  show (if ¬ (nI 4) < 0 ∧ (nI 4).toNatClampNeg ≤ 50000 then _ else _) = _
  rw [show j_sR (HN 72 h0) 29 6 (some (j_c (HN 71 h0))) = (HN 73 h0) from by rw [HCn hc (n := 71) (m := 35) (by decide +kernel)]; exact uE_sR 72 (by decide +kernel)]
  show (if ¬ (nI 4) < 0 ∧ (nI 4).toNatClampNeg ≤ 50000 then _ else _) = _
  rw [if_pos (⟨by decide, by decide⟩)]
  show (if j_k (j_new (HN 73 h0) 1 (nI 4).toNatClampNeg) 29 = 12 then _ else _) = _
  rw [show j_new (HN 73 h0) 1 (nI 4).toNatClampNeg = (HN 74 h0) from by rw [show (nI 4).toNatClampNeg = 4 from ft_cl (by omega)]; exact uE_new (h0 := h0) 73 (k := 1) (l := 4) (by decide +kernel)]
  show (if j_k (HN 74 h0) 29 = 12 then _ else _) = _
  rw [if_pos (HKn hc (n := 74) (a := 29) (k := 12) (by decide +kernel))]
  show (if j_k (j_sR (HN 74 h0) 29 7 (some (j_c (HN 73 h0)))) 29 = 12 then _ else _) = _
  rw [show j_sR (HN 74 h0) 29 7 (some (j_c (HN 73 h0))) = (HN 75 h0) from by rw [HCn hc (n := 73) (m := 36) (by decide +kernel)]; exact uE_sR 74 (by decide +kernel)]
  show (if j_k (HN 75 h0) 29 = 12 then _ else _) = _
  rw [if_pos (HKn hc (n := 75) (a := 29) (k := 12) (by decide +kernel))]
  show (if ¬ (nI 6) < 0 ∧ (nI 6).toNatClampNeg ≤ 50000 then _ else _) = _
  rw [show j_sI (HN 75 h0) 29 8 (nI 0) = (HN 76 h0) from by exact uE_sI 75 (a := 29) (i := 8) (v := 0) (by decide +kernel)]
  show (if ¬ (nI 6) < 0 ∧ (nI 6).toNatClampNeg ≤ 50000 then _ else _) = _
  rw [if_pos (⟨by decide, by decide⟩)]
  show (if j_k (j_new (HN 76 h0) 0 (nI 6).toNatClampNeg) 29 = 12 then _ else _) = _
  rw [show j_new (HN 76 h0) 0 (nI 6).toNatClampNeg = (HN 77 h0) from by rw [show (nI 6).toNatClampNeg = 6 from ft_cl (by omega)]; exact uE_new (h0 := h0) 76 (k := 0) (l := 6) (by decide +kernel)]
  show (if j_k (HN 77 h0) 29 = 12 then _ else _) = _
  rw [if_pos (HKn hc (n := 77) (a := 29) (k := 12) (by decide +kernel))]
  show (if ¬ (nI 6) < 0 ∧ (nI 6).toNatClampNeg ≤ 50000 then _ else _) = _
  rw [show j_sR (HN 77 h0) 29 9 (some (j_c (HN 76 h0))) = (HN 78 h0) from by rw [HCn hc (n := 76) (m := 37) (by decide +kernel)]; exact uE_sR 77 (by decide +kernel)]
  show (if ¬ (nI 6) < 0 ∧ (nI 6).toNatClampNeg ≤ 50000 then _ else _) = _
  rw [if_pos (⟨by decide, by decide⟩)]
  show (if j_k (j_new (HN 78 h0) 0 (nI 6).toNatClampNeg) 29 = 12 then _ else _) = _
  rw [show j_new (HN 78 h0) 0 (nI 6).toNatClampNeg = (HN 79 h0) from by rw [show (nI 6).toNatClampNeg = 6 from ft_cl (by omega)]; exact uE_new (h0 := h0) 78 (k := 0) (l := 6) (by decide +kernel)]
  show (if j_k (HN 79 h0) 29 = 12 then _ else _) = _
  rw [if_pos (HKn hc (n := 79) (a := 29) (k := 12) (by decide +kernel))]
  show (if ¬ (nI 3) < 0 ∧ (nI 3).toNatClampNeg ≤ 50000 then _ else _) = _
  rw [show j_sR (HN 79 h0) 29 10 (some (j_c (HN 78 h0))) = (HN 80 h0) from by rw [HCn hc (n := 78) (m := 38) (by decide +kernel)]; exact uE_sR 79 (by decide +kernel)]
  show (if ¬ (nI 3) < 0 ∧ (nI 3).toNatClampNeg ≤ 50000 then _ else _) = _
  rw [if_pos (⟨by decide, by decide⟩)]
  show (if j_k (j_new (HN 80 h0) 0 (nI 3).toNatClampNeg) 29 = 12 then _ else _) = _
  rw [show j_new (HN 80 h0) 0 (nI 3).toNatClampNeg = (HN 81 h0) from by rw [show (nI 3).toNatClampNeg = 3 from ft_cl (by omega)]; exact uE_new (h0 := h0) 80 (k := 0) (l := 3) (by decide +kernel)]
  show (if j_k (HN 81 h0) 29 = 12 then _ else _) = _
  rw [if_pos (HKn hc (n := 81) (a := 29) (k := 12) (by decide +kernel))]
  show (if ¬ (nI 6) < 0 ∧ (nI 6).toNatClampNeg ≤ 50000 then _ else _) = _
  rw [show j_sR (HN 81 h0) 29 11 (some (j_c (HN 80 h0))) = (HN 82 h0) from by rw [HCn hc (n := 80) (m := 39) (by decide +kernel)]; exact uE_sR 81 (by decide +kernel)]
  show (if ¬ (nI 6) < 0 ∧ (nI 6).toNatClampNeg ≤ 50000 then _ else _) = _
  rw [if_pos (⟨by decide, by decide⟩)]
  show (if j_k (j_new (HN 82 h0) 4 (nI 6).toNatClampNeg) 29 = 12 then _ else _) = _
  rw [show j_new (HN 82 h0) 4 (nI 6).toNatClampNeg = (HN 83 h0) from by rw [show (nI 6).toNatClampNeg = 6 from ft_cl (by omega)]; exact uE_new (h0 := h0) 82 (k := 4) (l := 6) (by decide +kernel)]
  show (if j_k (HN 83 h0) 29 = 12 then _ else _) = _
  rw [if_pos (HKn hc (n := 83) (a := 29) (k := 12) (by decide +kernel))]
  show (if j_k (j_sR (HN 83 h0) 29 12 (some (j_c (HN 82 h0)))) 29 = 12 then _ else _) = _
  rw [show j_sR (HN 83 h0) 29 12 (some (j_c (HN 82 h0))) = (HN 84 h0) from by rw [HCn hc (n := 82) (m := 40) (by decide +kernel)]; exact uE_sR 83 (by decide +kernel)]
  show (if j_k (HN 84 h0) 29 = 12 then _ else _) = _
  rw [if_pos (HKn hc (n := 84) (a := 29) (k := 12) (by decide +kernel))]
  show (if j_k (j_sI (HN 84 h0) 29 13 (nI 0)) 29 = 12 then _ else _) = _
  rw [show j_sI (HN 84 h0) 29 13 (nI 0) = (HN 85 h0) from by exact uE_sI 84 (a := 29) (i := 13) (v := 0) (by decide +kernel)]
  show (if j_k (HN 85 h0) 29 = 12 then _ else _) = _
  rw [if_pos (HKn hc (n := 85) (a := 29) (k := 12) (by decide +kernel))]
  show (if j_k (j_sI (HN 85 h0) 29 14 (mI 0)) 29 = 12 then _ else _) = _
  rw [show j_sI (HN 85 h0) 29 14 (mI 0) = (HN 86 h0) from by exact uE_sM 85 (a := 29) (i := 14) (v := 0) (by decide +kernel)]
  show (if j_k (HN 86 h0) 29 = 12 then _ else _) = _
  rw [if_pos (HKn hc (n := 86) (a := 29) (k := 12) (by decide +kernel))]
  rw [HRn hc (n := 86) (a := 29) (i := 11) (x := some 39) (by decide +kernel)]
  show (if j_k (HN 86 h0) 39 = 0 ∧ j_in (HN 86 h0) 39 (nI 1) then _ else _) = _
  rw [if_pos (⟨HKn hc (n := 86) (a := 39) (k := 0) (by decide +kernel), by rw [ft_in (by omega), HLn hc (n := 86) (a := 39) (l := 3) (by decide +kernel)]; omega⟩)]
  show some (none, (j_sI (HN 86 h0) 39 ((nI 1).toNatClampNeg) (nI 1))) = _
  rw [show j_sI (HN 86 h0) 39 ((nI 1).toNatClampNeg) (nI 1) = (HN 87 h0) from by rw [show (nI 1).toNatClampNeg = 1 from ft_cl (by omega)]; exact uE_sI 86 (a := 39) (i := 1) (v := 1) (by decide +kernel)]
  all_goals exact rfl
theorem i_L_new_4_b (F : Nat × Nat) {h0 : jH} (hc : j_c h0 = 4) (ff : jH → Option jO) : jbV (m_L_new F 29 (HN 60 h0)) ff = ff (HN 87 h0) := bV_of (i_L_new_4 (F := F) (h0 := h0) (hc := hc)) ff
theorem i_D_new_5 (F : Nat × Nat) {h0 : jH} (hc : j_c h0 = 4) : m_D_new F 42 (HN 91 h0) = some (none, HN 109 h0) := by
  rw [q_D_new]
  show (if ¬ (nI 16) < 0 ∧ (nI 16).toNatClampNeg ≤ 50000 then _ else _) = _
  rw [if_pos (⟨by decide, by decide⟩)]
  show (if j_k (j_new (HN 91 h0) 0 (nI 16).toNatClampNeg) 42 = 11 then _ else _) = _
  rw [show j_new (HN 91 h0) 0 (nI 16).toNatClampNeg = (HN 92 h0) from by rw [show (nI 16).toNatClampNeg = 16 from ft_cl (by omega)]; exact uE_new (h0 := h0) 91 (k := 0) (l := 16) (by decide +kernel)]
  show (if j_k (HN 92 h0) 42 = 11 then _ else _) = _
  rw [if_pos (HKn hc (n := 92) (a := 42) (k := 11) (by decide +kernel))]
  show (if ¬ (nI 16) < 0 ∧ (nI 16).toNatClampNeg ≤ 50000 then _ else _) = _
  rw [show j_sR (HN 92 h0) 42 0 (some (j_c (HN 91 h0))) = (HN 93 h0) from by rw [HCn hc (n := 91) (m := 43) (by decide +kernel)]; exact uE_sR 92 (by decide +kernel)]
  show (if ¬ (nI 16) < 0 ∧ (nI 16).toNatClampNeg ≤ 50000 then _ else _) = _
  rw [if_pos (⟨by decide, by decide⟩)]
  show (if j_k (j_new (HN 93 h0) 0 (nI 16).toNatClampNeg) 42 = 11 then _ else _) = _
  rw [show j_new (HN 93 h0) 0 (nI 16).toNatClampNeg = (HN 94 h0) from by rw [show (nI 16).toNatClampNeg = 16 from ft_cl (by omega)]; exact uE_new (h0 := h0) 93 (k := 0) (l := 16) (by decide +kernel)]
  show (if j_k (HN 94 h0) 42 = 11 then _ else _) = _
  rw [if_pos (HKn hc (n := 94) (a := 42) (k := 11) (by decide +kernel))]
  show (if ¬ (nI 16) < 0 ∧ (nI 16).toNatClampNeg ≤ 50000 then _ else _) = _
  rw [show j_sR (HN 94 h0) 42 1 (some (j_c (HN 93 h0))) = (HN 95 h0) from by rw [HCn hc (n := 93) (m := 44) (by decide +kernel)]; exact uE_sR 94 (by decide +kernel)]
  show (if ¬ (nI 16) < 0 ∧ (nI 16).toNatClampNeg ≤ 50000 then _ else _) = _
  rw [if_pos (⟨by decide, by decide⟩)]
  show (if j_k (j_new (HN 95 h0) 0 (nI 16).toNatClampNeg) 42 = 11 then _ else _) = _
  rw [show j_new (HN 95 h0) 0 (nI 16).toNatClampNeg = (HN 96 h0) from by rw [show (nI 16).toNatClampNeg = 16 from ft_cl (by omega)]; exact uE_new (h0 := h0) 95 (k := 0) (l := 16) (by decide +kernel)]
  show (if j_k (HN 96 h0) 42 = 11 then _ else _) = _
  rw [if_pos (HKn hc (n := 96) (a := 42) (k := 11) (by decide +kernel))]
  show (if ¬ (nI 16) < 0 ∧ (nI 16).toNatClampNeg ≤ 50000 then _ else _) = _
  rw [show j_sR (HN 96 h0) 42 2 (some (j_c (HN 95 h0))) = (HN 97 h0) from by rw [HCn hc (n := 95) (m := 45) (by decide +kernel)]; exact uE_sR 96 (by decide +kernel)]
  show (if ¬ (nI 16) < 0 ∧ (nI 16).toNatClampNeg ≤ 50000 then _ else _) = _
  rw [if_pos (⟨by decide, by decide⟩)]
  show (if j_k (j_new (HN 97 h0) 0 (nI 16).toNatClampNeg) 42 = 11 then _ else _) = _
  rw [show j_new (HN 97 h0) 0 (nI 16).toNatClampNeg = (HN 98 h0) from by rw [show (nI 16).toNatClampNeg = 16 from ft_cl (by omega)]; exact uE_new (h0 := h0) 97 (k := 0) (l := 16) (by decide +kernel)]
  show (if j_k (HN 98 h0) 42 = 11 then _ else _) = _
  rw [if_pos (HKn hc (n := 98) (a := 42) (k := 11) (by decide +kernel))]
  show (if ¬ (nI 16) < 0 ∧ (nI 16).toNatClampNeg ≤ 50000 then _ else _) = _
  rw [show j_sR (HN 98 h0) 42 3 (some (j_c (HN 97 h0))) = (HN 99 h0) from by rw [HCn hc (n := 97) (m := 46) (by decide +kernel)]; exact uE_sR 98 (by decide +kernel)]
  show (if ¬ (nI 16) < 0 ∧ (nI 16).toNatClampNeg ≤ 50000 then _ else _) = _
  rw [if_pos (⟨by decide, by decide⟩)]
  show (if j_k (j_new (HN 99 h0) 1 (nI 16).toNatClampNeg) 42 = 11 then _ else _) = _
  rw [show j_new (HN 99 h0) 1 (nI 16).toNatClampNeg = (HN 100 h0) from by rw [show (nI 16).toNatClampNeg = 16 from ft_cl (by omega)]; exact uE_new (h0 := h0) 99 (k := 1) (l := 16) (by decide +kernel)]
  show (if j_k (HN 100 h0) 42 = 11 then _ else _) = _
  rw [if_pos (HKn hc (n := 100) (a := 42) (k := 11) (by decide +kernel))]
  show (if ¬ (nI 16) < 0 ∧ (nI 16).toNatClampNeg ≤ 50000 then _ else _) = _
  rw [show j_sR (HN 100 h0) 42 4 (some (j_c (HN 99 h0))) = (HN 101 h0) from by rw [HCn hc (n := 99) (m := 47) (by decide +kernel)]; exact uE_sR 100 (by decide +kernel)]
  show (if ¬ (nI 16) < 0 ∧ (nI 16).toNatClampNeg ≤ 50000 then _ else _) = _
  rw [if_pos (⟨by decide, by decide⟩)]
  show (if j_k (j_new (HN 101 h0) 0 (nI 16).toNatClampNeg) 42 = 11 then _ else _) = _
  rw [show j_new (HN 101 h0) 0 (nI 16).toNatClampNeg = (HN 102 h0) from by rw [show (nI 16).toNatClampNeg = 16 from ft_cl (by omega)]; exact uE_new (h0 := h0) 101 (k := 0) (l := 16) (by decide +kernel)]
  show (if j_k (HN 102 h0) 42 = 11 then _ else _) = _
  rw [if_pos (HKn hc (n := 102) (a := 42) (k := 11) (by decide +kernel))]
  show (if ¬ (nI 16) < 0 ∧ (nI 16).toNatClampNeg ≤ 50000 then _ else _) = _
  rw [show j_sR (HN 102 h0) 42 5 (some (j_c (HN 101 h0))) = (HN 103 h0) from by rw [HCn hc (n := 101) (m := 48) (by decide +kernel)]; exact uE_sR 102 (by decide +kernel)]
  show (if ¬ (nI 16) < 0 ∧ (nI 16).toNatClampNeg ≤ 50000 then _ else _) = _
  rw [if_pos (⟨by decide, by decide⟩)]
  show (if j_k (j_new (HN 103 h0) 0 (nI 16).toNatClampNeg) 42 = 11 then _ else _) = _
  rw [show j_new (HN 103 h0) 0 (nI 16).toNatClampNeg = (HN 104 h0) from by rw [show (nI 16).toNatClampNeg = 16 from ft_cl (by omega)]; exact uE_new (h0 := h0) 103 (k := 0) (l := 16) (by decide +kernel)]
  show (if j_k (HN 104 h0) 42 = 11 then _ else _) = _
  rw [if_pos (HKn hc (n := 104) (a := 42) (k := 11) (by decide +kernel))]
  show (if ¬ (nI 16) < 0 ∧ (nI 16).toNatClampNeg ≤ 50000 then _ else _) = _
  rw [show j_sR (HN 104 h0) 42 6 (some (j_c (HN 103 h0))) = (HN 105 h0) from by rw [HCn hc (n := 103) (m := 49) (by decide +kernel)]; exact uE_sR 104 (by decide +kernel)]
  show (if ¬ (nI 16) < 0 ∧ (nI 16).toNatClampNeg ≤ 50000 then _ else _) = _
  rw [if_pos (⟨by decide, by decide⟩)]
  show (if j_k (j_new (HN 105 h0) 1 (nI 16).toNatClampNeg) 42 = 11 then _ else _) = _
  rw [show j_new (HN 105 h0) 1 (nI 16).toNatClampNeg = (HN 106 h0) from by rw [show (nI 16).toNatClampNeg = 16 from ft_cl (by omega)]; exact uE_new (h0 := h0) 105 (k := 1) (l := 16) (by decide +kernel)]
  show (if j_k (HN 106 h0) 42 = 11 then _ else _) = _
  rw [if_pos (HKn hc (n := 106) (a := 42) (k := 11) (by decide +kernel))]
  show (if j_k (j_sR (HN 106 h0) 42 7 (some (j_c (HN 105 h0)))) 42 = 11 then _ else _) = _
  rw [show j_sR (HN 106 h0) 42 7 (some (j_c (HN 105 h0))) = (HN 107 h0) from by rw [HCn hc (n := 105) (m := 50) (by decide +kernel)]; exact uE_sR 106 (by decide +kernel)]
  show (if j_k (HN 107 h0) 42 = 11 then _ else _) = _
  rw [if_pos (HKn hc (n := 107) (a := 42) (k := 11) (by decide +kernel))]
  show (if j_k (j_sI (HN 107 h0) 42 8 (nI 0)) 42 = 11 then _ else _) = _
  rw [show j_sI (HN 107 h0) 42 8 (nI 0) = (HN 108 h0) from by exact uE_sI 107 (a := 42) (i := 8) (v := 0) (by decide +kernel)]
  show (if j_k (HN 108 h0) 42 = 11 then _ else _) = _
  rw [if_pos (HKn hc (n := 108) (a := 42) (k := 11) (by decide +kernel))]
  show some (none, (j_sI (HN 108 h0) 42 9 (nI 0))) = _
  rw [show j_sI (HN 108 h0) 42 9 (nI 0) = (HN 109 h0) from by exact uE_sI 108 (a := 42) (i := 9) (v := 0) (by decide +kernel)]
  all_goals exact rfl
theorem i_D_new_5_b (F : Nat × Nat) {h0 : jH} (hc : j_c h0 = 4) (ff : jH → Option jO) : jbV (m_D_new F 42 (HN 91 h0)) ff = ff (HN 109 h0) := bV_of (i_D_new_5 (F := F) (h0 := h0) (hc := hc)) ff
theorem i_D_new_6 (F : Nat × Nat) {h0 : jH} (hc : j_c h0 = 4) : m_D_new F 51 (HN 111 h0) = some (none, HN 129 h0) := by
  rw [q_D_new]
  show (if ¬ (nI 16) < 0 ∧ (nI 16).toNatClampNeg ≤ 50000 then _ else _) = _
  rw [if_pos (⟨by decide, by decide⟩)]
  show (if j_k (j_new (HN 111 h0) 0 (nI 16).toNatClampNeg) 51 = 11 then _ else _) = _
  rw [show j_new (HN 111 h0) 0 (nI 16).toNatClampNeg = (HN 112 h0) from by rw [show (nI 16).toNatClampNeg = 16 from ft_cl (by omega)]; exact uE_new (h0 := h0) 111 (k := 0) (l := 16) (by decide +kernel)]
  show (if j_k (HN 112 h0) 51 = 11 then _ else _) = _
  rw [if_pos (HKn hc (n := 112) (a := 51) (k := 11) (by decide +kernel))]
  show (if ¬ (nI 16) < 0 ∧ (nI 16).toNatClampNeg ≤ 50000 then _ else _) = _
  rw [show j_sR (HN 112 h0) 51 0 (some (j_c (HN 111 h0))) = (HN 113 h0) from by rw [HCn hc (n := 111) (m := 52) (by decide +kernel)]; exact uE_sR 112 (by decide +kernel)]
  show (if ¬ (nI 16) < 0 ∧ (nI 16).toNatClampNeg ≤ 50000 then _ else _) = _
  rw [if_pos (⟨by decide, by decide⟩)]
  show (if j_k (j_new (HN 113 h0) 0 (nI 16).toNatClampNeg) 51 = 11 then _ else _) = _
  rw [show j_new (HN 113 h0) 0 (nI 16).toNatClampNeg = (HN 114 h0) from by rw [show (nI 16).toNatClampNeg = 16 from ft_cl (by omega)]; exact uE_new (h0 := h0) 113 (k := 0) (l := 16) (by decide +kernel)]
  show (if j_k (HN 114 h0) 51 = 11 then _ else _) = _
  rw [if_pos (HKn hc (n := 114) (a := 51) (k := 11) (by decide +kernel))]
  show (if ¬ (nI 16) < 0 ∧ (nI 16).toNatClampNeg ≤ 50000 then _ else _) = _
  rw [show j_sR (HN 114 h0) 51 1 (some (j_c (HN 113 h0))) = (HN 115 h0) from by rw [HCn hc (n := 113) (m := 53) (by decide +kernel)]; exact uE_sR 114 (by decide +kernel)]
  show (if ¬ (nI 16) < 0 ∧ (nI 16).toNatClampNeg ≤ 50000 then _ else _) = _
  rw [if_pos (⟨by decide, by decide⟩)]
  show (if j_k (j_new (HN 115 h0) 0 (nI 16).toNatClampNeg) 51 = 11 then _ else _) = _
  rw [show j_new (HN 115 h0) 0 (nI 16).toNatClampNeg = (HN 116 h0) from by rw [show (nI 16).toNatClampNeg = 16 from ft_cl (by omega)]; exact uE_new (h0 := h0) 115 (k := 0) (l := 16) (by decide +kernel)]
  show (if j_k (HN 116 h0) 51 = 11 then _ else _) = _
  rw [if_pos (HKn hc (n := 116) (a := 51) (k := 11) (by decide +kernel))]
  show (if ¬ (nI 16) < 0 ∧ (nI 16).toNatClampNeg ≤ 50000 then _ else _) = _
  rw [show j_sR (HN 116 h0) 51 2 (some (j_c (HN 115 h0))) = (HN 117 h0) from by rw [HCn hc (n := 115) (m := 54) (by decide +kernel)]; exact uE_sR 116 (by decide +kernel)]
  show (if ¬ (nI 16) < 0 ∧ (nI 16).toNatClampNeg ≤ 50000 then _ else _) = _
  rw [if_pos (⟨by decide, by decide⟩)]
  show (if j_k (j_new (HN 117 h0) 0 (nI 16).toNatClampNeg) 51 = 11 then _ else _) = _
  rw [show j_new (HN 117 h0) 0 (nI 16).toNatClampNeg = (HN 118 h0) from by rw [show (nI 16).toNatClampNeg = 16 from ft_cl (by omega)]; exact uE_new (h0 := h0) 117 (k := 0) (l := 16) (by decide +kernel)]
  show (if j_k (HN 118 h0) 51 = 11 then _ else _) = _
  rw [if_pos (HKn hc (n := 118) (a := 51) (k := 11) (by decide +kernel))]
  show (if ¬ (nI 16) < 0 ∧ (nI 16).toNatClampNeg ≤ 50000 then _ else _) = _
  rw [show j_sR (HN 118 h0) 51 3 (some (j_c (HN 117 h0))) = (HN 119 h0) from by rw [HCn hc (n := 117) (m := 55) (by decide +kernel)]; exact uE_sR 118 (by decide +kernel)]
  show (if ¬ (nI 16) < 0 ∧ (nI 16).toNatClampNeg ≤ 50000 then _ else _) = _
  rw [if_pos (⟨by decide, by decide⟩)]
  show (if j_k (j_new (HN 119 h0) 1 (nI 16).toNatClampNeg) 51 = 11 then _ else _) = _
  rw [show j_new (HN 119 h0) 1 (nI 16).toNatClampNeg = (HN 120 h0) from by rw [show (nI 16).toNatClampNeg = 16 from ft_cl (by omega)]; exact uE_new (h0 := h0) 119 (k := 1) (l := 16) (by decide +kernel)]
  show (if j_k (HN 120 h0) 51 = 11 then _ else _) = _
  rw [if_pos (HKn hc (n := 120) (a := 51) (k := 11) (by decide +kernel))]
  show (if ¬ (nI 16) < 0 ∧ (nI 16).toNatClampNeg ≤ 50000 then _ else _) = _
  rw [show j_sR (HN 120 h0) 51 4 (some (j_c (HN 119 h0))) = (HN 121 h0) from by rw [HCn hc (n := 119) (m := 56) (by decide +kernel)]; exact uE_sR 120 (by decide +kernel)]
  show (if ¬ (nI 16) < 0 ∧ (nI 16).toNatClampNeg ≤ 50000 then _ else _) = _
  rw [if_pos (⟨by decide, by decide⟩)]
  show (if j_k (j_new (HN 121 h0) 0 (nI 16).toNatClampNeg) 51 = 11 then _ else _) = _
  rw [show j_new (HN 121 h0) 0 (nI 16).toNatClampNeg = (HN 122 h0) from by rw [show (nI 16).toNatClampNeg = 16 from ft_cl (by omega)]; exact uE_new (h0 := h0) 121 (k := 0) (l := 16) (by decide +kernel)]
  show (if j_k (HN 122 h0) 51 = 11 then _ else _) = _
  rw [if_pos (HKn hc (n := 122) (a := 51) (k := 11) (by decide +kernel))]
  show (if ¬ (nI 16) < 0 ∧ (nI 16).toNatClampNeg ≤ 50000 then _ else _) = _
  rw [show j_sR (HN 122 h0) 51 5 (some (j_c (HN 121 h0))) = (HN 123 h0) from by rw [HCn hc (n := 121) (m := 57) (by decide +kernel)]; exact uE_sR 122 (by decide +kernel)]
  show (if ¬ (nI 16) < 0 ∧ (nI 16).toNatClampNeg ≤ 50000 then _ else _) = _
  rw [if_pos (⟨by decide, by decide⟩)]
  show (if j_k (j_new (HN 123 h0) 0 (nI 16).toNatClampNeg) 51 = 11 then _ else _) = _
  rw [show j_new (HN 123 h0) 0 (nI 16).toNatClampNeg = (HN 124 h0) from by rw [show (nI 16).toNatClampNeg = 16 from ft_cl (by omega)]; exact uE_new (h0 := h0) 123 (k := 0) (l := 16) (by decide +kernel)]
  show (if j_k (HN 124 h0) 51 = 11 then _ else _) = _
  rw [if_pos (HKn hc (n := 124) (a := 51) (k := 11) (by decide +kernel))]
  show (if ¬ (nI 16) < 0 ∧ (nI 16).toNatClampNeg ≤ 50000 then _ else _) = _
  rw [show j_sR (HN 124 h0) 51 6 (some (j_c (HN 123 h0))) = (HN 125 h0) from by rw [HCn hc (n := 123) (m := 58) (by decide +kernel)]; exact uE_sR 124 (by decide +kernel)]
  show (if ¬ (nI 16) < 0 ∧ (nI 16).toNatClampNeg ≤ 50000 then _ else _) = _
  rw [if_pos (⟨by decide, by decide⟩)]
  show (if j_k (j_new (HN 125 h0) 1 (nI 16).toNatClampNeg) 51 = 11 then _ else _) = _
  rw [show j_new (HN 125 h0) 1 (nI 16).toNatClampNeg = (HN 126 h0) from by rw [show (nI 16).toNatClampNeg = 16 from ft_cl (by omega)]; exact uE_new (h0 := h0) 125 (k := 1) (l := 16) (by decide +kernel)]
  show (if j_k (HN 126 h0) 51 = 11 then _ else _) = _
  rw [if_pos (HKn hc (n := 126) (a := 51) (k := 11) (by decide +kernel))]
  show (if j_k (j_sR (HN 126 h0) 51 7 (some (j_c (HN 125 h0)))) 51 = 11 then _ else _) = _
  rw [show j_sR (HN 126 h0) 51 7 (some (j_c (HN 125 h0))) = (HN 127 h0) from by rw [HCn hc (n := 125) (m := 59) (by decide +kernel)]; exact uE_sR 126 (by decide +kernel)]
  show (if j_k (HN 127 h0) 51 = 11 then _ else _) = _
  rw [if_pos (HKn hc (n := 127) (a := 51) (k := 11) (by decide +kernel))]
  show (if j_k (j_sI (HN 127 h0) 51 8 (nI 0)) 51 = 11 then _ else _) = _
  rw [show j_sI (HN 127 h0) 51 8 (nI 0) = (HN 128 h0) from by exact uE_sI 127 (a := 51) (i := 8) (v := 0) (by decide +kernel)]
  show (if j_k (HN 128 h0) 51 = 11 then _ else _) = _
  rw [if_pos (HKn hc (n := 128) (a := 51) (k := 11) (by decide +kernel))]
  show some (none, (j_sI (HN 128 h0) 51 9 (nI 0))) = _
  rw [show j_sI (HN 128 h0) 51 9 (nI 0) = (HN 129 h0) from by exact uE_sI 128 (a := 51) (i := 9) (v := 0) (by decide +kernel)]
  all_goals exact rfl
theorem i_D_new_6_b (F : Nat × Nat) {h0 : jH} (hc : j_c h0 = 4) (ff : jH → Option jO) : jbV (m_D_new F 51 (HN 111 h0)) ff = ff (HN 129 h0) := bV_of (i_D_new_6 (F := F) (h0 := h0) (hc := hc)) ff
theorem i_T_new_8 (F : Nat × Nat) {h0 : jH} (hc : j_c h0 = 4) : m_T_new F 62 (HN 136 h0) = some (none, HN 150 h0) := by
  rw [q_T_new]
  show (if j_k (HN 136 h0) 62 = 15 then _ else _) = _
  rw [if_pos (HKn hc (n := 136) (a := 62) (k := 15) (by decide +kernel))]
  show (if j_k (j_sI (HN 136 h0) 62 6 (nI 0)) 62 = 15 then _ else _) = _
  rw [show j_sI (HN 136 h0) 62 6 (nI 0) = (HN 137 h0) from by exact uE_sI 136 (a := 62) (i := 6) (v := 0) (by decide +kernel)]
  show (if j_k (HN 137 h0) 62 = 15 then _ else _) = _
  rw [if_pos (HKn hc (n := 137) (a := 62) (k := 15) (by decide +kernel))]
  show (if ¬ (nI 480) < 0 ∧ (nI 480).toNatClampNeg ≤ 50000 then _ else _) = _
  rw [show j_sI (HN 137 h0) 62 7 (nI 0) = (HN 138 h0) from by exact uE_sI 137 (a := 62) (i := 7) (v := 0) (by decide +kernel)]
  show (if ¬ (nI 480) < 0 ∧ (nI 480).toNatClampNeg ≤ 50000 then _ else _) = _
  rw [if_pos (⟨by decide, by decide⟩)]
  show (if j_k (j_new (HN 138 h0) 0 (nI 480).toNatClampNeg) 62 = 15 then _ else _) = _
  rw [show j_new (HN 138 h0) 0 (nI 480).toNatClampNeg = (HN 139 h0) from by rw [show (nI 480).toNatClampNeg = 480 from ft_cl (by omega)]; exact uE_new (h0 := h0) 138 (k := 0) (l := 480) (by decide +kernel)]
  show (if j_k (HN 139 h0) 62 = 15 then _ else _) = _
  rw [if_pos (HKn hc (n := 139) (a := 62) (k := 15) (by decide +kernel))]
  show (if ¬ (nI 12) < 0 ∧ (nI 12).toNatClampNeg ≤ 50000 then _ else _) = _
  rw [show j_sR (HN 139 h0) 62 0 (some (j_c (HN 138 h0))) = (HN 140 h0) from by rw [HCn hc (n := 138) (m := 63) (by decide +kernel)]; exact uE_sR 139 (by decide +kernel)]
  show (if ¬ (nI 12) < 0 ∧ (nI 12).toNatClampNeg ≤ 50000 then _ else _) = _
  rw [if_pos (⟨by decide, by decide⟩)]
  show (if j_k (j_new (HN 140 h0) 0 (nI 12).toNatClampNeg) 62 = 15 then _ else _) = _
  rw [show j_new (HN 140 h0) 0 (nI 12).toNatClampNeg = (HN 141 h0) from by rw [show (nI 12).toNatClampNeg = 12 from ft_cl (by omega)]; exact uE_new (h0 := h0) 140 (k := 0) (l := 12) (by decide +kernel)]
  show (if j_k (HN 141 h0) 62 = 15 then _ else _) = _
  rw [if_pos (HKn hc (n := 141) (a := 62) (k := 15) (by decide +kernel))]
  show (if ¬ (nI 12) < 0 ∧ (nI 12).toNatClampNeg ≤ 50000 then _ else _) = _
  rw [show j_sR (HN 141 h0) 62 1 (some (j_c (HN 140 h0))) = (HN 142 h0) from by rw [HCn hc (n := 140) (m := 64) (by decide +kernel)]; exact uE_sR 141 (by decide +kernel)]
  show (if ¬ (nI 12) < 0 ∧ (nI 12).toNatClampNeg ≤ 50000 then _ else _) = _
  rw [if_pos (⟨by decide, by decide⟩)]
  show (if j_k (j_new (HN 142 h0) 0 (nI 12).toNatClampNeg) 62 = 15 then _ else _) = _
  rw [show j_new (HN 142 h0) 0 (nI 12).toNatClampNeg = (HN 143 h0) from by rw [show (nI 12).toNatClampNeg = 12 from ft_cl (by omega)]; exact uE_new (h0 := h0) 142 (k := 0) (l := 12) (by decide +kernel)]
  show (if j_k (HN 143 h0) 62 = 15 then _ else _) = _
  rw [if_pos (HKn hc (n := 143) (a := 62) (k := 15) (by decide +kernel))]
  show (if ¬ (nI 12) < 0 ∧ (nI 12).toNatClampNeg ≤ 50000 then _ else _) = _
  rw [show j_sR (HN 143 h0) 62 2 (some (j_c (HN 142 h0))) = (HN 144 h0) from by rw [HCn hc (n := 142) (m := 65) (by decide +kernel)]; exact uE_sR 143 (by decide +kernel)]
  show (if ¬ (nI 12) < 0 ∧ (nI 12).toNatClampNeg ≤ 50000 then _ else _) = _
  rw [if_pos (⟨by decide, by decide⟩)]
  show (if j_k (j_new (HN 144 h0) 0 (nI 12).toNatClampNeg) 62 = 15 then _ else _) = _
  rw [show j_new (HN 144 h0) 0 (nI 12).toNatClampNeg = (HN 145 h0) from by rw [show (nI 12).toNatClampNeg = 12 from ft_cl (by omega)]; exact uE_new (h0 := h0) 144 (k := 0) (l := 12) (by decide +kernel)]
  show (if j_k (HN 145 h0) 62 = 15 then _ else _) = _
  rw [if_pos (HKn hc (n := 145) (a := 62) (k := 15) (by decide +kernel))]
  show (if ¬ (nI 12) < 0 ∧ (nI 12).toNatClampNeg ≤ 50000 then _ else _) = _
  rw [show j_sR (HN 145 h0) 62 3 (some (j_c (HN 144 h0))) = (HN 146 h0) from by rw [HCn hc (n := 144) (m := 66) (by decide +kernel)]; exact uE_sR 145 (by decide +kernel)]
  show (if ¬ (nI 12) < 0 ∧ (nI 12).toNatClampNeg ≤ 50000 then _ else _) = _
  rw [if_pos (⟨by decide, by decide⟩)]
  show (if j_k (j_new (HN 146 h0) 0 (nI 12).toNatClampNeg) 62 = 15 then _ else _) = _
  rw [show j_new (HN 146 h0) 0 (nI 12).toNatClampNeg = (HN 147 h0) from by rw [show (nI 12).toNatClampNeg = 12 from ft_cl (by omega)]; exact uE_new (h0 := h0) 146 (k := 0) (l := 12) (by decide +kernel)]
  show (if j_k (HN 147 h0) 62 = 15 then _ else _) = _
  rw [if_pos (HKn hc (n := 147) (a := 62) (k := 15) (by decide +kernel))]
  show (if ¬ (nI 12) < 0 ∧ (nI 12).toNatClampNeg ≤ 50000 then _ else _) = _
  rw [show j_sR (HN 147 h0) 62 4 (some (j_c (HN 146 h0))) = (HN 148 h0) from by rw [HCn hc (n := 146) (m := 67) (by decide +kernel)]; exact uE_sR 147 (by decide +kernel)]
  show (if ¬ (nI 12) < 0 ∧ (nI 12).toNatClampNeg ≤ 50000 then _ else _) = _
  rw [if_pos (⟨by decide, by decide⟩)]
  show (if j_k (j_new (HN 148 h0) 0 (nI 12).toNatClampNeg) 62 = 15 then _ else _) = _
  rw [show j_new (HN 148 h0) 0 (nI 12).toNatClampNeg = (HN 149 h0) from by rw [show (nI 12).toNatClampNeg = 12 from ft_cl (by omega)]; exact uE_new (h0 := h0) 148 (k := 0) (l := 12) (by decide +kernel)]
  show (if j_k (HN 149 h0) 62 = 15 then _ else _) = _
  rw [if_pos (HKn hc (n := 149) (a := 62) (k := 15) (by decide +kernel))]
  show some (none, (j_sR (HN 149 h0) 62 5 (some (j_c (HN 148 h0))))) = _
  rw [show j_sR (HN 149 h0) 62 5 (some (j_c (HN 148 h0))) = (HN 150 h0) from by rw [HCn hc (n := 148) (m := 68) (by decide +kernel)]; exact uE_sR 149 (by decide +kernel)]
  all_goals exact rfl
theorem i_T_new_8_b (F : Nat × Nat) {h0 : jH} (hc : j_c h0 = 4) (ff : jH → Option jO) : jbV (m_T_new F 62 (HN 136 h0)) ff = ff (HN 150 h0) := bV_of (i_T_new_8 (F := F) (h0 := h0) (hc := hc)) ff
theorem i_P_new_7 (F : Nat × Nat) {h0 : jH} (hc : j_c h0 = 4) : m_P_new F 60 (HN 131 h0) = some (none, HN 162 h0) := by
  rw [q_P_new]
  show (if ¬ (nI 400) < 0 ∧ (nI 400).toNatClampNeg ≤ 50000 then _ else _) = _
  rw [if_pos (⟨by decide, by decide⟩)]
  show (if j_k (j_new (HN 131 h0) 0 (nI 400).toNatClampNeg) 60 = 13 then _ else _) = _
  rw [show j_new (HN 131 h0) 0 (nI 400).toNatClampNeg = (HN 132 h0) from by rw [show (nI 400).toNatClampNeg = 400 from ft_cl (by omega)]; exact uE_new (h0 := h0) 131 (k := 0) (l := 400) (by decide +kernel)]
  show (if j_k (HN 132 h0) 60 = 13 then _ else _) = _
  rw [if_pos (HKn hc (n := 132) (a := 60) (k := 13) (by decide +kernel))]
  show (if j_k (j_sR (HN 132 h0) 60 0 (some (j_c (HN 131 h0)))) 60 = 13 then _ else _) = _
  rw [show j_sR (HN 132 h0) 60 0 (some (j_c (HN 131 h0))) = (HN 133 h0) from by rw [HCn hc (n := 131) (m := 61) (by decide +kernel)]; exact uE_sR 132 (by decide +kernel)]
  show (if j_k (HN 133 h0) 60 = 13 then _ else _) = _
  rw [if_pos (HKn hc (n := 133) (a := 60) (k := 13) (by decide +kernel))]
  show (if j_k (j_sI (HN 133 h0) 60 1 (nI 0)) 60 = 13 then _ else _) = _
  rw [show j_sI (HN 133 h0) 60 1 (nI 0) = (HN 134 h0) from by exact uE_sI 133 (a := 60) (i := 1) (v := 0) (by decide +kernel)]
  show (if j_k (HN 134 h0) 60 = 13 then _ else _) = _
  rw [if_pos (HKn hc (n := 134) (a := 60) (k := 13) (by decide +kernel))]
  show jbV (m_T_new F (j_c (j_sI (HN 134 h0) 60 2 (mI 0))) (j_new (j_sI (HN 134 h0) 60 2 (mI 0)) 15 8)) _ = _
  rw [show j_sI (HN 134 h0) 60 2 (mI 0) = (HN 135 h0) from by exact uE_sM 134 (a := 60) (i := 2) (v := 0) (by decide +kernel)]
  rw [show j_new (HN 135 h0) 15 8 = (HN 136 h0) from uE_new (h0 := h0) 135 (k := 15) (l := 8) (by decide +kernel)]
  rw [HCn hc (n := 135) (m := 62) (by decide +kernel), bV_of (i_T_new_8 F hc)]
  show (if j_k (HN 150 h0) 60 = 13 then _ else _) = _
  rw [if_pos (HKn hc (n := 150) (a := 60) (k := 13) (by decide +kernel))]
  show (if ¬ (nI 401) < 0 ∧ (nI 401).toNatClampNeg ≤ 50000 then _ else _) = _
  rw [show j_sR (HN 150 h0) 60 3 (some 62) = (HN 151 h0) from by exact uE_sR 150 (by decide +kernel)]
  show (if ¬ (nI 401) < 0 ∧ (nI 401).toNatClampNeg ≤ 50000 then _ else _) = _
  rw [if_pos (⟨by decide, by decide⟩)]
  show (if j_k (j_new (HN 151 h0) 0 (nI 401).toNatClampNeg) 60 = 13 then _ else _) = _
  rw [show j_new (HN 151 h0) 0 (nI 401).toNatClampNeg = (HN 152 h0) from by rw [show (nI 401).toNatClampNeg = 401 from ft_cl (by omega)]; exact uE_new (h0 := h0) 151 (k := 0) (l := 401) (by decide +kernel)]
  show (if j_k (HN 152 h0) 60 = 13 then _ else _) = _
  rw [if_pos (HKn hc (n := 152) (a := 60) (k := 13) (by decide +kernel))]
  show (if ¬ (nI 401) < 0 ∧ (nI 401).toNatClampNeg ≤ 50000 then _ else _) = _
  rw [show j_sR (HN 152 h0) 60 4 (some (j_c (HN 151 h0))) = (HN 153 h0) from by rw [HCn hc (n := 151) (m := 69) (by decide +kernel)]; exact uE_sR 152 (by decide +kernel)]
  show (if ¬ (nI 401) < 0 ∧ (nI 401).toNatClampNeg ≤ 50000 then _ else _) = _
  rw [if_pos (⟨by decide, by decide⟩)]
  show (if j_k (j_new (HN 153 h0) 0 (nI 401).toNatClampNeg) 60 = 13 then _ else _) = _
  rw [show j_new (HN 153 h0) 0 (nI 401).toNatClampNeg = (HN 154 h0) from by rw [show (nI 401).toNatClampNeg = 401 from ft_cl (by omega)]; exact uE_new (h0 := h0) 153 (k := 0) (l := 401) (by decide +kernel)]
  show (if j_k (HN 154 h0) 60 = 13 then _ else _) = _
  rw [if_pos (HKn hc (n := 154) (a := 60) (k := 13) (by decide +kernel))]
  show (if ¬ (nI 401) < 0 ∧ (nI 401).toNatClampNeg ≤ 50000 then _ else _) = _
  rw [show j_sR (HN 154 h0) 60 5 (some (j_c (HN 153 h0))) = (HN 155 h0) from by rw [HCn hc (n := 153) (m := 70) (by decide +kernel)]; exact uE_sR 154 (by decide +kernel)]
  show (if ¬ (nI 401) < 0 ∧ (nI 401).toNatClampNeg ≤ 50000 then _ else _) = _
  rw [if_pos (⟨by decide, by decide⟩)]
  show (if j_k (j_new (HN 155 h0) 0 (nI 401).toNatClampNeg) 60 = 13 then _ else _) = _
  rw [show j_new (HN 155 h0) 0 (nI 401).toNatClampNeg = (HN 156 h0) from by rw [show (nI 401).toNatClampNeg = 401 from ft_cl (by omega)]; exact uE_new (h0 := h0) 155 (k := 0) (l := 401) (by decide +kernel)]
  show (if j_k (HN 156 h0) 60 = 13 then _ else _) = _
  rw [if_pos (HKn hc (n := 156) (a := 60) (k := 13) (by decide +kernel))]
  show (if j_k (j_sR (HN 156 h0) 60 6 (some (j_c (HN 155 h0)))) 60 = 13 then _ else _) = _
  rw [show j_sR (HN 156 h0) 60 6 (some (j_c (HN 155 h0))) = (HN 157 h0) from by rw [HCn hc (n := 155) (m := 71) (by decide +kernel)]; exact uE_sR 156 (by decide +kernel)]
  show (if j_k (HN 157 h0) 60 = 13 then _ else _) = _
  rw [if_pos (HKn hc (n := 157) (a := 60) (k := 13) (by decide +kernel))]
  show (if j_k (j_sI (HN 157 h0) 60 7 (nI 0)) 60 = 13 then _ else _) = _
  rw [show j_sI (HN 157 h0) 60 7 (nI 0) = (HN 158 h0) from by exact uE_sI 157 (a := 60) (i := 7) (v := 0) (by decide +kernel)]
  show (if j_k (HN 158 h0) 60 = 13 then _ else _) = _
  rw [if_pos (HKn hc (n := 158) (a := 60) (k := 13) (by decide +kernel))]
  show (if j_k (j_sI (HN 158 h0) 60 8 (nI 402)) 60 = 13 then _ else _) = _
  rw [show j_sI (HN 158 h0) 60 8 (nI 402) = (HN 159 h0) from by exact uE_sI 158 (a := 60) (i := 8) (v := 402) (by decide +kernel)]
  show (if j_k (HN 159 h0) 60 = 13 then _ else _) = _
  rw [if_pos (HKn hc (n := 159) (a := 60) (k := 13) (by decide +kernel))]
  show (if j_k (j_sI (HN 159 h0) 60 9 (nI 0)) 60 = 13 then _ else _) = _
  rw [show j_sI (HN 159 h0) 60 9 (nI 0) = (HN 160 h0) from by exact uE_sI 159 (a := 60) (i := 9) (v := 0) (by decide +kernel)]
  show (if j_k (HN 160 h0) 60 = 13 then _ else _) = _
  rw [if_pos (HKn hc (n := 160) (a := 60) (k := 13) (by decide +kernel))]
  show (if j_k (j_sI (HN 160 h0) 60 10 (nI 0)) 60 = 13 ∧ ((nI 0) = nI 0 ∨ (nI 0) = nI 1) then _ else _) = _
  rw [show j_sI (HN 160 h0) 60 10 (nI 0) = (HN 161 h0) from by exact uE_sI 160 (a := 60) (i := 10) (v := 0) (by decide +kernel)]
  show (if j_k (HN 161 h0) 60 = 13 ∧ ((nI 0) = nI 0 ∨ (nI 0) = nI 1) then _ else _) = _
  rw [if_pos (⟨HKn hc (n := 161) (a := 60) (k := 13) (by decide +kernel), Or.inl rfl⟩)]
  show some (none, (j_sI (HN 161 h0) 60 11 (nI 0))) = _
  rw [show j_sI (HN 161 h0) 60 11 (nI 0) = (HN 162 h0) from by exact uE_sI 161 (a := 60) (i := 11) (v := 0) (by decide +kernel)]
  all_goals exact rfl
theorem i_P_new_7_b (F : Nat × Nat) {h0 : jH} (hc : j_c h0 = 4) (ff : jH → Option jO) : jbV (m_P_new F 60 (HN 131 h0)) ff = ff (HN 162 h0) := bV_of (i_P_new_7 (F := F) (h0 := h0) (hc := hc)) ff
theorem i_U_new_9 (F : Nat × Nat) {h0 : jH} (hc : j_c h0 = 4) : m_U_new F 72 (HN 164 h0) = some (none, HN 168 h0) := by
  rw [q_U_new]
  show (if ¬ (nI 8) < 0 ∧ (nI 8).toNatClampNeg ≤ 50000 then _ else _) = _
  rw [if_pos (⟨by decide, by decide⟩)]
  show (if j_k (j_new (HN 164 h0) 1 (nI 8).toNatClampNeg) 72 = 14 then _ else _) = _
  rw [show j_new (HN 164 h0) 1 (nI 8).toNatClampNeg = (HN 165 h0) from by rw [show (nI 8).toNatClampNeg = 8 from ft_cl (by omega)]; exact uE_new (h0 := h0) 164 (k := 1) (l := 8) (by decide +kernel)]
  show (if j_k (HN 165 h0) 72 = 14 then _ else _) = _
  rw [if_pos (HKn hc (n := 165) (a := 72) (k := 14) (by decide +kernel))]
  show (if ¬ (nI 48) < 0 ∧ (nI 48).toNatClampNeg ≤ 50000 then _ else _) = _
  rw [show j_sR (HN 165 h0) 72 0 (some (j_c (HN 164 h0))) = (HN 166 h0) from by rw [HCn hc (n := 164) (m := 73) (by decide +kernel)]; exact uE_sR 165 (by decide +kernel)]
  show (if ¬ (nI 48) < 0 ∧ (nI 48).toNatClampNeg ≤ 50000 then _ else _) = _
  rw [if_pos (⟨by decide, by decide⟩)]
  show (if j_k (j_new (HN 166 h0) 1 (nI 48).toNatClampNeg) 72 = 14 then _ else _) = _
  rw [show j_new (HN 166 h0) 1 (nI 48).toNatClampNeg = (HN 167 h0) from by rw [show (nI 48).toNatClampNeg = 48 from ft_cl (by omega)]; exact uE_new (h0 := h0) 166 (k := 1) (l := 48) (by decide +kernel)]
  show (if j_k (HN 167 h0) 72 = 14 then _ else _) = _
  rw [if_pos (HKn hc (n := 167) (a := 72) (k := 14) (by decide +kernel))]
  show some (none, (j_sR (HN 167 h0) 72 1 (some (j_c (HN 166 h0))))) = _
  rw [show j_sR (HN 167 h0) 72 1 (some (j_c (HN 166 h0))) = (HN 168 h0) from by rw [HCn hc (n := 166) (m := 74) (by decide +kernel)]; exact uE_sR 167 (by decide +kernel)]
  all_goals exact rfl
theorem i_U_new_9_b (F : Nat × Nat) {h0 : jH} (hc : j_c h0 = 4) (ff : jH → Option jO) : jbV (m_U_new F 72 (HN 164 h0)) ff = ff (HN 168 h0) := bV_of (i_U_new_9 (F := F) (h0 := h0) (hc := hc)) ff
theorem i_W_new_10 (F : Nat × Nat) {h0 : jH} (hc : j_c h0 = 4) : m_W_new F 75 (HN 170 h0) = some (none, HN 180 h0) := by
  rw [q_W_new]
  show (if ¬ (nI 100) < 0 ∧ (nI 100).toNatClampNeg ≤ 50000 then _ else _) = _
  rw [if_pos (⟨by decide, by decide⟩)]
  show (if j_k (j_new (HN 170 h0) 0 (nI 100).toNatClampNeg) 75 = 16 then _ else _) = _
  rw [show j_new (HN 170 h0) 0 (nI 100).toNatClampNeg = (HN 171 h0) from by rw [show (nI 100).toNatClampNeg = 100 from ft_cl (by omega)]; exact uE_new (h0 := h0) 170 (k := 0) (l := 100) (by decide +kernel)]
  show (if j_k (HN 171 h0) 75 = 16 then _ else _) = _
  rw [if_pos (HKn hc (n := 171) (a := 75) (k := 16) (by decide +kernel))]
  show (if ¬ (nI 25) < 0 ∧ (nI 25).toNatClampNeg ≤ 50000 then _ else _) = _
  rw [show j_sR (HN 171 h0) 75 0 (some (j_c (HN 170 h0))) = (HN 172 h0) from by rw [HCn hc (n := 170) (m := 76) (by decide +kernel)]; exact uE_sR 171 (by decide +kernel)]
  show (if ¬ (nI 25) < 0 ∧ (nI 25).toNatClampNeg ≤ 50000 then _ else _) = _
  rw [if_pos (⟨by decide, by decide⟩)]
  show (if j_k (j_new (HN 172 h0) 0 (nI 25).toNatClampNeg) 75 = 16 then _ else _) = _
  rw [show j_new (HN 172 h0) 0 (nI 25).toNatClampNeg = (HN 173 h0) from by rw [show (nI 25).toNatClampNeg = 25 from ft_cl (by omega)]; exact uE_new (h0 := h0) 172 (k := 0) (l := 25) (by decide +kernel)]
  show (if j_k (HN 173 h0) 75 = 16 then _ else _) = _
  rw [if_pos (HKn hc (n := 173) (a := 75) (k := 16) (by decide +kernel))]
  show (if ¬ (nI 25) < 0 ∧ (nI 25).toNatClampNeg ≤ 50000 then _ else _) = _
  rw [show j_sR (HN 173 h0) 75 1 (some (j_c (HN 172 h0))) = (HN 174 h0) from by rw [HCn hc (n := 172) (m := 77) (by decide +kernel)]; exact uE_sR 173 (by decide +kernel)]
  show (if ¬ (nI 25) < 0 ∧ (nI 25).toNatClampNeg ≤ 50000 then _ else _) = _
  rw [if_pos (⟨by decide, by decide⟩)]
  show (if j_k (j_new (HN 174 h0) 0 (nI 25).toNatClampNeg) 75 = 16 then _ else _) = _
  rw [show j_new (HN 174 h0) 0 (nI 25).toNatClampNeg = (HN 175 h0) from by rw [show (nI 25).toNatClampNeg = 25 from ft_cl (by omega)]; exact uE_new (h0 := h0) 174 (k := 0) (l := 25) (by decide +kernel)]
  show (if j_k (HN 175 h0) 75 = 16 then _ else _) = _
  rw [if_pos (HKn hc (n := 175) (a := 75) (k := 16) (by decide +kernel))]
  show (if ¬ (nI 25) < 0 ∧ (nI 25).toNatClampNeg ≤ 50000 then _ else _) = _
  rw [show j_sR (HN 175 h0) 75 2 (some (j_c (HN 174 h0))) = (HN 176 h0) from by rw [HCn hc (n := 174) (m := 78) (by decide +kernel)]; exact uE_sR 175 (by decide +kernel)]
  show (if ¬ (nI 25) < 0 ∧ (nI 25).toNatClampNeg ≤ 50000 then _ else _) = _
  rw [if_pos (⟨by decide, by decide⟩)]
  show (if j_k (j_new (HN 176 h0) 0 (nI 25).toNatClampNeg) 75 = 16 then _ else _) = _
  rw [show j_new (HN 176 h0) 0 (nI 25).toNatClampNeg = (HN 177 h0) from by rw [show (nI 25).toNatClampNeg = 25 from ft_cl (by omega)]; exact uE_new (h0 := h0) 176 (k := 0) (l := 25) (by decide +kernel)]
  show (if j_k (HN 177 h0) 75 = 16 then _ else _) = _
  rw [if_pos (HKn hc (n := 177) (a := 75) (k := 16) (by decide +kernel))]
  show (if ¬ (nI 1600) < 0 ∧ (nI 1600).toNatClampNeg ≤ 50000 then _ else _) = _
  rw [show j_sR (HN 177 h0) 75 3 (some (j_c (HN 176 h0))) = (HN 178 h0) from by rw [HCn hc (n := 176) (m := 79) (by decide +kernel)]; exact uE_sR 177 (by decide +kernel)]
  show (if ¬ (nI 1600) < 0 ∧ (nI 1600).toNatClampNeg ≤ 50000 then _ else _) = _
  rw [if_pos (⟨by decide, by decide⟩)]
  show (if j_k (j_new (HN 178 h0) 0 (nI 1600).toNatClampNeg) 75 = 16 then _ else _) = _
  rw [show j_new (HN 178 h0) 0 (nI 1600).toNatClampNeg = (HN 179 h0) from by rw [show (nI 1600).toNatClampNeg = 1600 from ft_cl (by omega)]; exact uE_new (h0 := h0) 178 (k := 0) (l := 1600) (by decide +kernel)]
  show (if j_k (HN 179 h0) 75 = 16 then _ else _) = _
  rw [if_pos (HKn hc (n := 179) (a := 75) (k := 16) (by decide +kernel))]
  show some (none, (j_sR (HN 179 h0) 75 4 (some (j_c (HN 178 h0))))) = _
  rw [show j_sR (HN 179 h0) 75 4 (some (j_c (HN 178 h0))) = (HN 180 h0) from by rw [HCn hc (n := 178) (m := 80) (by decide +kernel)]; exact uE_sR 179 (by decide +kernel)]
  all_goals exact rfl
theorem i_W_new_10_b (F : Nat × Nat) {h0 : jH} (hc : j_c h0 = 4) (ff : jH → Option jO) : jbV (m_W_new F 75 (HN 170 h0)) ff = ff (HN 180 h0) := bV_of (i_W_new_10 (F := F) (h0 := h0) (hc := hc)) ff
theorem i_F_new_1 (F : Nat × Nat) {h0 : jH} (hc : j_c h0 = 4) : m_F_new F 4 (HN 1 h0) = some (none, HN 192 h0) := by
  rw [q_F_new]
  show jbV (m_L_new F (j_c (HN 1 h0)) (j_new (HN 1 h0) 12 15)) _ = _
  rw [show j_new (HN 1 h0) 12 15 = (HN 2 h0) from uE_new (h0 := h0) 1 (k := 12) (l := 15) (by decide +kernel)]
  rw [HCn hc (n := 1) (m := 5) (by decide +kernel), bV_of (i_L_new_2 F hc)]
  show (if j_k (HN 29 h0) 4 = 10 then _ else _) = _
  rw [if_pos (HKn hc (n := 29) (a := 4) (k := 10) (by decide +kernel))]
  show jbV (m_L_new F (j_c (j_sR (HN 29 h0) 4 0 (some 5))) (j_new (j_sR (HN 29 h0) 4 0 (some 5)) 12 15)) _ = _
  rw [show j_sR (HN 29 h0) 4 0 (some 5) = (HN 30 h0) from by exact uE_sR 29 (by decide +kernel)]
  rw [show j_new (HN 30 h0) 12 15 = (HN 31 h0) from uE_new (h0 := h0) 30 (k := 12) (l := 15) (by decide +kernel)]
  rw [HCn hc (n := 30) (m := 17) (by decide +kernel), bV_of (i_L_new_3 F hc)]
  show (if j_k (HN 58 h0) 4 = 10 then _ else _) = _
  rw [if_pos (HKn hc (n := 58) (a := 4) (k := 10) (by decide +kernel))]
  show jbV (m_L_new F (j_c (j_sR (HN 58 h0) 4 1 (some 17))) (j_new (j_sR (HN 58 h0) 4 1 (some 17)) 12 15)) _ = _
  rw [show j_sR (HN 58 h0) 4 1 (some 17) = (HN 59 h0) from by exact uE_sR 58 (by decide +kernel)]
  rw [show j_new (HN 59 h0) 12 15 = (HN 60 h0) from uE_new (h0 := h0) 59 (k := 12) (l := 15) (by decide +kernel)]
  rw [HCn hc (n := 59) (m := 29) (by decide +kernel), bV_of (i_L_new_4 F hc)]
  show (if j_k (HN 87 h0) 4 = 10 then _ else _) = _
  rw [if_pos (HKn hc (n := 87) (a := 4) (k := 10) (by decide +kernel))]
  show (if ¬ (nI 2) < 0 ∧ (nI 2).toNatClampNeg ≤ 50000 then _ else _) = _
  rw [show j_sR (HN 87 h0) 4 2 (some 29) = (HN 88 h0) from by exact uE_sR 87 (by decide +kernel)]
  show (if ¬ (nI 2) < 0 ∧ (nI 2).toNatClampNeg ≤ 50000 then _ else _) = _
  rw [if_pos (⟨by decide, by decide⟩)]
  show (if j_k (j_new (HN 88 h0) 5 (nI 2).toNatClampNeg) 4 = 10 then _ else _) = _
  rw [show j_new (HN 88 h0) 5 (nI 2).toNatClampNeg = (HN 89 h0) from by rw [show (nI 2).toNatClampNeg = 2 from ft_cl (by omega)]; exact uE_new (h0 := h0) 88 (k := 5) (l := 2) (by decide +kernel)]
  show (if j_k (HN 89 h0) 4 = 10 then _ else _) = _
  rw [if_pos (HKn hc (n := 89) (a := 4) (k := 10) (by decide +kernel))]
  show jbV (m_D_new F (j_c (j_sR (HN 89 h0) 4 3 (some (j_c (HN 88 h0))))) (j_new (j_sR (HN 89 h0) 4 3 (some (j_c (HN 88 h0)))) 11 10)) _ = _
  rw [show j_sR (HN 89 h0) 4 3 (some (j_c (HN 88 h0))) = (HN 90 h0) from by rw [HCn hc (n := 88) (m := 41) (by decide +kernel)]; exact uE_sR 89 (by decide +kernel)]
  rw [show j_new (HN 90 h0) 11 10 = (HN 91 h0) from uE_new (h0 := h0) 90 (k := 11) (l := 10) (by decide +kernel)]
  rw [HCn hc (n := 90) (m := 42) (by decide +kernel), bV_of (i_D_new_5 F hc)]
  show (if j_k (HN 109 h0) 4 = 10 then _ else _) = _
  rw [if_pos (HKn hc (n := 109) (a := 4) (k := 10) (by decide +kernel))]
  show jbV (m_D_new F (j_c (j_sR (HN 109 h0) 4 4 (some 42))) (j_new (j_sR (HN 109 h0) 4 4 (some 42)) 11 10)) _ = _
  rw [show j_sR (HN 109 h0) 4 4 (some 42) = (HN 110 h0) from by exact uE_sR 109 (by decide +kernel)]
  rw [show j_new (HN 110 h0) 11 10 = (HN 111 h0) from uE_new (h0 := h0) 110 (k := 11) (l := 10) (by decide +kernel)]
  rw [HCn hc (n := 110) (m := 51) (by decide +kernel), bV_of (i_D_new_6 F hc)]
  show (if j_k (HN 129 h0) 4 = 10 then _ else _) = _
  rw [if_pos (HKn hc (n := 129) (a := 4) (k := 10) (by decide +kernel))]
  show jbV (m_P_new F (j_c (j_sR (HN 129 h0) 4 5 (some 51))) (j_new (j_sR (HN 129 h0) 4 5 (some 51)) 13 12)) _ = _
  rw [show j_sR (HN 129 h0) 4 5 (some 51) = (HN 130 h0) from by exact uE_sR 129 (by decide +kernel)]
  rw [show j_new (HN 130 h0) 13 12 = (HN 131 h0) from uE_new (h0 := h0) 130 (k := 13) (l := 12) (by decide +kernel)]
  rw [HCn hc (n := 130) (m := 60) (by decide +kernel), bV_of (i_P_new_7 F hc)]
  show (if j_k (HN 162 h0) 4 = 10 then _ else _) = _
  rw [if_pos (HKn hc (n := 162) (a := 4) (k := 10) (by decide +kernel))]
  show jbV (m_U_new F (j_c (j_sR (HN 162 h0) 4 6 (some 60))) (j_new (j_sR (HN 162 h0) 4 6 (some 60)) 14 2)) _ = _
  rw [show j_sR (HN 162 h0) 4 6 (some 60) = (HN 163 h0) from by exact uE_sR 162 (by decide +kernel)]
  rw [show j_new (HN 163 h0) 14 2 = (HN 164 h0) from uE_new (h0 := h0) 163 (k := 14) (l := 2) (by decide +kernel)]
  rw [HCn hc (n := 163) (m := 72) (by decide +kernel), bV_of (i_U_new_9 F hc)]
  show (if j_k (HN 168 h0) 4 = 10 then _ else _) = _
  rw [if_pos (HKn hc (n := 168) (a := 4) (k := 10) (by decide +kernel))]
  show jbV (m_W_new F (j_c (j_sR (HN 168 h0) 4 7 (some 72))) (j_new (j_sR (HN 168 h0) 4 7 (some 72)) 16 5)) _ = _
  rw [show j_sR (HN 168 h0) 4 7 (some 72) = (HN 169 h0) from by exact uE_sR 168 (by decide +kernel)]
  rw [show j_new (HN 169 h0) 16 5 = (HN 170 h0) from uE_new (h0 := h0) 169 (k := 16) (l := 5) (by decide +kernel)]
  rw [HCn hc (n := 169) (m := 75) (by decide +kernel), bV_of (i_W_new_10 F hc)]
  show (if j_k (HN 180 h0) 4 = 10 then _ else _) = _
  rw [if_pos (HKn hc (n := 180) (a := 4) (k := 10) (by decide +kernel))]
  show (if ¬ (nI 36) < 0 ∧ (nI 36).toNatClampNeg ≤ 50000 then _ else _) = _
  rw [show j_sR (HN 180 h0) 4 8 (some 75) = (HN 181 h0) from by exact uE_sR 180 (by decide +kernel)]
  show (if ¬ (nI 36) < 0 ∧ (nI 36).toNatClampNeg ≤ 50000 then _ else _) = _
  rw [if_pos (⟨by decide, by decide⟩)]
  show (if j_k (j_new (HN 181 h0) 1 (nI 36).toNatClampNeg) 4 = 10 then _ else _) = _
  rw [show j_new (HN 181 h0) 1 (nI 36).toNatClampNeg = (HN 182 h0) from by rw [show (nI 36).toNatClampNeg = 36 from ft_cl (by omega)]; exact uE_new (h0 := h0) 181 (k := 1) (l := 36) (by decide +kernel)]
  show (if j_k (HN 182 h0) 4 = 10 then _ else _) = _
  rw [if_pos (HKn hc (n := 182) (a := 4) (k := 10) (by decide +kernel))]
  show (if ¬ (nI 20) < 0 ∧ (nI 20).toNatClampNeg ≤ 50000 then _ else _) = _
  rw [show j_sR (HN 182 h0) 4 9 (some (j_c (HN 181 h0))) = (HN 183 h0) from by rw [HCn hc (n := 181) (m := 81) (by decide +kernel)]; exact uE_sR 182 (by decide +kernel)]
  show (if ¬ (nI 20) < 0 ∧ (nI 20).toNatClampNeg ≤ 50000 then _ else _) = _
  rw [if_pos (⟨by decide, by decide⟩)]
  show (if j_k (j_new (HN 183 h0) 1 (nI 20).toNatClampNeg) 4 = 10 then _ else _) = _
  rw [show j_new (HN 183 h0) 1 (nI 20).toNatClampNeg = (HN 184 h0) from by rw [show (nI 20).toNatClampNeg = 20 from ft_cl (by omega)]; exact uE_new (h0 := h0) 183 (k := 1) (l := 20) (by decide +kernel)]
  show (if j_k (HN 184 h0) 4 = 10 then _ else _) = _
  rw [if_pos (HKn hc (n := 184) (a := 4) (k := 10) (by decide +kernel))]
  show (if ¬ (nI 5) < 0 ∧ (nI 5).toNatClampNeg ≤ 50000 then _ else _) = _
  rw [show j_sR (HN 184 h0) 4 10 (some (j_c (HN 183 h0))) = (HN 185 h0) from by rw [HCn hc (n := 183) (m := 82) (by decide +kernel)]; exact uE_sR 184 (by decide +kernel)]
  show (if ¬ (nI 5) < 0 ∧ (nI 5).toNatClampNeg ≤ 50000 then _ else _) = _
  rw [if_pos (⟨by decide, by decide⟩)]
  show (if j_k (j_new (HN 185 h0) 0 (nI 5).toNatClampNeg) 4 = 10 then _ else _) = _
  rw [show j_new (HN 185 h0) 0 (nI 5).toNatClampNeg = (HN 186 h0) from by rw [show (nI 5).toNatClampNeg = 5 from ft_cl (by omega)]; exact uE_new (h0 := h0) 185 (k := 0) (l := 5) (by decide +kernel)]
  show (if j_k (HN 186 h0) 4 = 10 then _ else _) = _
  rw [if_pos (HKn hc (n := 186) (a := 4) (k := 10) (by decide +kernel))]
  show (if ¬ (nI 7) < 0 ∧ (nI 7).toNatClampNeg ≤ 50000 then _ else _) = _
  rw [show j_sR (HN 186 h0) 4 11 (some (j_c (HN 185 h0))) = (HN 187 h0) from by rw [HCn hc (n := 185) (m := 83) (by decide +kernel)]; exact uE_sR 186 (by decide +kernel)]
  show (if ¬ (nI 7) < 0 ∧ (nI 7).toNatClampNeg ≤ 50000 then _ else _) = _
  rw [if_pos (⟨by decide, by decide⟩)]
  show (if j_k (j_new (HN 187 h0) 0 (nI 7).toNatClampNeg) 4 = 10 then _ else _) = _
  rw [show j_new (HN 187 h0) 0 (nI 7).toNatClampNeg = (HN 188 h0) from by rw [show (nI 7).toNatClampNeg = 7 from ft_cl (by omega)]; exact uE_new (h0 := h0) 187 (k := 0) (l := 7) (by decide +kernel)]
  show (if j_k (HN 188 h0) 4 = 10 then _ else _) = _
  rw [if_pos (HKn hc (n := 188) (a := 4) (k := 10) (by decide +kernel))]
  show (if j_k (j_sR (HN 188 h0) 4 12 (some (j_c (HN 187 h0)))) 4 = 10 then _ else _) = _
  rw [show j_sR (HN 188 h0) 4 12 (some (j_c (HN 187 h0))) = (HN 189 h0) from by rw [HCn hc (n := 187) (m := 84) (by decide +kernel)]; exact uE_sR 188 (by decide +kernel)]
  show (if j_k (HN 189 h0) 4 = 10 then _ else _) = _
  rw [if_pos (HKn hc (n := 189) (a := 4) (k := 10) (by decide +kernel))]
  show (if j_k (j_sI (HN 189 h0) 4 13 (nI 0)) 4 = 10 then _ else _) = _
  rw [show j_sI (HN 189 h0) 4 13 (nI 0) = (HN 190 h0) from by exact uE_sI 189 (a := 4) (i := 13) (v := 0) (by decide +kernel)]
  show (if j_k (HN 190 h0) 4 = 10 then _ else _) = _
  rw [if_pos (HKn hc (n := 190) (a := 4) (k := 10) (by decide +kernel))]
  show (if j_k (j_sI (HN 190 h0) 4 14 (mI 0)) 4 = 10 then _ else _) = _
  rw [show j_sI (HN 190 h0) 4 14 (mI 0) = (HN 191 h0) from by exact uE_sM 190 (a := 4) (i := 14) (v := 0) (by decide +kernel)]
  show (if j_k (HN 191 h0) 4 = 10 then _ else _) = _
  rw [if_pos (HKn hc (n := 191) (a := 4) (k := 10) (by decide +kernel))]
  show some (none, (j_sI (HN 191 h0) 4 15 (nI 0))) = _
  rw [show j_sI (HN 191 h0) 4 15 (nI 0) = (HN 192 h0) from by exact uE_sI 191 (a := 4) (i := 15) (v := 0) (by decide +kernel)]
  all_goals exact rfl
theorem i_F_new_1_b (F : Nat × Nat) {h0 : jH} (hc : j_c h0 = 4) (ff : jH → Option jO) : jbV (m_F_new F 4 (HN 1 h0)) ff = ff (HN 192 h0) := bV_of (i_F_new_1 (F := F) (h0 := h0) (hc := hc)) ff
theorem i_M_new_1052_44 (F : Nat × Nat) {h0 : jH} (hc : j_c h0 = 4) : m_M_new_1052 F 85 85 (HN 383 h0) = some (none, HN 385 h0) := by
  rw [q_M_new_1052]
  show (if j_k (HN 383 h0) 85 = 17 then _ else _) = _
  rw [if_pos (HKn hc (n := 383) (a := 85) (k := 17) (by decide +kernel))]
  rw [HRn hc (n := 383) (a := 85) (i := 2) (x := some 87) (by decide +kernel)]
  show (if j_k (HN 383 h0) 87 = 0 ∧ j_in (HN 383 h0) 87 (nI 175) then _ else _) = _
  rw [if_pos (⟨HKn hc (n := 383) (a := 87) (k := 0) (by decide +kernel), by rw [ft_in (by omega), HLn hc (n := 383) (a := 87) (l := 5788) (by decide +kernel)]; omega⟩)]
  show (if j_k (j_sI (HN 383 h0) 87 ((nI 175).toNatClampNeg) (nI 1)) 85 = 17 then _ else _) = _
  rw [show j_sI (HN 383 h0) 87 ((nI 175).toNatClampNeg) (nI 1) = (HN 384 h0) from by rw [show (nI 175).toNatClampNeg = 175 from ft_cl (by omega)]; exact uE_sI 383 (a := 87) (i := 175) (v := 1) (by decide +kernel)]
  show (if j_k (HN 384 h0) 85 = 17 then _ else _) = _
  rw [if_pos (HKn hc (n := 384) (a := 85) (k := 17) (by decide +kernel))]
  rw [HRn hc (n := 384) (a := 85) (i := 2) (x := some 87) (by decide +kernel)]
  show (if j_k (HN 384 h0) 87 = 0 ∧ j_in (HN 384 h0) 87 (nI 180) then _ else _) = _
  rw [if_pos (⟨HKn hc (n := 384) (a := 87) (k := 0) (by decide +kernel), by rw [ft_in (by omega), HLn hc (n := 384) (a := 87) (l := 5788) (by decide +kernel)]; omega⟩)]
  show some (none, (j_sI (HN 384 h0) 87 ((nI 180).toNatClampNeg) (mI 0))) = _
  rw [show j_sI (HN 384 h0) 87 ((nI 180).toNatClampNeg) (mI 0) = (HN 385 h0) from by rw [show (nI 180).toNatClampNeg = 180 from ft_cl (by omega)]; exact uE_sM 384 (a := 87) (i := 180) (v := 0) (by decide +kernel)]
  all_goals exact rfl
theorem i_M_new_1052_44_b (F : Nat × Nat) {h0 : jH} (hc : j_c h0 = 4) (ff : jH → Option jO) : jbV (m_M_new_1052 F 85 85 (HN 383 h0)) ff = ff (HN 385 h0) := bV_of (i_M_new_1052_44 (F := F) (h0 := h0) (hc := hc)) ff
theorem i_M_new_1015_43 (F : Nat × Nat) {h0 : jH} (hc : j_c h0 = 4) : m_M_new_1015 F 85 107 85 (HN 374 h0) = some (none, HN 385 h0) := by
  rw [q_M_new_1015]
  show (if j_k (HN 374 h0) 85 = 17 then _ else _) = _
  rw [if_pos (HKn hc (n := 374) (a := 85) (k := 17) (by decide +kernel))]
  show (if ¬ (nI 21) < 0 ∧ (nI 21).toNatClampNeg ≤ 50000 then _ else _) = _
  rw [show j_sR (HN 374 h0) 85 40 (some 107) = (HN 375 h0) from by exact uE_sR 374 (by decide +kernel)]
  show (if ¬ (nI 21) < 0 ∧ (nI 21).toNatClampNeg ≤ 50000 then _ else _) = _
  rw [if_pos (⟨by decide, by decide⟩)]
  show (if j_k (j_new (HN 375 h0) 1 (nI 21).toNatClampNeg) 85 = 17 then _ else _) = _
  rw [show j_new (HN 375 h0) 1 (nI 21).toNatClampNeg = (HN 376 h0) from by rw [show (nI 21).toNatClampNeg = 21 from ft_cl (by omega)]; exact uE_new (h0 := h0) 375 (k := 1) (l := 21) (by decide +kernel)]
  show (if j_k (HN 376 h0) 85 = 17 then _ else _) = _
  rw [if_pos (HKn hc (n := 376) (a := 85) (k := 17) (by decide +kernel))]
  show (if j_k (j_sR (HN 376 h0) 85 41 (some (j_c (HN 375 h0)))) 85 = 17 then _ else _) = _
  rw [show j_sR (HN 376 h0) 85 41 (some (j_c (HN 375 h0))) = (HN 377 h0) from by rw [HCn hc (n := 375) (m := 108) (by decide +kernel)]; exact uE_sR 376 (by decide +kernel)]
  show (if j_k (HN 377 h0) 85 = 17 then _ else _) = _
  rw [if_pos (HKn hc (n := 377) (a := 85) (k := 17) (by decide +kernel))]
  show (if ¬ (nI 2) < 0 ∧ (nI 2).toNatClampNeg ≤ 50000 then _ else _) = _
  rw [show j_sI (HN 377 h0) 85 42 (mI 0) = (HN 378 h0) from by exact uE_sM 377 (a := 85) (i := 42) (v := 0) (by decide +kernel)]
  show (if ¬ (nI 2) < 0 ∧ (nI 2).toNatClampNeg ≤ 50000 then _ else _) = _
  rw [if_pos (⟨by decide, by decide⟩)]
  show (if j_k (j_new (HN 378 h0) 1 (nI 2).toNatClampNeg) 85 = 17 then _ else _) = _
  rw [show j_new (HN 378 h0) 1 (nI 2).toNatClampNeg = (HN 379 h0) from by rw [show (nI 2).toNatClampNeg = 2 from ft_cl (by omega)]; exact uE_new (h0 := h0) 378 (k := 1) (l := 2) (by decide +kernel)]
  show (if j_k (HN 379 h0) 85 = 17 then _ else _) = _
  rw [if_pos (HKn hc (n := 379) (a := 85) (k := 17) (by decide +kernel))]
  show (if ¬ (nI 105) < 0 ∧ (nI 105).toNatClampNeg ≤ 50000 then _ else _) = _
  rw [show j_sR (HN 379 h0) 85 48 (some (j_c (HN 378 h0))) = (HN 380 h0) from by rw [HCn hc (n := 378) (m := 109) (by decide +kernel)]; exact uE_sR 379 (by decide +kernel)]
  show (if ¬ (nI 105) < 0 ∧ (nI 105).toNatClampNeg ≤ 50000 then _ else _) = _
  rw [if_pos (⟨by decide, by decide⟩)]
  show (if j_k (j_new (HN 380 h0) 0 (nI 105).toNatClampNeg) 85 = 17 then _ else _) = _
  rw [show j_new (HN 380 h0) 0 (nI 105).toNatClampNeg = (HN 381 h0) from by rw [show (nI 105).toNatClampNeg = 105 from ft_cl (by omega)]; exact uE_new (h0 := h0) 380 (k := 0) (l := 105) (by decide +kernel)]
  show (if j_k (HN 381 h0) 85 = 17 then _ else _) = _
  rw [if_pos (HKn hc (n := 381) (a := 85) (k := 17) (by decide +kernel))]
  show (if j_k (j_sR (HN 381 h0) 85 49 (some (j_c (HN 380 h0)))) 85 = 17 then _ else _) = _
  rw [show j_sR (HN 381 h0) 85 49 (some (j_c (HN 380 h0))) = (HN 382 h0) from by rw [HCn hc (n := 380) (m := 110) (by decide +kernel)]; exact uE_sR 381 (by decide +kernel)]
  show (if j_k (HN 382 h0) 85 = 17 then _ else _) = _
  rw [if_pos (HKn hc (n := 382) (a := 85) (k := 17) (by decide +kernel))]
  show m_M_new_1052 F 85 85 (j_sI (HN 382 h0) 85 50 (mI 0)) = _
  rw [show j_sI (HN 382 h0) 85 50 (mI 0) = (HN 383 h0) from by exact uE_sM 382 (a := 85) (i := 50) (v := 0) (by decide +kernel)]
  exact i_M_new_1052_44 F hc
theorem i_M_new_1015_43_b (F : Nat × Nat) {h0 : jH} (hc : j_c h0 = 4) (ff : jH → Option jO) : jbV (m_M_new_1015 F 85 107 85 (HN 374 h0)) ff = ff (HN 385 h0) := bV_of (i_M_new_1015_43 (F := F) (h0 := h0) (hc := hc)) ff
theorem i_M_new_975_42 (F : Nat × Nat) {h0 : jH} (hc : j_c h0 = 4) : m_M_new_975 F 85 102 85 (HN 364 h0) = some (none, HN 385 h0) := by
  rw [q_M_new_975]
  show (if j_k (HN 364 h0) 85 = 17 then _ else _) = _
  rw [if_pos (HKn hc (n := 364) (a := 85) (k := 17) (by decide +kernel))]
  show (if ¬ (nI 25) < 0 ∧ (nI 25).toNatClampNeg ≤ 50000 then _ else _) = _
  rw [show j_sR (HN 364 h0) 85 34 (some 102) = (HN 365 h0) from by exact uE_sR 364 (by decide +kernel)]
  show (if ¬ (nI 25) < 0 ∧ (nI 25).toNatClampNeg ≤ 50000 then _ else _) = _
  rw [if_pos (⟨by decide, by decide⟩)]
  show (if j_k (j_new (HN 365 h0) 0 (nI 25).toNatClampNeg) 85 = 17 then _ else _) = _
  rw [show j_new (HN 365 h0) 0 (nI 25).toNatClampNeg = (HN 366 h0) from by rw [show (nI 25).toNatClampNeg = 25 from ft_cl (by omega)]; exact uE_new (h0 := h0) 365 (k := 0) (l := 25) (by decide +kernel)]
  show (if j_k (HN 366 h0) 85 = 17 then _ else _) = _
  rw [if_pos (HKn hc (n := 366) (a := 85) (k := 17) (by decide +kernel))]
  show (if ¬ (nI 6) < 0 ∧ (nI 6).toNatClampNeg ≤ 50000 then _ else _) = _
  rw [show j_sR (HN 366 h0) 85 35 (some (j_c (HN 365 h0))) = (HN 367 h0) from by rw [HCn hc (n := 365) (m := 103) (by decide +kernel)]; exact uE_sR 366 (by decide +kernel)]
  show (if ¬ (nI 6) < 0 ∧ (nI 6).toNatClampNeg ≤ 50000 then _ else _) = _
  rw [if_pos (⟨by decide, by decide⟩)]
  show (if j_k (j_new (HN 367 h0) 0 (nI 6).toNatClampNeg) 85 = 17 then _ else _) = _
  rw [show j_new (HN 367 h0) 0 (nI 6).toNatClampNeg = (HN 368 h0) from by rw [show (nI 6).toNatClampNeg = 6 from ft_cl (by omega)]; exact uE_new (h0 := h0) 367 (k := 0) (l := 6) (by decide +kernel)]
  show (if j_k (HN 368 h0) 85 = 17 then _ else _) = _
  rw [if_pos (HKn hc (n := 368) (a := 85) (k := 17) (by decide +kernel))]
  show (if ¬ (nI 25) < 0 ∧ (nI 25).toNatClampNeg ≤ 50000 then _ else _) = _
  rw [show j_sR (HN 368 h0) 85 36 (some (j_c (HN 367 h0))) = (HN 369 h0) from by rw [HCn hc (n := 367) (m := 104) (by decide +kernel)]; exact uE_sR 368 (by decide +kernel)]
  show (if ¬ (nI 25) < 0 ∧ (nI 25).toNatClampNeg ≤ 50000 then _ else _) = _
  rw [if_pos (⟨by decide, by decide⟩)]
  show (if j_k (j_new (HN 369 h0) 0 (nI 25).toNatClampNeg) 85 = 17 then _ else _) = _
  rw [show j_new (HN 369 h0) 0 (nI 25).toNatClampNeg = (HN 370 h0) from by rw [show (nI 25).toNatClampNeg = 25 from ft_cl (by omega)]; exact uE_new (h0 := h0) 369 (k := 0) (l := 25) (by decide +kernel)]
  show (if j_k (HN 370 h0) 85 = 17 then _ else _) = _
  rw [if_pos (HKn hc (n := 370) (a := 85) (k := 17) (by decide +kernel))]
  show (if ¬ (nI 1600) < 0 ∧ (nI 1600).toNatClampNeg ≤ 50000 then _ else _) = _
  rw [show j_sR (HN 370 h0) 85 37 (some (j_c (HN 369 h0))) = (HN 371 h0) from by rw [HCn hc (n := 369) (m := 105) (by decide +kernel)]; exact uE_sR 370 (by decide +kernel)]
  show (if ¬ (nI 1600) < 0 ∧ (nI 1600).toNatClampNeg ≤ 50000 then _ else _) = _
  rw [if_pos (⟨by decide, by decide⟩)]
  show (if j_k (j_new (HN 371 h0) 0 (nI 1600).toNatClampNeg) 85 = 17 then _ else _) = _
  rw [show j_new (HN 371 h0) 0 (nI 1600).toNatClampNeg = (HN 372 h0) from by rw [show (nI 1600).toNatClampNeg = 1600 from ft_cl (by omega)]; exact uE_new (h0 := h0) 371 (k := 0) (l := 1600) (by decide +kernel)]
  show (if j_k (HN 372 h0) 85 = 17 then _ else _) = _
  rw [if_pos (HKn hc (n := 372) (a := 85) (k := 17) (by decide +kernel))]
  show (if ¬ (nI 5) < 0 ∧ (nI 5).toNatClampNeg ≤ 50000 then _ else _) = _
  rw [show j_sR (HN 372 h0) 85 38 (some (j_c (HN 371 h0))) = (HN 373 h0) from by rw [HCn hc (n := 371) (m := 106) (by decide +kernel)]; exact uE_sR 372 (by decide +kernel)]
  show (if ¬ (nI 5) < 0 ∧ (nI 5).toNatClampNeg ≤ 50000 then _ else _) = _
  rw [if_pos (⟨by decide, by decide⟩)]
  show m_M_new_1015 F 85 (j_c (HN 373 h0)) 85 (j_new (HN 373 h0) 0 (nI 5).toNatClampNeg) = _
  rw [show j_new (HN 373 h0) 0 (nI 5).toNatClampNeg = (HN 374 h0) from by rw [show (nI 5).toNatClampNeg = 5 from ft_cl (by omega)]; exact uE_new (h0 := h0) 373 (k := 0) (l := 5) (by decide +kernel)]
  rw [HCn hc (n := 373) (m := 107) (by decide +kernel)]
  exact i_M_new_1015_43 F hc
theorem i_M_new_975_42_b (F : Nat × Nat) {h0 : jH} (hc : j_c h0 = 4) (ff : jH → Option jO) : jbV (m_M_new_975 F 85 102 85 (HN 364 h0)) ff = ff (HN 385 h0) := bV_of (i_M_new_975_42 (F := F) (h0 := h0) (hc := hc)) ff
theorem i_M_new_933_41 (F : Nat × Nat) {h0 : jH} (hc : j_c h0 = 4) : m_M_new_933 F 85 97 85 (HN 354 h0) = some (none, HN 385 h0) := by
  rw [q_M_new_933]
  show (if j_k (HN 354 h0) 85 = 17 then _ else _) = _
  rw [if_pos (HKn hc (n := 354) (a := 85) (k := 17) (by decide +kernel))]
  show (if ¬ (nI 1696) < 0 ∧ (nI 1696).toNatClampNeg ≤ 50000 then _ else _) = _
  rw [show j_sR (HN 354 h0) 85 26 (some 97) = (HN 355 h0) from by exact uE_sR 354 (by decide +kernel)]
  show (if ¬ (nI 1696) < 0 ∧ (nI 1696).toNatClampNeg ≤ 50000 then _ else _) = _
  rw [if_pos (⟨by decide, by decide⟩)]
  show (if j_k (j_new (HN 355 h0) 0 (nI 1696).toNatClampNeg) 85 = 17 then _ else _) = _
  rw [show j_new (HN 355 h0) 0 (nI 1696).toNatClampNeg = (HN 356 h0) from by rw [show (nI 1696).toNatClampNeg = 1696 from ft_cl (by omega)]; exact uE_new (h0 := h0) 355 (k := 0) (l := 1696) (by decide +kernel)]
  show (if j_k (HN 356 h0) 85 = 17 then _ else _) = _
  rw [if_pos (HKn hc (n := 356) (a := 85) (k := 17) (by decide +kernel))]
  show (if ¬ (nI 1696) < 0 ∧ (nI 1696).toNatClampNeg ≤ 50000 then _ else _) = _
  rw [show j_sR (HN 356 h0) 85 29 (some (j_c (HN 355 h0))) = (HN 357 h0) from by rw [HCn hc (n := 355) (m := 98) (by decide +kernel)]; exact uE_sR 356 (by decide +kernel)]
  show (if ¬ (nI 1696) < 0 ∧ (nI 1696).toNatClampNeg ≤ 50000 then _ else _) = _
  rw [if_pos (⟨by decide, by decide⟩)]
  show (if j_k (j_new (HN 357 h0) 0 (nI 1696).toNatClampNeg) 85 = 17 then _ else _) = _
  rw [show j_new (HN 357 h0) 0 (nI 1696).toNatClampNeg = (HN 358 h0) from by rw [show (nI 1696).toNatClampNeg = 1696 from ft_cl (by omega)]; exact uE_new (h0 := h0) 357 (k := 0) (l := 1696) (by decide +kernel)]
  show (if j_k (HN 358 h0) 85 = 17 then _ else _) = _
  rw [if_pos (HKn hc (n := 358) (a := 85) (k := 17) (by decide +kernel))]
  show (if ¬ (nI 125) < 0 ∧ (nI 125).toNatClampNeg ≤ 50000 then _ else _) = _
  rw [show j_sR (HN 358 h0) 85 30 (some (j_c (HN 357 h0))) = (HN 359 h0) from by rw [HCn hc (n := 357) (m := 99) (by decide +kernel)]; exact uE_sR 358 (by decide +kernel)]
  show (if ¬ (nI 125) < 0 ∧ (nI 125).toNatClampNeg ≤ 50000 then _ else _) = _
  rw [if_pos (⟨by decide, by decide⟩)]
  show (if j_k (j_new (HN 359 h0) 0 (nI 125).toNatClampNeg) 85 = 17 then _ else _) = _
  rw [show j_new (HN 359 h0) 0 (nI 125).toNatClampNeg = (HN 360 h0) from by rw [show (nI 125).toNatClampNeg = 125 from ft_cl (by omega)]; exact uE_new (h0 := h0) 359 (k := 0) (l := 125) (by decide +kernel)]
  show (if j_k (HN 360 h0) 85 = 17 then _ else _) = _
  rw [if_pos (HKn hc (n := 360) (a := 85) (k := 17) (by decide +kernel))]
  show (if ¬ (nI 25) < 0 ∧ (nI 25).toNatClampNeg ≤ 50000 then _ else _) = _
  rw [show j_sR (HN 360 h0) 85 32 (some (j_c (HN 359 h0))) = (HN 361 h0) from by rw [HCn hc (n := 359) (m := 100) (by decide +kernel)]; exact uE_sR 360 (by decide +kernel)]
  show (if ¬ (nI 25) < 0 ∧ (nI 25).toNatClampNeg ≤ 50000 then _ else _) = _
  rw [if_pos (⟨by decide, by decide⟩)]
  show (if j_k (j_new (HN 361 h0) 0 (nI 25).toNatClampNeg) 85 = 17 then _ else _) = _
  rw [show j_new (HN 361 h0) 0 (nI 25).toNatClampNeg = (HN 362 h0) from by rw [show (nI 25).toNatClampNeg = 25 from ft_cl (by omega)]; exact uE_new (h0 := h0) 361 (k := 0) (l := 25) (by decide +kernel)]
  show (if j_k (HN 362 h0) 85 = 17 then _ else _) = _
  rw [if_pos (HKn hc (n := 362) (a := 85) (k := 17) (by decide +kernel))]
  show (if ¬ (nI 25) < 0 ∧ (nI 25).toNatClampNeg ≤ 50000 then _ else _) = _
  rw [show j_sR (HN 362 h0) 85 33 (some (j_c (HN 361 h0))) = (HN 363 h0) from by rw [HCn hc (n := 361) (m := 101) (by decide +kernel)]; exact uE_sR 362 (by decide +kernel)]
  show (if ¬ (nI 25) < 0 ∧ (nI 25).toNatClampNeg ≤ 50000 then _ else _) = _
  rw [if_pos (⟨by decide, by decide⟩)]
  show m_M_new_975 F 85 (j_c (HN 363 h0)) 85 (j_new (HN 363 h0) 0 (nI 25).toNatClampNeg) = _
  rw [show j_new (HN 363 h0) 0 (nI 25).toNatClampNeg = (HN 364 h0) from by rw [show (nI 25).toNatClampNeg = 25 from ft_cl (by omega)]; exact uE_new (h0 := h0) 363 (k := 0) (l := 25) (by decide +kernel)]
  rw [HCn hc (n := 363) (m := 102) (by decide +kernel)]
  exact i_M_new_975_42 F hc
theorem i_M_new_933_41_b (F : Nat × Nat) {h0 : jH} (hc : j_c h0 = 4) (ff : jH → Option jO) : jbV (m_M_new_933 F 85 97 85 (HN 354 h0)) ff = ff (HN 385 h0) := bV_of (i_M_new_933_41 (F := F) (h0 := h0) (hc := hc)) ff
theorem i_M_new_891_40 (F : Nat × Nat) {h0 : jH} (hc : j_c h0 = 4) : m_M_new_891 F 85 (nI 5) 85 (HN 344 h0) = some (none, HN 385 h0) := by
  rw [q_M_new_891]
  show (if ¬ (nI 5) < 0 ∧ (nI 5).toNatClampNeg ≤ 50000 then _ else _) = _
  rw [if_pos (⟨by decide, by decide⟩)]
  show (if j_k (j_new (HN 344 h0) 0 (nI 5).toNatClampNeg) 85 = 17 then _ else _) = _
  rw [show j_new (HN 344 h0) 0 (nI 5).toNatClampNeg = (HN 345 h0) from by rw [show (nI 5).toNatClampNeg = 5 from ft_cl (by omega)]; exact uE_new (h0 := h0) 344 (k := 0) (l := 5) (by decide +kernel)]
  show (if j_k (HN 345 h0) 85 = 17 then _ else _) = _
  rw [if_pos (HKn hc (n := 345) (a := 85) (k := 17) (by decide +kernel))]
  show (if j_k (j_sR (HN 345 h0) 85 12 (some (j_c (HN 344 h0)))) 85 = 17 then _ else _) = _
  rw [show j_sR (HN 345 h0) 85 12 (some (j_c (HN 344 h0))) = (HN 346 h0) from by rw [HCn hc (n := 344) (m := 93) (by decide +kernel)]; exact uE_sR 345 (by decide +kernel)]
  show (if j_k (HN 346 h0) 85 = 17 then _ else _) = _
  rw [if_pos (HKn hc (n := 346) (a := 85) (k := 17) (by decide +kernel))]
  show (if ¬ (nI 401) < 0 ∧ (nI 401).toNatClampNeg ≤ 50000 then _ else _) = _
  rw [show j_sI (HN 346 h0) 85 14 (mI 0) = (HN 347 h0) from by exact uE_sM 346 (a := 85) (i := 14) (v := 0) (by decide +kernel)]
  show (if ¬ (nI 401) < 0 ∧ (nI 401).toNatClampNeg ≤ 50000 then _ else _) = _
  rw [if_pos (⟨by decide, by decide⟩)]
  show (if j_k (j_new (HN 347 h0) 0 (nI 401).toNatClampNeg) 85 = 17 then _ else _) = _
  rw [show j_new (HN 347 h0) 0 (nI 401).toNatClampNeg = (HN 348 h0) from by rw [show (nI 401).toNatClampNeg = 401 from ft_cl (by omega)]; exact uE_new (h0 := h0) 347 (k := 0) (l := 401) (by decide +kernel)]
  show (if j_k (HN 348 h0) 85 = 17 then _ else _) = _
  rw [if_pos (HKn hc (n := 348) (a := 85) (k := 17) (by decide +kernel))]
  show (if ¬ (nI 401) < 0 ∧ (nI 401).toNatClampNeg ≤ 50000 then _ else _) = _
  rw [show j_sR (HN 348 h0) 85 15 (some (j_c (HN 347 h0))) = (HN 349 h0) from by rw [HCn hc (n := 347) (m := 94) (by decide +kernel)]; exact uE_sR 348 (by decide +kernel)]
  show (if ¬ (nI 401) < 0 ∧ (nI 401).toNatClampNeg ≤ 50000 then _ else _) = _
  rw [if_pos (⟨by decide, by decide⟩)]
  show (if j_k (j_new (HN 349 h0) 0 (nI 401).toNatClampNeg) 85 = 17 then _ else _) = _
  rw [show j_new (HN 349 h0) 0 (nI 401).toNatClampNeg = (HN 350 h0) from by rw [show (nI 401).toNatClampNeg = 401 from ft_cl (by omega)]; exact uE_new (h0 := h0) 349 (k := 0) (l := 401) (by decide +kernel)]
  show (if j_k (HN 350 h0) 85 = 17 then _ else _) = _
  rw [if_pos (HKn hc (n := 350) (a := 85) (k := 17) (by decide +kernel))]
  show (if ¬ (nI 401) < 0 ∧ (nI 401).toNatClampNeg ≤ 50000 then _ else _) = _
  rw [show j_sR (HN 350 h0) 85 16 (some (j_c (HN 349 h0))) = (HN 351 h0) from by rw [HCn hc (n := 349) (m := 95) (by decide +kernel)]; exact uE_sR 350 (by decide +kernel)]
  show (if ¬ (nI 401) < 0 ∧ (nI 401).toNatClampNeg ≤ 50000 then _ else _) = _
  rw [if_pos (⟨by decide, by decide⟩)]
  show (if j_k (j_new (HN 351 h0) 0 (nI 401).toNatClampNeg) 85 = 17 then _ else _) = _
  rw [show j_new (HN 351 h0) 0 (nI 401).toNatClampNeg = (HN 352 h0) from by rw [show (nI 401).toNatClampNeg = 401 from ft_cl (by omega)]; exact uE_new (h0 := h0) 351 (k := 0) (l := 401) (by decide +kernel)]
  show (if j_k (HN 352 h0) 85 = 17 then _ else _) = _
  rw [if_pos (HKn hc (n := 352) (a := 85) (k := 17) (by decide +kernel))]
  show (if ¬ (nI 8) < 0 ∧ (nI 8).toNatClampNeg ≤ 50000 then _ else _) = _
  rw [show j_sR (HN 352 h0) 85 17 (some (j_c (HN 351 h0))) = (HN 353 h0) from by rw [HCn hc (n := 351) (m := 96) (by decide +kernel)]; exact uE_sR 352 (by decide +kernel)]
  show (if ¬ (nI 8) < 0 ∧ (nI 8).toNatClampNeg ≤ 50000 then _ else _) = _
  rw [if_pos (⟨by decide, by decide⟩)]
  show m_M_new_933 F 85 (j_c (HN 353 h0)) 85 (j_new (HN 353 h0) 0 (nI 8).toNatClampNeg) = _
  rw [show j_new (HN 353 h0) 0 (nI 8).toNatClampNeg = (HN 354 h0) from by rw [show (nI 8).toNatClampNeg = 8 from ft_cl (by omega)]; exact uE_new (h0 := h0) 353 (k := 0) (l := 8) (by decide +kernel)]
  rw [HCn hc (n := 353) (m := 97) (by decide +kernel)]
  exact i_M_new_933_41 F hc
theorem i_M_new_891_40_b (F : Nat × Nat) {h0 : jH} (hc : j_c h0 = 4) (ff : jH → Option jO) : jbV (m_M_new_891 F 85 (nI 5) 85 (HN 344 h0)) ff = ff (HN 385 h0) := bV_of (i_M_new_891_40 (F := F) (h0 := h0) (hc := hc)) ff
theorem i_M_new_855_39 (F : Nat × Nat) {h0 : jH} (hc : j_c h0 = 4) : m_M_new_855 F 85 (nI 109) (nI 133) 91 91 85 (HN 337 h0) = some (none, HN 385 h0) := by
  rw [q_M_new_855]
  show (if j_k (HN 337 h0) 91 = 2 ∧ j_in (HN 337 h0) 91 (nI 133) then _ else _) = _
  rw [if_pos (⟨HKn hc (n := 337) (a := 91) (k := 2) (by decide +kernel), by rw [ft_in (by omega), HLn hc (n := 337) (a := 91) (l := 137) (by decide +kernel)]; omega⟩)]
  show (if j_k (j_sI (HN 337 h0) 91 ((nI 133).toNatClampNeg) (nI 109).toInt8.toInt32) 91 = 2 ∧ j_in (j_sI (HN 337 h0) 91 ((nI 133).toNatClampNeg) (nI 109).toInt8.toInt32) 91 (nI 134) then _ else _) = _
  rw [show j_sI (HN 337 h0) 91 ((nI 133).toNatClampNeg) (nI 109).toInt8.toInt32 = (HN 338 h0) from by rw [show (nI 133).toNatClampNeg = 133 from ft_cl (by omega)]; rw [show (nI 109).toInt8.toInt32 = nI 109 from by decide +kernel]; exact uE_sI 337 (a := 91) (i := 133) (v := 109) (by decide +kernel)]
  show (if j_k (HN 338 h0) 91 = 2 ∧ j_in (HN 338 h0) 91 (nI 134) then _ else _) = _
  rw [if_pos (⟨HKn hc (n := 338) (a := 91) (k := 2) (by decide +kernel), by rw [ft_in (by omega), HLn hc (n := 338) (a := 91) (l := 137) (by decide +kernel)]; omega⟩)]
  show (if j_k (j_sI (HN 338 h0) 91 ((nI 134).toNatClampNeg) (nI 101).toInt8.toInt32) 91 = 2 ∧ j_in (j_sI (HN 338 h0) 91 ((nI 134).toNatClampNeg) (nI 101).toInt8.toInt32) 91 (nI 135) then _ else _) = _
  rw [show j_sI (HN 338 h0) 91 ((nI 134).toNatClampNeg) (nI 101).toInt8.toInt32 = (HN 339 h0) from by rw [show (nI 134).toNatClampNeg = 134 from ft_cl (by omega)]; rw [show (nI 101).toInt8.toInt32 = nI 101 from by decide +kernel]; exact uE_sI 338 (a := 91) (i := 134) (v := 101) (by decide +kernel)]
  show (if j_k (HN 339 h0) 91 = 2 ∧ j_in (HN 339 h0) 91 (nI 135) then _ else _) = _
  rw [if_pos (⟨HKn hc (n := 339) (a := 91) (k := 2) (by decide +kernel), by rw [ft_in (by omega), HLn hc (n := 339) (a := 91) (l := 137) (by decide +kernel)]; omega⟩)]
  show (if j_k (j_sI (HN 339 h0) 91 ((nI 135).toNatClampNeg) (nI 115).toInt8.toInt32) 91 = 2 ∧ j_in (j_sI (HN 339 h0) 91 ((nI 135).toNatClampNeg) (nI 115).toInt8.toInt32) 91 (nI 136) then _ else _) = _
  rw [show j_sI (HN 339 h0) 91 ((nI 135).toNatClampNeg) (nI 115).toInt8.toInt32 = (HN 340 h0) from by rw [show (nI 135).toNatClampNeg = 135 from ft_cl (by omega)]; rw [show (nI 115).toInt8.toInt32 = nI 115 from by decide +kernel]; exact uE_sI 339 (a := 91) (i := 135) (v := 115) (by decide +kernel)]
  show (if j_k (HN 340 h0) 91 = 2 ∧ j_in (HN 340 h0) 91 (nI 136) then _ else _) = _
  rw [if_pos (⟨HKn hc (n := 340) (a := 91) (k := 2) (by decide +kernel), by rw [ft_in (by omega), HLn hc (n := 340) (a := 91) (l := 137) (by decide +kernel)]; omega⟩)]
  show (if j_k (j_sI (HN 340 h0) 91 ((nI 136).toNatClampNeg) (nI 32).toInt8.toInt32) 85 = 17 then _ else _) = _
  rw [show j_sI (HN 340 h0) 91 ((nI 136).toNatClampNeg) (nI 32).toInt8.toInt32 = (HN 341 h0) from by rw [show (nI 136).toNatClampNeg = 136 from ft_cl (by omega)]; rw [show (nI 32).toInt8.toInt32 = nI 32 from by decide +kernel]; exact uE_sI 340 (a := 91) (i := 136) (v := 32) (by decide +kernel)]
  show (if j_k (HN 341 h0) 85 = 17 then _ else _) = _
  rw [if_pos (HKn hc (n := 341) (a := 85) (k := 17) (by decide +kernel))]
  show (if ¬ (nI 400) < 0 ∧ (nI 400).toNatClampNeg ≤ 50000 then _ else _) = _
  rw [show j_sR (HN 341 h0) 85 7 (some 91) = (HN 342 h0) from by exact uE_sR 341 (by decide +kernel)]
  show (if ¬ (nI 400) < 0 ∧ (nI 400).toNatClampNeg ≤ 50000 then _ else _) = _
  rw [if_pos (⟨by decide, by decide⟩)]
  show (if j_k (j_new (HN 342 h0) 2 (nI 400).toNatClampNeg) 85 = 17 then _ else _) = _
  rw [show j_new (HN 342 h0) 2 (nI 400).toNatClampNeg = (HN 343 h0) from by rw [show (nI 400).toNatClampNeg = 400 from ft_cl (by omega)]; exact uE_new (h0 := h0) 342 (k := 2) (l := 400) (by decide +kernel)]
  show (if j_k (HN 343 h0) 85 = 17 then _ else _) = _
  rw [if_pos (HKn hc (n := 343) (a := 85) (k := 17) (by decide +kernel))]
  show m_M_new_891 F 85 (nI 5) 85 (j_sR (HN 343 h0) 85 11 (some (j_c (HN 342 h0)))) = _
  rw [show j_sR (HN 343 h0) 85 11 (some (j_c (HN 342 h0))) = (HN 344 h0) from by rw [HCn hc (n := 342) (m := 92) (by decide +kernel)]; exact uE_sR 343 (by decide +kernel)]
  exact i_M_new_891_40 F hc
theorem i_M_new_855_39_b (F : Nat × Nat) {h0 : jH} (hc : j_c h0 = 4) (ff : jH → Option jO) : jbV (m_M_new_855 F 85 (nI 109) (nI 133) 91 91 85 (HN 337 h0)) ff = ff (HN 385 h0) := bV_of (i_M_new_855_39 (F := F) (h0 := h0) (hc := hc)) ff
theorem i_M_new_820_38 (F : Nat × Nat) {h0 : jH} (hc : j_c h0 = 4) : m_M_new_820 F 85 (nI 115) (nI 128) 91 91 85 (HN 332 h0) = some (none, HN 385 h0) := by
  rw [q_M_new_820]
  show (if j_k (HN 332 h0) 91 = 2 ∧ j_in (HN 332 h0) 91 (nI 128) then _ else _) = _
  rw [if_pos (⟨HKn hc (n := 332) (a := 91) (k := 2) (by decide +kernel), by rw [ft_in (by omega), HLn hc (n := 332) (a := 91) (l := 137) (by decide +kernel)]; omega⟩)]
  show (if j_k (j_sI (HN 332 h0) 91 ((nI 128).toNatClampNeg) (nI 115).toInt8.toInt32) 91 = 2 ∧ j_in (j_sI (HN 332 h0) 91 ((nI 128).toNatClampNeg) (nI 115).toInt8.toInt32) 91 (nI 129) then _ else _) = _
  rw [show j_sI (HN 332 h0) 91 ((nI 128).toNatClampNeg) (nI 115).toInt8.toInt32 = (HN 333 h0) from by rw [show (nI 128).toNatClampNeg = 128 from ft_cl (by omega)]; rw [show (nI 115).toInt8.toInt32 = nI 115 from by decide +kernel]; exact uE_sI 332 (a := 91) (i := 128) (v := 115) (by decide +kernel)]
  show (if j_k (HN 333 h0) 91 = 2 ∧ j_in (HN 333 h0) 91 (nI 129) then _ else _) = _
  rw [if_pos (⟨HKn hc (n := 333) (a := 91) (k := 2) (by decide +kernel), by rw [ft_in (by omega), HLn hc (n := 333) (a := 91) (l := 137) (by decide +kernel)]; omega⟩)]
  show (if j_k (j_sI (HN 333 h0) 91 ((nI 129).toNatClampNeg) (nI 115).toInt8.toInt32) 91 = 2 ∧ j_in (j_sI (HN 333 h0) 91 ((nI 129).toNatClampNeg) (nI 115).toInt8.toInt32) 91 (nI 130) then _ else _) = _
  rw [show j_sI (HN 333 h0) 91 ((nI 129).toNatClampNeg) (nI 115).toInt8.toInt32 = (HN 334 h0) from by rw [show (nI 129).toNatClampNeg = 129 from ft_cl (by omega)]; rw [show (nI 115).toInt8.toInt32 = nI 115 from by decide +kernel]; exact uE_sI 333 (a := 91) (i := 129) (v := 115) (by decide +kernel)]
  show (if j_k (HN 334 h0) 91 = 2 ∧ j_in (HN 334 h0) 91 (nI 130) then _ else _) = _
  rw [if_pos (⟨HKn hc (n := 334) (a := 91) (k := 2) (by decide +kernel), by rw [ft_in (by omega), HLn hc (n := 334) (a := 91) (l := 137) (by decide +kernel)]; omega⟩)]
  show (if j_k (j_sI (HN 334 h0) 91 ((nI 130).toNatClampNeg) (nI 32).toInt8.toInt32) 91 = 2 ∧ j_in (j_sI (HN 334 h0) 91 ((nI 130).toNatClampNeg) (nI 32).toInt8.toInt32) 91 (nI 131) then _ else _) = _
  rw [show j_sI (HN 334 h0) 91 ((nI 130).toNatClampNeg) (nI 32).toInt8.toInt32 = (HN 335 h0) from by rw [show (nI 130).toNatClampNeg = 130 from ft_cl (by omega)]; rw [show (nI 32).toInt8.toInt32 = nI 32 from by decide +kernel]; exact uE_sI 334 (a := 91) (i := 130) (v := 32) (by decide +kernel)]
  show (if j_k (HN 335 h0) 91 = 2 ∧ j_in (HN 335 h0) 91 (nI 131) then _ else _) = _
  rw [if_pos (⟨HKn hc (n := 335) (a := 91) (k := 2) (by decide +kernel), by rw [ft_in (by omega), HLn hc (n := 335) (a := 91) (l := 137) (by decide +kernel)]; omega⟩)]
  show (if j_k (j_sI (HN 335 h0) 91 ((nI 131).toNatClampNeg) (nI 116).toInt8.toInt32) 91 = 2 ∧ j_in (j_sI (HN 335 h0) 91 ((nI 131).toNatClampNeg) (nI 116).toInt8.toInt32) 91 (nI 132) then _ else _) = _
  rw [show j_sI (HN 335 h0) 91 ((nI 131).toNatClampNeg) (nI 116).toInt8.toInt32 = (HN 336 h0) from by rw [show (nI 131).toNatClampNeg = 131 from ft_cl (by omega)]; rw [show (nI 116).toInt8.toInt32 = nI 116 from by decide +kernel]; exact uE_sI 335 (a := 91) (i := 131) (v := 116) (by decide +kernel)]
  show (if j_k (HN 336 h0) 91 = 2 ∧ j_in (HN 336 h0) 91 (nI 132) then _ else _) = _
  rw [if_pos (⟨HKn hc (n := 336) (a := 91) (k := 2) (by decide +kernel), by rw [ft_in (by omega), HLn hc (n := 336) (a := 91) (l := 137) (by decide +kernel)]; omega⟩)]
  show m_M_new_855 F 85 (nI 109) (nI 133) 91 91 85 (j_sI (HN 336 h0) 91 ((nI 132).toNatClampNeg) (nI 105).toInt8.toInt32) = _
  rw [show j_sI (HN 336 h0) 91 ((nI 132).toNatClampNeg) (nI 105).toInt8.toInt32 = (HN 337 h0) from by rw [show (nI 132).toNatClampNeg = 132 from ft_cl (by omega)]; rw [show (nI 105).toInt8.toInt32 = nI 105 from by decide +kernel]; exact uE_sI 336 (a := 91) (i := 132) (v := 105) (by decide +kernel)]
  exact i_M_new_855_39 F hc
theorem i_M_new_820_38_b (F : Nat × Nat) {h0 : jH} (hc : j_c h0 = 4) (ff : jH → Option jO) : jbV (m_M_new_820 F 85 (nI 115) (nI 128) 91 91 85 (HN 332 h0)) ff = ff (HN 385 h0) := bV_of (i_M_new_820_38 (F := F) (h0 := h0) (hc := hc)) ff
theorem i_M_new_789_37 (F : Nat × Nat) {h0 : jH} (hc : j_c h0 = 4) : m_M_new_789 F 85 (nI 111) (nI 123) 91 91 85 (HN 327 h0) = some (none, HN 385 h0) := by
  rw [q_M_new_789]
  show (if j_k (HN 327 h0) 91 = 2 ∧ j_in (HN 327 h0) 91 (nI 123) then _ else _) = _
  rw [if_pos (⟨HKn hc (n := 327) (a := 91) (k := 2) (by decide +kernel), by rw [ft_in (by omega), HLn hc (n := 327) (a := 91) (l := 137) (by decide +kernel)]; omega⟩)]
  show (if j_k (j_sI (HN 327 h0) 91 ((nI 123).toNatClampNeg) (nI 111).toInt8.toInt32) 91 = 2 ∧ j_in (j_sI (HN 327 h0) 91 ((nI 123).toNatClampNeg) (nI 111).toInt8.toInt32) 91 (nI 124) then _ else _) = _
  rw [show j_sI (HN 327 h0) 91 ((nI 123).toNatClampNeg) (nI 111).toInt8.toInt32 = (HN 328 h0) from by rw [show (nI 123).toNatClampNeg = 123 from ft_cl (by omega)]; rw [show (nI 111).toInt8.toInt32 = nI 111 from by decide +kernel]; exact uE_sI 327 (a := 91) (i := 123) (v := 111) (by decide +kernel)]
  show (if j_k (HN 328 h0) 91 = 2 ∧ j_in (HN 328 h0) 91 (nI 124) then _ else _) = _
  rw [if_pos (⟨HKn hc (n := 328) (a := 91) (k := 2) (by decide +kernel), by rw [ft_in (by omega), HLn hc (n := 328) (a := 91) (l := 137) (by decide +kernel)]; omega⟩)]
  show (if j_k (j_sI (HN 328 h0) 91 ((nI 124).toNatClampNeg) (nI 102).toInt8.toInt32) 91 = 2 ∧ j_in (j_sI (HN 328 h0) 91 ((nI 124).toNatClampNeg) (nI 102).toInt8.toInt32) 91 (nI 125) then _ else _) = _
  rw [show j_sI (HN 328 h0) 91 ((nI 124).toNatClampNeg) (nI 102).toInt8.toInt32 = (HN 329 h0) from by rw [show (nI 124).toNatClampNeg = 124 from ft_cl (by omega)]; rw [show (nI 102).toInt8.toInt32 = nI 102 from by decide +kernel]; exact uE_sI 328 (a := 91) (i := 124) (v := 102) (by decide +kernel)]
  show (if j_k (HN 329 h0) 91 = 2 ∧ j_in (HN 329 h0) 91 (nI 125) then _ else _) = _
  rw [if_pos (⟨HKn hc (n := 329) (a := 91) (k := 2) (by decide +kernel), by rw [ft_in (by omega), HLn hc (n := 329) (a := 91) (l := 137) (by decide +kernel)]; omega⟩)]
  show (if j_k (j_sI (HN 329 h0) 91 ((nI 125).toNatClampNeg) (nI 32).toInt8.toInt32) 91 = 2 ∧ j_in (j_sI (HN 329 h0) 91 ((nI 125).toNatClampNeg) (nI 32).toInt8.toInt32) 91 (nI 126) then _ else _) = _
  rw [show j_sI (HN 329 h0) 91 ((nI 125).toNatClampNeg) (nI 32).toInt8.toInt32 = (HN 330 h0) from by rw [show (nI 125).toNatClampNeg = 125 from ft_cl (by omega)]; rw [show (nI 32).toInt8.toInt32 = nI 32 from by decide +kernel]; exact uE_sI 329 (a := 91) (i := 125) (v := 32) (by decide +kernel)]
  show (if j_k (HN 330 h0) 91 = 2 ∧ j_in (HN 330 h0) 91 (nI 126) then _ else _) = _
  rw [if_pos (⟨HKn hc (n := 330) (a := 91) (k := 2) (by decide +kernel), by rw [ft_in (by omega), HLn hc (n := 330) (a := 91) (l := 137) (by decide +kernel)]; omega⟩)]
  show (if j_k (j_sI (HN 330 h0) 91 ((nI 126).toNatClampNeg) (nI 112).toInt8.toInt32) 91 = 2 ∧ j_in (j_sI (HN 330 h0) 91 ((nI 126).toNatClampNeg) (nI 112).toInt8.toInt32) 91 (nI 127) then _ else _) = _
  rw [show j_sI (HN 330 h0) 91 ((nI 126).toNatClampNeg) (nI 112).toInt8.toInt32 = (HN 331 h0) from by rw [show (nI 126).toNatClampNeg = 126 from ft_cl (by omega)]; rw [show (nI 112).toInt8.toInt32 = nI 112 from by decide +kernel]; exact uE_sI 330 (a := 91) (i := 126) (v := 112) (by decide +kernel)]
  show (if j_k (HN 331 h0) 91 = 2 ∧ j_in (HN 331 h0) 91 (nI 127) then _ else _) = _
  rw [if_pos (⟨HKn hc (n := 331) (a := 91) (k := 2) (by decide +kernel), by rw [ft_in (by omega), HLn hc (n := 331) (a := 91) (l := 137) (by decide +kernel)]; omega⟩)]
  show m_M_new_820 F 85 (nI 115) (nI 128) 91 91 85 (j_sI (HN 331 h0) 91 ((nI 127).toNatClampNeg) (nI 97).toInt8.toInt32) = _
  rw [show j_sI (HN 331 h0) 91 ((nI 127).toNatClampNeg) (nI 97).toInt8.toInt32 = (HN 332 h0) from by rw [show (nI 127).toNatClampNeg = 127 from ft_cl (by omega)]; rw [show (nI 97).toInt8.toInt32 = nI 97 from by decide +kernel]; exact uE_sI 331 (a := 91) (i := 127) (v := 97) (by decide +kernel)]
  exact i_M_new_820_38 F hc
theorem i_M_new_789_37_b (F : Nat × Nat) {h0 : jH} (hc : j_c h0 = 4) (ff : jH → Option jO) : jbV (m_M_new_789 F 85 (nI 111) (nI 123) 91 91 85 (HN 327 h0)) ff = ff (HN 385 h0) := bV_of (i_M_new_789_37 (F := F) (h0 := h0) (hc := hc)) ff
theorem i_M_new_759_36 (F : Nat × Nat) {h0 : jH} (hc : j_c h0 = 4) : m_M_new_759 F 85 (nI 109) (nI 118) 91 91 85 (HN 322 h0) = some (none, HN 385 h0) := by
  rw [q_M_new_759]
  show (if j_k (HN 322 h0) 91 = 2 ∧ j_in (HN 322 h0) 91 (nI 118) then _ else _) = _
  rw [if_pos (⟨HKn hc (n := 322) (a := 91) (k := 2) (by decide +kernel), by rw [ft_in (by omega), HLn hc (n := 322) (a := 91) (l := 137) (by decide +kernel)]; omega⟩)]
  show (if j_k (j_sI (HN 322 h0) 91 ((nI 118).toNatClampNeg) (nI 109).toInt8.toInt32) 91 = 2 ∧ j_in (j_sI (HN 322 h0) 91 ((nI 118).toNatClampNeg) (nI 109).toInt8.toInt32) 91 (nI 119) then _ else _) = _
  rw [show j_sI (HN 322 h0) 91 ((nI 118).toNatClampNeg) (nI 109).toInt8.toInt32 = (HN 323 h0) from by rw [show (nI 118).toNatClampNeg = 118 from ft_cl (by omega)]; rw [show (nI 109).toInt8.toInt32 = nI 109 from by decide +kernel]; exact uE_sI 322 (a := 91) (i := 118) (v := 109) (by decide +kernel)]
  show (if j_k (HN 323 h0) 91 = 2 ∧ j_in (HN 323 h0) 91 (nI 119) then _ else _) = _
  rw [if_pos (⟨HKn hc (n := 323) (a := 91) (k := 2) (by decide +kernel), by rw [ft_in (by omega), HLn hc (n := 323) (a := 91) (l := 137) (by decide +kernel)]; omega⟩)]
  show (if j_k (j_sI (HN 323 h0) 91 ((nI 119).toNatClampNeg) (nI 101).toInt8.toInt32) 91 = 2 ∧ j_in (j_sI (HN 323 h0) 91 ((nI 119).toNatClampNeg) (nI 101).toInt8.toInt32) 91 (nI 120) then _ else _) = _
  rw [show j_sI (HN 323 h0) 91 ((nI 119).toNatClampNeg) (nI 101).toInt8.toInt32 = (HN 324 h0) from by rw [show (nI 119).toNatClampNeg = 119 from ft_cl (by omega)]; rw [show (nI 101).toInt8.toInt32 = nI 101 from by decide +kernel]; exact uE_sI 323 (a := 91) (i := 119) (v := 101) (by decide +kernel)]
  show (if j_k (HN 324 h0) 91 = 2 ∧ j_in (HN 324 h0) 91 (nI 120) then _ else _) = _
  rw [if_pos (⟨HKn hc (n := 324) (a := 91) (k := 2) (by decide +kernel), by rw [ft_in (by omega), HLn hc (n := 324) (a := 91) (l := 137) (by decide +kernel)]; omega⟩)]
  show (if j_k (j_sI (HN 324 h0) 91 ((nI 120).toNatClampNeg) (nI 97).toInt8.toInt32) 91 = 2 ∧ j_in (j_sI (HN 324 h0) 91 ((nI 120).toNatClampNeg) (nI 97).toInt8.toInt32) 91 (nI 121) then _ else _) = _
  rw [show j_sI (HN 324 h0) 91 ((nI 120).toNatClampNeg) (nI 97).toInt8.toInt32 = (HN 325 h0) from by rw [show (nI 120).toNatClampNeg = 120 from ft_cl (by omega)]; rw [show (nI 97).toInt8.toInt32 = nI 97 from by decide +kernel]; exact uE_sI 324 (a := 91) (i := 120) (v := 97) (by decide +kernel)]
  show (if j_k (HN 325 h0) 91 = 2 ∧ j_in (HN 325 h0) 91 (nI 121) then _ else _) = _
  rw [if_pos (⟨HKn hc (n := 325) (a := 91) (k := 2) (by decide +kernel), by rw [ft_in (by omega), HLn hc (n := 325) (a := 91) (l := 137) (by decide +kernel)]; omega⟩)]
  show (if j_k (j_sI (HN 325 h0) 91 ((nI 121).toNatClampNeg) (nI 114).toInt8.toInt32) 91 = 2 ∧ j_in (j_sI (HN 325 h0) 91 ((nI 121).toNatClampNeg) (nI 114).toInt8.toInt32) 91 (nI 122) then _ else _) = _
  rw [show j_sI (HN 325 h0) 91 ((nI 121).toNatClampNeg) (nI 114).toInt8.toInt32 = (HN 326 h0) from by rw [show (nI 121).toNatClampNeg = 121 from ft_cl (by omega)]; rw [show (nI 114).toInt8.toInt32 = nI 114 from by decide +kernel]; exact uE_sI 325 (a := 91) (i := 121) (v := 114) (by decide +kernel)]
  show (if j_k (HN 326 h0) 91 = 2 ∧ j_in (HN 326 h0) 91 (nI 122) then _ else _) = _
  rw [if_pos (⟨HKn hc (n := 326) (a := 91) (k := 2) (by decide +kernel), by rw [ft_in (by omega), HLn hc (n := 326) (a := 91) (l := 137) (by decide +kernel)]; omega⟩)]
  show m_M_new_789 F 85 (nI 111) (nI 123) 91 91 85 (j_sI (HN 326 h0) 91 ((nI 122).toNatClampNeg) (nI 32).toInt8.toInt32) = _
  rw [show j_sI (HN 326 h0) 91 ((nI 122).toNatClampNeg) (nI 32).toInt8.toInt32 = (HN 327 h0) from by rw [show (nI 122).toNatClampNeg = 122 from ft_cl (by omega)]; rw [show (nI 32).toInt8.toInt32 = nI 32 from by decide +kernel]; exact uE_sI 326 (a := 91) (i := 122) (v := 32) (by decide +kernel)]
  exact i_M_new_789_37 F hc
theorem i_M_new_759_36_b (F : Nat × Nat) {h0 : jH} (hc : j_c h0 = 4) (ff : jH → Option jO) : jbV (m_M_new_759 F 85 (nI 109) (nI 118) 91 91 85 (HN 322 h0)) ff = ff (HN 385 h0) := bV_of (i_M_new_759_36 (F := F) (h0 := h0) (hc := hc)) ff
theorem i_M_new_729_35 (F : Nat × Nat) {h0 : jH} (hc : j_c h0 = 4) : m_M_new_729 F 85 (nI 105) (nI 113) 91 91 85 (HN 317 h0) = some (none, HN 385 h0) := by
  rw [q_M_new_729]
  show (if j_k (HN 317 h0) 91 = 2 ∧ j_in (HN 317 h0) 91 (nI 113) then _ else _) = _
  rw [if_pos (⟨HKn hc (n := 317) (a := 91) (k := 2) (by decide +kernel), by rw [ft_in (by omega), HLn hc (n := 317) (a := 91) (l := 137) (by decide +kernel)]; omega⟩)]
  show (if j_k (j_sI (HN 317 h0) 91 ((nI 113).toNatClampNeg) (nI 105).toInt8.toInt32) 91 = 2 ∧ j_in (j_sI (HN 317 h0) 91 ((nI 113).toNatClampNeg) (nI 105).toInt8.toInt32) 91 (nI 114) then _ else _) = _
  rw [show j_sI (HN 317 h0) 91 ((nI 113).toNatClampNeg) (nI 105).toInt8.toInt32 = (HN 318 h0) from by rw [show (nI 113).toNatClampNeg = 113 from ft_cl (by omega)]; rw [show (nI 105).toInt8.toInt32 = nI 105 from by decide +kernel]; exact uE_sI 317 (a := 91) (i := 113) (v := 105) (by decide +kernel)]
  show (if j_k (HN 318 h0) 91 = 2 ∧ j_in (HN 318 h0) 91 (nI 114) then _ else _) = _
  rw [if_pos (⟨HKn hc (n := 318) (a := 91) (k := 2) (by decide +kernel), by rw [ft_in (by omega), HLn hc (n := 318) (a := 91) (l := 137) (by decide +kernel)]; omega⟩)]
  show (if j_k (j_sI (HN 318 h0) 91 ((nI 114).toNatClampNeg) (nI 116).toInt8.toInt32) 91 = 2 ∧ j_in (j_sI (HN 318 h0) 91 ((nI 114).toNatClampNeg) (nI 116).toInt8.toInt32) 91 (nI 115) then _ else _) = _
  rw [show j_sI (HN 318 h0) 91 ((nI 114).toNatClampNeg) (nI 116).toInt8.toInt32 = (HN 319 h0) from by rw [show (nI 114).toNatClampNeg = 114 from ft_cl (by omega)]; rw [show (nI 116).toInt8.toInt32 = nI 116 from by decide +kernel]; exact uE_sI 318 (a := 91) (i := 114) (v := 116) (by decide +kernel)]
  show (if j_k (HN 319 h0) 91 = 2 ∧ j_in (HN 319 h0) 91 (nI 115) then _ else _) = _
  rw [if_pos (⟨HKn hc (n := 319) (a := 91) (k := 2) (by decide +kernel), by rw [ft_in (by omega), HLn hc (n := 319) (a := 91) (l := 137) (by decide +kernel)]; omega⟩)]
  show (if j_k (j_sI (HN 319 h0) 91 ((nI 115).toNatClampNeg) (nI 104).toInt8.toInt32) 91 = 2 ∧ j_in (j_sI (HN 319 h0) 91 ((nI 115).toNatClampNeg) (nI 104).toInt8.toInt32) 91 (nI 116) then _ else _) = _
  rw [show j_sI (HN 319 h0) 91 ((nI 115).toNatClampNeg) (nI 104).toInt8.toInt32 = (HN 320 h0) from by rw [show (nI 115).toNatClampNeg = 115 from ft_cl (by omega)]; rw [show (nI 104).toInt8.toInt32 = nI 104 from by decide +kernel]; exact uE_sI 319 (a := 91) (i := 115) (v := 104) (by decide +kernel)]
  show (if j_k (HN 320 h0) 91 = 2 ∧ j_in (HN 320 h0) 91 (nI 116) then _ else _) = _
  rw [if_pos (⟨HKn hc (n := 320) (a := 91) (k := 2) (by decide +kernel), by rw [ft_in (by omega), HLn hc (n := 320) (a := 91) (l := 137) (by decide +kernel)]; omega⟩)]
  show (if j_k (j_sI (HN 320 h0) 91 ((nI 116).toNatClampNeg) (nI 32).toInt8.toInt32) 91 = 2 ∧ j_in (j_sI (HN 320 h0) 91 ((nI 116).toNatClampNeg) (nI 32).toInt8.toInt32) 91 (nI 117) then _ else _) = _
  rw [show j_sI (HN 320 h0) 91 ((nI 116).toNatClampNeg) (nI 32).toInt8.toInt32 = (HN 321 h0) from by rw [show (nI 116).toNatClampNeg = 116 from ft_cl (by omega)]; rw [show (nI 32).toInt8.toInt32 = nI 32 from by decide +kernel]; exact uE_sI 320 (a := 91) (i := 116) (v := 32) (by decide +kernel)]
  show (if j_k (HN 321 h0) 91 = 2 ∧ j_in (HN 321 h0) 91 (nI 117) then _ else _) = _
  rw [if_pos (⟨HKn hc (n := 321) (a := 91) (k := 2) (by decide +kernel), by rw [ft_in (by omega), HLn hc (n := 321) (a := 91) (l := 137) (by decide +kernel)]; omega⟩)]
  show m_M_new_759 F 85 (nI 109) (nI 118) 91 91 85 (j_sI (HN 321 h0) 91 ((nI 117).toNatClampNeg) (nI 115).toInt8.toInt32) = _
  rw [show j_sI (HN 321 h0) 91 ((nI 117).toNatClampNeg) (nI 115).toInt8.toInt32 = (HN 322 h0) from by rw [show (nI 117).toNatClampNeg = 117 from ft_cl (by omega)]; rw [show (nI 115).toInt8.toInt32 = nI 115 from by decide +kernel]; exact uE_sI 321 (a := 91) (i := 117) (v := 115) (by decide +kernel)]
  exact i_M_new_759_36 F hc
theorem i_M_new_729_35_b (F : Nat × Nat) {h0 : jH} (hc : j_c h0 = 4) (ff : jH → Option jO) : jbV (m_M_new_729 F 85 (nI 105) (nI 113) 91 91 85 (HN 317 h0)) ff = ff (HN 385 h0) := bV_of (i_M_new_729_35 (F := F) (h0 := h0) (hc := hc)) ff
theorem i_M_new_699_34 (F : Nat × Nat) {h0 : jH} (hc : j_c h0 = 4) : m_M_new_699 F 85 (nI 111) (nI 108) 91 91 85 (HN 312 h0) = some (none, HN 385 h0) := by
  rw [q_M_new_699]
  show (if j_k (HN 312 h0) 91 = 2 ∧ j_in (HN 312 h0) 91 (nI 108) then _ else _) = _
  rw [if_pos (⟨HKn hc (n := 312) (a := 91) (k := 2) (by decide +kernel), by rw [ft_in (by omega), HLn hc (n := 312) (a := 91) (l := 137) (by decide +kernel)]; omega⟩)]
  show (if j_k (j_sI (HN 312 h0) 91 ((nI 108).toNatClampNeg) (nI 111).toInt8.toInt32) 91 = 2 ∧ j_in (j_sI (HN 312 h0) 91 ((nI 108).toNatClampNeg) (nI 111).toInt8.toInt32) 91 (nI 109) then _ else _) = _
  rw [show j_sI (HN 312 h0) 91 ((nI 108).toNatClampNeg) (nI 111).toInt8.toInt32 = (HN 313 h0) from by rw [show (nI 108).toNatClampNeg = 108 from ft_cl (by omega)]; rw [show (nI 111).toInt8.toInt32 = nI 111 from by decide +kernel]; exact uE_sI 312 (a := 91) (i := 108) (v := 111) (by decide +kernel)]
  show (if j_k (HN 313 h0) 91 = 2 ∧ j_in (HN 313 h0) 91 (nI 109) then _ else _) = _
  rw [if_pos (⟨HKn hc (n := 313) (a := 91) (k := 2) (by decide +kernel), by rw [ft_in (by omega), HLn hc (n := 313) (a := 91) (l := 137) (by decide +kernel)]; omega⟩)]
  show (if j_k (j_sI (HN 313 h0) 91 ((nI 109).toNatClampNeg) (nI 105).toInt8.toInt32) 91 = 2 ∧ j_in (j_sI (HN 313 h0) 91 ((nI 109).toNatClampNeg) (nI 105).toInt8.toInt32) 91 (nI 110) then _ else _) = _
  rw [show j_sI (HN 313 h0) 91 ((nI 109).toNatClampNeg) (nI 105).toInt8.toInt32 = (HN 314 h0) from by rw [show (nI 109).toNatClampNeg = 109 from ft_cl (by omega)]; rw [show (nI 105).toInt8.toInt32 = nI 105 from by decide +kernel]; exact uE_sI 313 (a := 91) (i := 109) (v := 105) (by decide +kernel)]
  show (if j_k (HN 314 h0) 91 = 2 ∧ j_in (HN 314 h0) 91 (nI 110) then _ else _) = _
  rw [if_pos (⟨HKn hc (n := 314) (a := 91) (k := 2) (by decide +kernel), by rw [ft_in (by omega), HLn hc (n := 314) (a := 91) (l := 137) (by decide +kernel)]; omega⟩)]
  show (if j_k (j_sI (HN 314 h0) 91 ((nI 110).toNatClampNeg) (nI 110).toInt8.toInt32) 91 = 2 ∧ j_in (j_sI (HN 314 h0) 91 ((nI 110).toNatClampNeg) (nI 110).toInt8.toInt32) 91 (nI 111) then _ else _) = _
  rw [show j_sI (HN 314 h0) 91 ((nI 110).toNatClampNeg) (nI 110).toInt8.toInt32 = (HN 315 h0) from by rw [show (nI 110).toNatClampNeg = 110 from ft_cl (by omega)]; rw [show (nI 110).toInt8.toInt32 = nI 110 from by decide +kernel]; exact uE_sI 314 (a := 91) (i := 110) (v := 110) (by decide +kernel)]
  show (if j_k (HN 315 h0) 91 = 2 ∧ j_in (HN 315 h0) 91 (nI 111) then _ else _) = _
  rw [if_pos (⟨HKn hc (n := 315) (a := 91) (k := 2) (by decide +kernel), by rw [ft_in (by omega), HLn hc (n := 315) (a := 91) (l := 137) (by decide +kernel)]; omega⟩)]
  show (if j_k (j_sI (HN 315 h0) 91 ((nI 111).toNatClampNeg) (nI 32).toInt8.toInt32) 91 = 2 ∧ j_in (j_sI (HN 315 h0) 91 ((nI 111).toNatClampNeg) (nI 32).toInt8.toInt32) 91 (nI 112) then _ else _) = _
  rw [show j_sI (HN 315 h0) 91 ((nI 111).toNatClampNeg) (nI 32).toInt8.toInt32 = (HN 316 h0) from by rw [show (nI 111).toNatClampNeg = 111 from ft_cl (by omega)]; rw [show (nI 32).toInt8.toInt32 = nI 32 from by decide +kernel]; exact uE_sI 315 (a := 91) (i := 111) (v := 32) (by decide +kernel)]
  show (if j_k (HN 316 h0) 91 = 2 ∧ j_in (HN 316 h0) 91 (nI 112) then _ else _) = _
  rw [if_pos (⟨HKn hc (n := 316) (a := 91) (k := 2) (by decide +kernel), by rw [ft_in (by omega), HLn hc (n := 316) (a := 91) (l := 137) (by decide +kernel)]; omega⟩)]
  show m_M_new_729 F 85 (nI 105) (nI 113) 91 91 85 (j_sI (HN 316 h0) 91 ((nI 112).toNatClampNeg) (nI 119).toInt8.toInt32) = _
  rw [show j_sI (HN 316 h0) 91 ((nI 112).toNatClampNeg) (nI 119).toInt8.toInt32 = (HN 317 h0) from by rw [show (nI 112).toNatClampNeg = 112 from ft_cl (by omega)]; rw [show (nI 119).toInt8.toInt32 = nI 119 from by decide +kernel]; exact uE_sI 316 (a := 91) (i := 112) (v := 119) (by decide +kernel)]
  exact i_M_new_729_35 F hc
theorem i_M_new_699_34_b (F : Nat × Nat) {h0 : jH} (hc : j_c h0 = 4) (ff : jH → Option jO) : jbV (m_M_new_699 F 85 (nI 111) (nI 108) 91 91 85 (HN 312 h0)) ff = ff (HN 385 h0) := bV_of (i_M_new_699_34 (F := F) (h0 := h0) (hc := hc)) ff
theorem i_M_new_669_33 (F : Nat × Nat) {h0 : jH} (hc : j_c h0 = 4) : m_M_new_669 F 85 (nI 32) (nI 103) 91 91 85 (HN 307 h0) = some (none, HN 385 h0) := by
  rw [q_M_new_669]
  show (if j_k (HN 307 h0) 91 = 2 ∧ j_in (HN 307 h0) 91 (nI 103) then _ else _) = _
  rw [if_pos (⟨HKn hc (n := 307) (a := 91) (k := 2) (by decide +kernel), by rw [ft_in (by omega), HLn hc (n := 307) (a := 91) (l := 137) (by decide +kernel)]; omega⟩)]
  show (if j_k (j_sI (HN 307 h0) 91 ((nI 103).toNatClampNeg) (nI 32).toInt8.toInt32) 91 = 2 ∧ j_in (j_sI (HN 307 h0) 91 ((nI 103).toNatClampNeg) (nI 32).toInt8.toInt32) 91 (nI 104) then _ else _) = _
  rw [show j_sI (HN 307 h0) 91 ((nI 103).toNatClampNeg) (nI 32).toInt8.toInt32 = (HN 308 h0) from by rw [show (nI 103).toNatClampNeg = 103 from ft_cl (by omega)]; rw [show (nI 32).toInt8.toInt32 = nI 32 from by decide +kernel]; exact uE_sI 307 (a := 91) (i := 103) (v := 32) (by decide +kernel)]
  show (if j_k (HN 308 h0) 91 = 2 ∧ j_in (HN 308 h0) 91 (nI 104) then _ else _) = _
  rw [if_pos (⟨HKn hc (n := 308) (a := 91) (k := 2) (by decide +kernel), by rw [ft_in (by omega), HLn hc (n := 308) (a := 91) (l := 137) (by decide +kernel)]; omega⟩)]
  show (if j_k (j_sI (HN 308 h0) 91 ((nI 104).toNatClampNeg) (nI 116).toInt8.toInt32) 91 = 2 ∧ j_in (j_sI (HN 308 h0) 91 ((nI 104).toNatClampNeg) (nI 116).toInt8.toInt32) 91 (nI 105) then _ else _) = _
  rw [show j_sI (HN 308 h0) 91 ((nI 104).toNatClampNeg) (nI 116).toInt8.toInt32 = (HN 309 h0) from by rw [show (nI 104).toNatClampNeg = 104 from ft_cl (by omega)]; rw [show (nI 116).toInt8.toInt32 = nI 116 from by decide +kernel]; exact uE_sI 308 (a := 91) (i := 104) (v := 116) (by decide +kernel)]
  show (if j_k (HN 309 h0) 91 = 2 ∧ j_in (HN 309 h0) 91 (nI 105) then _ else _) = _
  rw [if_pos (⟨HKn hc (n := 309) (a := 91) (k := 2) (by decide +kernel), by rw [ft_in (by omega), HLn hc (n := 309) (a := 91) (l := 137) (by decide +kernel)]; omega⟩)]
  show (if j_k (j_sI (HN 309 h0) 91 ((nI 105).toNatClampNeg) (nI 111).toInt8.toInt32) 91 = 2 ∧ j_in (j_sI (HN 309 h0) 91 ((nI 105).toNatClampNeg) (nI 111).toInt8.toInt32) 91 (nI 106) then _ else _) = _
  rw [show j_sI (HN 309 h0) 91 ((nI 105).toNatClampNeg) (nI 111).toInt8.toInt32 = (HN 310 h0) from by rw [show (nI 105).toNatClampNeg = 105 from ft_cl (by omega)]; rw [show (nI 111).toInt8.toInt32 = nI 111 from by decide +kernel]; exact uE_sI 309 (a := 91) (i := 105) (v := 111) (by decide +kernel)]
  show (if j_k (HN 310 h0) 91 = 2 ∧ j_in (HN 310 h0) 91 (nI 106) then _ else _) = _
  rw [if_pos (⟨HKn hc (n := 310) (a := 91) (k := 2) (by decide +kernel), by rw [ft_in (by omega), HLn hc (n := 310) (a := 91) (l := 137) (by decide +kernel)]; omega⟩)]
  show (if j_k (j_sI (HN 310 h0) 91 ((nI 106).toNatClampNeg) (nI 32).toInt8.toInt32) 91 = 2 ∧ j_in (j_sI (HN 310 h0) 91 ((nI 106).toNatClampNeg) (nI 32).toInt8.toInt32) 91 (nI 107) then _ else _) = _
  rw [show j_sI (HN 310 h0) 91 ((nI 106).toNatClampNeg) (nI 32).toInt8.toInt32 = (HN 311 h0) from by rw [show (nI 106).toNatClampNeg = 106 from ft_cl (by omega)]; rw [show (nI 32).toInt8.toInt32 = nI 32 from by decide +kernel]; exact uE_sI 310 (a := 91) (i := 106) (v := 32) (by decide +kernel)]
  show (if j_k (HN 311 h0) 91 = 2 ∧ j_in (HN 311 h0) 91 (nI 107) then _ else _) = _
  rw [if_pos (⟨HKn hc (n := 311) (a := 91) (k := 2) (by decide +kernel), by rw [ft_in (by omega), HLn hc (n := 311) (a := 91) (l := 137) (by decide +kernel)]; omega⟩)]
  show m_M_new_699 F 85 (nI 111) (nI 108) 91 91 85 (j_sI (HN 311 h0) 91 ((nI 107).toNatClampNeg) (nI 106).toInt8.toInt32) = _
  rw [show j_sI (HN 311 h0) 91 ((nI 107).toNatClampNeg) (nI 106).toInt8.toInt32 = (HN 312 h0) from by rw [show (nI 107).toNatClampNeg = 107 from ft_cl (by omega)]; rw [show (nI 106).toInt8.toInt32 = nI 106 from by decide +kernel]; exact uE_sI 311 (a := 91) (i := 107) (v := 106) (by decide +kernel)]
  exact i_M_new_699_34 F hc
theorem i_M_new_669_33_b (F : Nat × Nat) {h0 : jH} (hc : j_c h0 = 4) (ff : jH → Option jO) : jbV (m_M_new_669 F 85 (nI 32) (nI 103) 91 91 85 (HN 307 h0)) ff = ff (HN 385 h0) := bV_of (i_M_new_669_33 (F := F) (h0 := h0) (hc := hc)) ff
theorem i_M_new_639_32 (F : Nat × Nat) {h0 : jH} (hc : j_c h0 = 4) : m_M_new_639 F 85 (nI 32) (nI 98) 91 91 85 (HN 302 h0) = some (none, HN 385 h0) := by
  rw [q_M_new_639]
  show (if j_k (HN 302 h0) 91 = 2 ∧ j_in (HN 302 h0) 91 (nI 98) then _ else _) = _
  rw [if_pos (⟨HKn hc (n := 302) (a := 91) (k := 2) (by decide +kernel), by rw [ft_in (by omega), HLn hc (n := 302) (a := 91) (l := 137) (by decide +kernel)]; omega⟩)]
  show (if j_k (j_sI (HN 302 h0) 91 ((nI 98).toNatClampNeg) (nI 32).toInt8.toInt32) 91 = 2 ∧ j_in (j_sI (HN 302 h0) 91 ((nI 98).toNatClampNeg) (nI 32).toInt8.toInt32) 91 (nI 99) then _ else _) = _
  rw [show j_sI (HN 302 h0) 91 ((nI 98).toNatClampNeg) (nI 32).toInt8.toInt32 = (HN 303 h0) from by rw [show (nI 98).toNatClampNeg = 98 from ft_cl (by omega)]; rw [show (nI 32).toInt8.toInt32 = nI 32 from by decide +kernel]; exact uE_sI 302 (a := 91) (i := 98) (v := 32) (by decide +kernel)]
  show (if j_k (HN 303 h0) 91 = 2 ∧ j_in (HN 303 h0) 91 (nI 99) then _ else _) = _
  rw [if_pos (⟨HKn hc (n := 303) (a := 91) (k := 2) (by decide +kernel), by rw [ft_in (by omega), HLn hc (n := 303) (a := 91) (l := 137) (by decide +kernel)]; omega⟩)]
  show (if j_k (j_sI (HN 303 h0) 91 ((nI 99).toNatClampNeg) (nI 115).toInt8.toInt32) 91 = 2 ∧ j_in (j_sI (HN 303 h0) 91 ((nI 99).toNatClampNeg) (nI 115).toInt8.toInt32) 91 (nI 100) then _ else _) = _
  rw [show j_sI (HN 303 h0) 91 ((nI 99).toNatClampNeg) (nI 115).toInt8.toInt32 = (HN 304 h0) from by rw [show (nI 99).toNatClampNeg = 99 from ft_cl (by omega)]; rw [show (nI 115).toInt8.toInt32 = nI 115 from by decide +kernel]; exact uE_sI 303 (a := 91) (i := 99) (v := 115) (by decide +kernel)]
  show (if j_k (HN 304 h0) 91 = 2 ∧ j_in (HN 304 h0) 91 (nI 100) then _ else _) = _
  rw [if_pos (⟨HKn hc (n := 304) (a := 91) (k := 2) (by decide +kernel), by rw [ft_in (by omega), HLn hc (n := 304) (a := 91) (l := 137) (by decide +kernel)]; omega⟩)]
  show (if j_k (j_sI (HN 304 h0) 91 ((nI 100).toNatClampNeg) (nI 116).toInt8.toInt32) 91 = 2 ∧ j_in (j_sI (HN 304 h0) 91 ((nI 100).toNatClampNeg) (nI 116).toInt8.toInt32) 91 (nI 101) then _ else _) = _
  rw [show j_sI (HN 304 h0) 91 ((nI 100).toNatClampNeg) (nI 116).toInt8.toInt32 = (HN 305 h0) from by rw [show (nI 100).toNatClampNeg = 100 from ft_cl (by omega)]; rw [show (nI 116).toInt8.toInt32 = nI 116 from by decide +kernel]; exact uE_sI 304 (a := 91) (i := 100) (v := 116) (by decide +kernel)]
  show (if j_k (HN 305 h0) 91 = 2 ∧ j_in (HN 305 h0) 91 (nI 101) then _ else _) = _
  rw [if_pos (⟨HKn hc (n := 305) (a := 91) (k := 2) (by decide +kernel), by rw [ft_in (by omega), HLn hc (n := 305) (a := 91) (l := 137) (by decide +kernel)]; omega⟩)]
  show (if j_k (j_sI (HN 305 h0) 91 ((nI 101).toNatClampNeg) (nI 101).toInt8.toInt32) 91 = 2 ∧ j_in (j_sI (HN 305 h0) 91 ((nI 101).toNatClampNeg) (nI 101).toInt8.toInt32) 91 (nI 102) then _ else _) = _
  rw [show j_sI (HN 305 h0) 91 ((nI 101).toNatClampNeg) (nI 101).toInt8.toInt32 = (HN 306 h0) from by rw [show (nI 101).toNatClampNeg = 101 from ft_cl (by omega)]; rw [show (nI 101).toInt8.toInt32 = nI 101 from by decide +kernel]; exact uE_sI 305 (a := 91) (i := 101) (v := 101) (by decide +kernel)]
  show (if j_k (HN 306 h0) 91 = 2 ∧ j_in (HN 306 h0) 91 (nI 102) then _ else _) = _
  rw [if_pos (⟨HKn hc (n := 306) (a := 91) (k := 2) (by decide +kernel), by rw [ft_in (by omega), HLn hc (n := 306) (a := 91) (l := 137) (by decide +kernel)]; omega⟩)]
  show m_M_new_669 F 85 (nI 32) (nI 103) 91 91 85 (j_sI (HN 306 h0) 91 ((nI 102).toNatClampNeg) (nI 112).toInt8.toInt32) = _
  rw [show j_sI (HN 306 h0) 91 ((nI 102).toNatClampNeg) (nI 112).toInt8.toInt32 = (HN 307 h0) from by rw [show (nI 102).toNatClampNeg = 102 from ft_cl (by omega)]; rw [show (nI 112).toInt8.toInt32 = nI 112 from by decide +kernel]; exact uE_sI 306 (a := 91) (i := 102) (v := 112) (by decide +kernel)]
  exact i_M_new_669_33 F hc
theorem i_M_new_639_32_b (F : Nat × Nat) {h0 : jH} (hc : j_c h0 = 4) (ff : jH → Option jO) : jbV (m_M_new_639 F 85 (nI 32) (nI 98) 91 91 85 (HN 302 h0)) ff = ff (HN 385 h0) := bV_of (i_M_new_639_32 (F := F) (h0 := h0) (hc := hc)) ff
theorem i_M_new_609_31 (F : Nat × Nat) {h0 : jH} (hc : j_c h0 = 4) : m_M_new_609 F 85 (nI 97) (nI 93) 91 91 85 (HN 297 h0) = some (none, HN 385 h0) := by
  rw [q_M_new_609]
  show (if j_k (HN 297 h0) 91 = 2 ∧ j_in (HN 297 h0) 91 (nI 93) then _ else _) = _
  rw [if_pos (⟨HKn hc (n := 297) (a := 91) (k := 2) (by decide +kernel), by rw [ft_in (by omega), HLn hc (n := 297) (a := 91) (l := 137) (by decide +kernel)]; omega⟩)]
  show (if j_k (j_sI (HN 297 h0) 91 ((nI 93).toNatClampNeg) (nI 97).toInt8.toInt32) 91 = 2 ∧ j_in (j_sI (HN 297 h0) 91 ((nI 93).toNatClampNeg) (nI 97).toInt8.toInt32) 91 (nI 94) then _ else _) = _
  rw [show j_sI (HN 297 h0) 91 ((nI 93).toNatClampNeg) (nI 97).toInt8.toInt32 = (HN 298 h0) from by rw [show (nI 93).toNatClampNeg = 93 from ft_cl (by omega)]; rw [show (nI 97).toInt8.toInt32 = nI 97 from by decide +kernel]; exact uE_sI 297 (a := 91) (i := 93) (v := 97) (by decide +kernel)]
  show (if j_k (HN 298 h0) 91 = 2 ∧ j_in (HN 298 h0) 91 (nI 94) then _ else _) = _
  rw [if_pos (⟨HKn hc (n := 298) (a := 91) (k := 2) (by decide +kernel), by rw [ft_in (by omega), HLn hc (n := 298) (a := 91) (l := 137) (by decide +kernel)]; omega⟩)]
  show (if j_k (j_sI (HN 298 h0) 91 ((nI 94).toNatClampNeg) (nI 112).toInt8.toInt32) 91 = 2 ∧ j_in (j_sI (HN 298 h0) 91 ((nI 94).toNatClampNeg) (nI 112).toInt8.toInt32) 91 (nI 95) then _ else _) = _
  rw [show j_sI (HN 298 h0) 91 ((nI 94).toNatClampNeg) (nI 112).toInt8.toInt32 = (HN 299 h0) from by rw [show (nI 94).toNatClampNeg = 94 from ft_cl (by omega)]; rw [show (nI 112).toInt8.toInt32 = nI 112 from by decide +kernel]; exact uE_sI 298 (a := 91) (i := 94) (v := 112) (by decide +kernel)]
  show (if j_k (HN 299 h0) 91 = 2 ∧ j_in (HN 299 h0) 91 (nI 95) then _ else _) = _
  rw [if_pos (⟨HKn hc (n := 299) (a := 91) (k := 2) (by decide +kernel), by rw [ft_in (by omega), HLn hc (n := 299) (a := 91) (l := 137) (by decide +kernel)]; omega⟩)]
  show (if j_k (j_sI (HN 299 h0) 91 ((nI 95).toNatClampNeg) (nI 112).toInt8.toInt32) 91 = 2 ∧ j_in (j_sI (HN 299 h0) 91 ((nI 95).toNatClampNeg) (nI 112).toInt8.toInt32) 91 (nI 96) then _ else _) = _
  rw [show j_sI (HN 299 h0) 91 ((nI 95).toNatClampNeg) (nI 112).toInt8.toInt32 = (HN 300 h0) from by rw [show (nI 95).toNatClampNeg = 95 from ft_cl (by omega)]; rw [show (nI 112).toInt8.toInt32 = nI 112 from by decide +kernel]; exact uE_sI 299 (a := 91) (i := 95) (v := 112) (by decide +kernel)]
  show (if j_k (HN 300 h0) 91 = 2 ∧ j_in (HN 300 h0) 91 (nI 96) then _ else _) = _
  rw [if_pos (⟨HKn hc (n := 300) (a := 91) (k := 2) (by decide +kernel), by rw [ft_in (by omega), HLn hc (n := 300) (a := 91) (l := 137) (by decide +kernel)]; omega⟩)]
  show (if j_k (j_sI (HN 300 h0) 91 ((nI 96).toNatClampNeg) (nI 101).toInt8.toInt32) 91 = 2 ∧ j_in (j_sI (HN 300 h0) 91 ((nI 96).toNatClampNeg) (nI 101).toInt8.toInt32) 91 (nI 97) then _ else _) = _
  rw [show j_sI (HN 300 h0) 91 ((nI 96).toNatClampNeg) (nI 101).toInt8.toInt32 = (HN 301 h0) from by rw [show (nI 96).toNatClampNeg = 96 from ft_cl (by omega)]; rw [show (nI 101).toInt8.toInt32 = nI 101 from by decide +kernel]; exact uE_sI 300 (a := 91) (i := 96) (v := 101) (by decide +kernel)]
  show (if j_k (HN 301 h0) 91 = 2 ∧ j_in (HN 301 h0) 91 (nI 97) then _ else _) = _
  rw [if_pos (⟨HKn hc (n := 301) (a := 91) (k := 2) (by decide +kernel), by rw [ft_in (by omega), HLn hc (n := 301) (a := 91) (l := 137) (by decide +kernel)]; omega⟩)]
  show m_M_new_639 F 85 (nI 32) (nI 98) 91 91 85 (j_sI (HN 301 h0) 91 ((nI 97).toNatClampNeg) (nI 100).toInt8.toInt32) = _
  rw [show j_sI (HN 301 h0) 91 ((nI 97).toNatClampNeg) (nI 100).toInt8.toInt32 = (HN 302 h0) from by rw [show (nI 97).toNatClampNeg = 97 from ft_cl (by omega)]; rw [show (nI 100).toInt8.toInt32 = nI 100 from by decide +kernel]; exact uE_sI 301 (a := 91) (i := 97) (v := 100) (by decide +kernel)]
  exact i_M_new_639_32 F hc
theorem i_M_new_609_31_b (F : Nat × Nat) {h0 : jH} (hc : j_c h0 = 4) (ff : jH → Option jO) : jbV (m_M_new_609 F 85 (nI 97) (nI 93) 91 91 85 (HN 297 h0)) ff = ff (HN 385 h0) := bV_of (i_M_new_609_31 (F := F) (h0 := h0) (hc := hc)) ff
theorem i_M_new_579_30 (F : Nat × Nat) {h0 : jH} (hc : j_c h0 = 4) : m_M_new_579 F 85 (nI 32) (nI 88) 91 91 85 (HN 292 h0) = some (none, HN 385 h0) := by
  rw [q_M_new_579]
  show (if j_k (HN 292 h0) 91 = 2 ∧ j_in (HN 292 h0) 91 (nI 88) then _ else _) = _
  rw [if_pos (⟨HKn hc (n := 292) (a := 91) (k := 2) (by decide +kernel), by rw [ft_in (by omega), HLn hc (n := 292) (a := 91) (l := 137) (by decide +kernel)]; omega⟩)]
  show (if j_k (j_sI (HN 292 h0) 91 ((nI 88).toNatClampNeg) (nI 32).toInt8.toInt32) 91 = 2 ∧ j_in (j_sI (HN 292 h0) 91 ((nI 88).toNatClampNeg) (nI 32).toInt8.toInt32) 91 (nI 89) then _ else _) = _
  rw [show j_sI (HN 292 h0) 91 ((nI 88).toNatClampNeg) (nI 32).toInt8.toInt32 = (HN 293 h0) from by rw [show (nI 88).toNatClampNeg = 88 from ft_cl (by omega)]; rw [show (nI 32).toInt8.toInt32 = nI 32 from by decide +kernel]; exact uE_sI 292 (a := 91) (i := 88) (v := 32) (by decide +kernel)]
  show (if j_k (HN 293 h0) 91 = 2 ∧ j_in (HN 293 h0) 91 (nI 89) then _ else _) = _
  rw [if_pos (⟨HKn hc (n := 293) (a := 91) (k := 2) (by decide +kernel), by rw [ft_in (by omega), HLn hc (n := 293) (a := 91) (l := 137) (by decide +kernel)]; omega⟩)]
  show (if j_k (j_sI (HN 293 h0) 91 ((nI 89).toNatClampNeg) (nI 97).toInt8.toInt32) 91 = 2 ∧ j_in (j_sI (HN 293 h0) 91 ((nI 89).toNatClampNeg) (nI 97).toInt8.toInt32) 91 (nI 90) then _ else _) = _
  rw [show j_sI (HN 293 h0) 91 ((nI 89).toNatClampNeg) (nI 97).toInt8.toInt32 = (HN 294 h0) from by rw [show (nI 89).toNatClampNeg = 89 from ft_cl (by omega)]; rw [show (nI 97).toInt8.toInt32 = nI 97 from by decide +kernel]; exact uE_sI 293 (a := 91) (i := 89) (v := 97) (by decide +kernel)]
  show (if j_k (HN 294 h0) 91 = 2 ∧ j_in (HN 294 h0) 91 (nI 90) then _ else _) = _
  rw [if_pos (⟨HKn hc (n := 294) (a := 91) (k := 2) (by decide +kernel), by rw [ft_in (by omega), HLn hc (n := 294) (a := 91) (l := 137) (by decide +kernel)]; omega⟩)]
  show (if j_k (j_sI (HN 294 h0) 91 ((nI 90).toNatClampNeg) (nI 116).toInt8.toInt32) 91 = 2 ∧ j_in (j_sI (HN 294 h0) 91 ((nI 90).toNatClampNeg) (nI 116).toInt8.toInt32) 91 (nI 91) then _ else _) = _
  rw [show j_sI (HN 294 h0) 91 ((nI 90).toNatClampNeg) (nI 116).toInt8.toInt32 = (HN 295 h0) from by rw [show (nI 90).toNatClampNeg = 90 from ft_cl (by omega)]; rw [show (nI 116).toInt8.toInt32 = nI 116 from by decide +kernel]; exact uE_sI 294 (a := 91) (i := 90) (v := 116) (by decide +kernel)]
  show (if j_k (HN 295 h0) 91 = 2 ∧ j_in (HN 295 h0) 91 (nI 91) then _ else _) = _
  rw [if_pos (⟨HKn hc (n := 295) (a := 91) (k := 2) (by decide +kernel), by rw [ft_in (by omega), HLn hc (n := 295) (a := 91) (l := 137) (by decide +kernel)]; omega⟩)]
  show (if j_k (j_sI (HN 295 h0) 91 ((nI 91).toNatClampNeg) (nI 32).toInt8.toInt32) 91 = 2 ∧ j_in (j_sI (HN 295 h0) 91 ((nI 91).toNatClampNeg) (nI 32).toInt8.toInt32) 91 (nI 92) then _ else _) = _
  rw [show j_sI (HN 295 h0) 91 ((nI 91).toNatClampNeg) (nI 32).toInt8.toInt32 = (HN 296 h0) from by rw [show (nI 91).toNatClampNeg = 91 from ft_cl (by omega)]; rw [show (nI 32).toInt8.toInt32 = nI 32 from by decide +kernel]; exact uE_sI 295 (a := 91) (i := 91) (v := 32) (by decide +kernel)]
  show (if j_k (HN 296 h0) 91 = 2 ∧ j_in (HN 296 h0) 91 (nI 92) then _ else _) = _
  rw [if_pos (⟨HKn hc (n := 296) (a := 91) (k := 2) (by decide +kernel), by rw [ft_in (by omega), HLn hc (n := 296) (a := 91) (l := 137) (by decide +kernel)]; omega⟩)]
  show m_M_new_609 F 85 (nI 97) (nI 93) 91 91 85 (j_sI (HN 296 h0) 91 ((nI 92).toNatClampNeg) (nI 109).toInt8.toInt32) = _
  rw [show j_sI (HN 296 h0) 91 ((nI 92).toNatClampNeg) (nI 109).toInt8.toInt32 = (HN 297 h0) from by rw [show (nI 92).toNatClampNeg = 92 from ft_cl (by omega)]; rw [show (nI 109).toInt8.toInt32 = nI 109 from by decide +kernel]; exact uE_sI 296 (a := 91) (i := 92) (v := 109) (by decide +kernel)]
  exact i_M_new_609_31 F hc
theorem i_M_new_579_30_b (F : Nat × Nat) {h0 : jH} (hc : j_c h0 = 4) (ff : jH → Option jO) : jbV (m_M_new_579 F 85 (nI 32) (nI 88) 91 91 85 (HN 292 h0)) ff = ff (HN 385 h0) := bV_of (i_M_new_579_30 (F := F) (h0 := h0) (hc := hc)) ff
theorem i_M_new_549_29 (F : Nat × Nat) {h0 : jH} (hc : j_c h0 = 4) : m_M_new_549 F 85 (nI 97) (nI 83) 91 91 85 (HN 287 h0) = some (none, HN 385 h0) := by
  rw [q_M_new_549]
  show (if j_k (HN 287 h0) 91 = 2 ∧ j_in (HN 287 h0) 91 (nI 83) then _ else _) = _
  rw [if_pos (⟨HKn hc (n := 287) (a := 91) (k := 2) (by decide +kernel), by rw [ft_in (by omega), HLn hc (n := 287) (a := 91) (l := 137) (by decide +kernel)]; omega⟩)]
  show (if j_k (j_sI (HN 287 h0) 91 ((nI 83).toNatClampNeg) (nI 97).toInt8.toInt32) 91 = 2 ∧ j_in (j_sI (HN 287 h0) 91 ((nI 83).toNatClampNeg) (nI 97).toInt8.toInt32) 91 (nI 84) then _ else _) = _
  rw [show j_sI (HN 287 h0) 91 ((nI 83).toNatClampNeg) (nI 97).toInt8.toInt32 = (HN 288 h0) from by rw [show (nI 83).toNatClampNeg = 83 from ft_cl (by omega)]; rw [show (nI 97).toInt8.toInt32 = nI 97 from by decide +kernel]; exact uE_sI 287 (a := 91) (i := 83) (v := 97) (by decide +kernel)]
  show (if j_k (HN 288 h0) 91 = 2 ∧ j_in (HN 288 h0) 91 (nI 84) then _ else _) = _
  rw [if_pos (⟨HKn hc (n := 288) (a := 91) (k := 2) (by decide +kernel), by rw [ft_in (by omega), HLn hc (n := 288) (a := 91) (l := 137) (by decide +kernel)]; omega⟩)]
  show (if j_k (j_sI (HN 288 h0) 91 ((nI 84).toNatClampNeg) (nI 116).toInt8.toInt32) 91 = 2 ∧ j_in (j_sI (HN 288 h0) 91 ((nI 84).toNatClampNeg) (nI 116).toInt8.toInt32) 91 (nI 85) then _ else _) = _
  rw [show j_sI (HN 288 h0) 91 ((nI 84).toNatClampNeg) (nI 116).toInt8.toInt32 = (HN 289 h0) from by rw [show (nI 84).toNatClampNeg = 84 from ft_cl (by omega)]; rw [show (nI 116).toInt8.toInt32 = nI 116 from by decide +kernel]; exact uE_sI 288 (a := 91) (i := 84) (v := 116) (by decide +kernel)]
  show (if j_k (HN 289 h0) 91 = 2 ∧ j_in (HN 289 h0) 91 (nI 85) then _ else _) = _
  rw [if_pos (⟨HKn hc (n := 289) (a := 91) (k := 2) (by decide +kernel), by rw [ft_in (by omega), HLn hc (n := 289) (a := 91) (l := 137) (by decide +kernel)]; omega⟩)]
  show (if j_k (j_sI (HN 289 h0) 91 ((nI 85).toNatClampNeg) (nI 101).toInt8.toInt32) 91 = 2 ∧ j_in (j_sI (HN 289 h0) 91 ((nI 85).toNatClampNeg) (nI 101).toInt8.toInt32) 91 (nI 86) then _ else _) = _
  rw [show j_sI (HN 289 h0) 91 ((nI 85).toNatClampNeg) (nI 101).toInt8.toInt32 = (HN 290 h0) from by rw [show (nI 85).toNatClampNeg = 85 from ft_cl (by omega)]; rw [show (nI 101).toInt8.toInt32 = nI 101 from by decide +kernel]; exact uE_sI 289 (a := 91) (i := 85) (v := 101) (by decide +kernel)]
  show (if j_k (HN 290 h0) 91 = 2 ∧ j_in (HN 290 h0) 91 (nI 86) then _ else _) = _
  rw [if_pos (⟨HKn hc (n := 290) (a := 91) (k := 2) (by decide +kernel), by rw [ft_in (by omega), HLn hc (n := 290) (a := 91) (l := 137) (by decide +kernel)]; omega⟩)]
  show (if j_k (j_sI (HN 290 h0) 91 ((nI 86).toNatClampNeg) (nI 115).toInt8.toInt32) 91 = 2 ∧ j_in (j_sI (HN 290 h0) 91 ((nI 86).toNatClampNeg) (nI 115).toInt8.toInt32) 91 (nI 87) then _ else _) = _
  rw [show j_sI (HN 290 h0) 91 ((nI 86).toNatClampNeg) (nI 115).toInt8.toInt32 = (HN 291 h0) from by rw [show (nI 86).toNatClampNeg = 86 from ft_cl (by omega)]; rw [show (nI 115).toInt8.toInt32 = nI 115 from by decide +kernel]; exact uE_sI 290 (a := 91) (i := 86) (v := 115) (by decide +kernel)]
  show (if j_k (HN 291 h0) 91 = 2 ∧ j_in (HN 291 h0) 91 (nI 87) then _ else _) = _
  rw [if_pos (⟨HKn hc (n := 291) (a := 91) (k := 2) (by decide +kernel), by rw [ft_in (by omega), HLn hc (n := 291) (a := 91) (l := 137) (by decide +kernel)]; omega⟩)]
  show m_M_new_579 F 85 (nI 32) (nI 88) 91 91 85 (j_sI (HN 291 h0) 91 ((nI 87).toNatClampNeg) (nI 116).toInt8.toInt32) = _
  rw [show j_sI (HN 291 h0) 91 ((nI 87).toNatClampNeg) (nI 116).toInt8.toInt32 = (HN 292 h0) from by rw [show (nI 87).toNatClampNeg = 87 from ft_cl (by omega)]; rw [show (nI 116).toInt8.toInt32 = nI 116 from by decide +kernel]; exact uE_sI 291 (a := 91) (i := 87) (v := 116) (by decide +kernel)]
  exact i_M_new_579_30 F hc
theorem i_M_new_549_29_b (F : Nat × Nat) {h0 : jH} (hc : j_c h0 = 4) (ff : jH → Option jO) : jbV (m_M_new_549 F 85 (nI 97) (nI 83) 91 91 85 (HN 287 h0)) ff = ff (HN 385 h0) := bV_of (i_M_new_549_29 (F := F) (h0 := h0) (hc := hc)) ff
theorem i_M_new_519_28 (F : Nat × Nat) {h0 : jH} (hc : j_c h0 = 4) : m_M_new_519 F 85 (nI 111) (nI 78) 91 91 85 (HN 282 h0) = some (none, HN 385 h0) := by
  rw [q_M_new_519]
  show (if j_k (HN 282 h0) 91 = 2 ∧ j_in (HN 282 h0) 91 (nI 78) then _ else _) = _
  rw [if_pos (⟨HKn hc (n := 282) (a := 91) (k := 2) (by decide +kernel), by rw [ft_in (by omega), HLn hc (n := 282) (a := 91) (l := 137) (by decide +kernel)]; omega⟩)]
  show (if j_k (j_sI (HN 282 h0) 91 ((nI 78).toNatClampNeg) (nI 111).toInt8.toInt32) 91 = 2 ∧ j_in (j_sI (HN 282 h0) 91 ((nI 78).toNatClampNeg) (nI 111).toInt8.toInt32) 91 (nI 79) then _ else _) = _
  rw [show j_sI (HN 282 h0) 91 ((nI 78).toNatClampNeg) (nI 111).toInt8.toInt32 = (HN 283 h0) from by rw [show (nI 78).toNatClampNeg = 78 from ft_cl (by omega)]; rw [show (nI 111).toInt8.toInt32 = nI 111 from by decide +kernel]; exact uE_sI 282 (a := 91) (i := 78) (v := 111) (by decide +kernel)]
  show (if j_k (HN 283 h0) 91 = 2 ∧ j_in (HN 283 h0) 91 (nI 79) then _ else _) = _
  rw [if_pos (⟨HKn hc (n := 283) (a := 91) (k := 2) (by decide +kernel), by rw [ft_in (by omega), HLn hc (n := 283) (a := 91) (l := 137) (by decide +kernel)]; omega⟩)]
  show (if j_k (j_sI (HN 283 h0) 91 ((nI 79).toNatClampNeg) (nI 110).toInt8.toInt32) 91 = 2 ∧ j_in (j_sI (HN 283 h0) 91 ((nI 79).toNatClampNeg) (nI 110).toInt8.toInt32) 91 (nI 80) then _ else _) = _
  rw [show j_sI (HN 283 h0) 91 ((nI 79).toNatClampNeg) (nI 110).toInt8.toInt32 = (HN 284 h0) from by rw [show (nI 79).toNatClampNeg = 79 from ft_cl (by omega)]; rw [show (nI 110).toInt8.toInt32 = nI 110 from by decide +kernel]; exact uE_sI 283 (a := 91) (i := 79) (v := 110) (by decide +kernel)]
  show (if j_k (HN 284 h0) 91 = 2 ∧ j_in (HN 284 h0) 91 (nI 80) then _ else _) = _
  rw [if_pos (⟨HKn hc (n := 284) (a := 91) (k := 2) (by decide +kernel), by rw [ft_in (by omega), HLn hc (n := 284) (a := 91) (l := 137) (by decide +kernel)]; omega⟩)]
  show (if j_k (j_sI (HN 284 h0) 91 ((nI 80).toNatClampNeg) (nI 101).toInt8.toInt32) 91 = 2 ∧ j_in (j_sI (HN 284 h0) 91 ((nI 80).toNatClampNeg) (nI 101).toInt8.toInt32) 91 (nI 81) then _ else _) = _
  rw [show j_sI (HN 284 h0) 91 ((nI 80).toNatClampNeg) (nI 101).toInt8.toInt32 = (HN 285 h0) from by rw [show (nI 80).toNatClampNeg = 80 from ft_cl (by omega)]; rw [show (nI 101).toInt8.toInt32 = nI 101 from by decide +kernel]; exact uE_sI 284 (a := 91) (i := 80) (v := 101) (by decide +kernel)]
  show (if j_k (HN 285 h0) 91 = 2 ∧ j_in (HN 285 h0) 91 (nI 81) then _ else _) = _
  rw [if_pos (⟨HKn hc (n := 285) (a := 91) (k := 2) (by decide +kernel), by rw [ft_in (by omega), HLn hc (n := 285) (a := 91) (l := 137) (by decide +kernel)]; omega⟩)]
  show (if j_k (j_sI (HN 285 h0) 91 ((nI 81).toNatClampNeg) (nI 32).toInt8.toInt32) 91 = 2 ∧ j_in (j_sI (HN 285 h0) 91 ((nI 81).toNatClampNeg) (nI 32).toInt8.toInt32) 91 (nI 82) then _ else _) = _
  rw [show j_sI (HN 285 h0) 91 ((nI 81).toNatClampNeg) (nI 32).toInt8.toInt32 = (HN 286 h0) from by rw [show (nI 81).toNatClampNeg = 81 from ft_cl (by omega)]; rw [show (nI 32).toInt8.toInt32 = nI 32 from by decide +kernel]; exact uE_sI 285 (a := 91) (i := 81) (v := 32) (by decide +kernel)]
  show (if j_k (HN 286 h0) 91 = 2 ∧ j_in (HN 286 h0) 91 (nI 82) then _ else _) = _
  rw [if_pos (⟨HKn hc (n := 286) (a := 91) (k := 2) (by decide +kernel), by rw [ft_in (by omega), HLn hc (n := 286) (a := 91) (l := 137) (by decide +kernel)]; omega⟩)]
  show m_M_new_549 F 85 (nI 97) (nI 83) 91 91 85 (j_sI (HN 286 h0) 91 ((nI 82).toNatClampNeg) (nI 108).toInt8.toInt32) = _
  rw [show j_sI (HN 286 h0) 91 ((nI 82).toNatClampNeg) (nI 108).toInt8.toInt32 = (HN 287 h0) from by rw [show (nI 82).toNatClampNeg = 82 from ft_cl (by omega)]; rw [show (nI 108).toInt8.toInt32 = nI 108 from by decide +kernel]; exact uE_sI 286 (a := 91) (i := 82) (v := 108) (by decide +kernel)]
  exact i_M_new_549_29 F hc
theorem i_M_new_519_28_b (F : Nat × Nat) {h0 : jH} (hc : j_c h0 = 4) (ff : jH → Option jO) : jbV (m_M_new_519 F 85 (nI 111) (nI 78) 91 91 85 (HN 282 h0)) ff = ff (HN 385 h0) := bV_of (i_M_new_519_28 (F := F) (h0 := h0) (hc := hc)) ff
theorem i_M_new_489_27 (F : Nat × Nat) {h0 : jH} (hc : j_c h0 = 4) : m_M_new_489 F 85 (nI 117) (nI 73) 91 91 85 (HN 277 h0) = some (none, HN 385 h0) := by
  rw [q_M_new_489]
  show (if j_k (HN 277 h0) 91 = 2 ∧ j_in (HN 277 h0) 91 (nI 73) then _ else _) = _
  rw [if_pos (⟨HKn hc (n := 277) (a := 91) (k := 2) (by decide +kernel), by rw [ft_in (by omega), HLn hc (n := 277) (a := 91) (l := 137) (by decide +kernel)]; omega⟩)]
  show (if j_k (j_sI (HN 277 h0) 91 ((nI 73).toNatClampNeg) (nI 117).toInt8.toInt32) 91 = 2 ∧ j_in (j_sI (HN 277 h0) 91 ((nI 73).toNatClampNeg) (nI 117).toInt8.toInt32) 91 (nI 74) then _ else _) = _
  rw [show j_sI (HN 277 h0) 91 ((nI 73).toNatClampNeg) (nI 117).toInt8.toInt32 = (HN 278 h0) from by rw [show (nI 73).toNatClampNeg = 73 from ft_cl (by omega)]; rw [show (nI 117).toInt8.toInt32 = nI 117 from by decide +kernel]; exact uE_sI 277 (a := 91) (i := 73) (v := 117) (by decide +kernel)]
  show (if j_k (HN 278 h0) 91 = 2 ∧ j_in (HN 278 h0) 91 (nI 74) then _ else _) = _
  rw [if_pos (⟨HKn hc (n := 278) (a := 91) (k := 2) (by decide +kernel), by rw [ft_in (by omega), HLn hc (n := 278) (a := 91) (l := 137) (by decide +kernel)]; omega⟩)]
  show (if j_k (j_sI (HN 278 h0) 91 ((nI 74).toNatClampNeg) (nI 116).toInt8.toInt32) 91 = 2 ∧ j_in (j_sI (HN 278 h0) 91 ((nI 74).toNatClampNeg) (nI 116).toInt8.toInt32) 91 (nI 75) then _ else _) = _
  rw [show j_sI (HN 278 h0) 91 ((nI 74).toNatClampNeg) (nI 116).toInt8.toInt32 = (HN 279 h0) from by rw [show (nI 74).toNatClampNeg = 74 from ft_cl (by omega)]; rw [show (nI 116).toInt8.toInt32 = nI 116 from by decide +kernel]; exact uE_sI 278 (a := 91) (i := 74) (v := 116) (by decide +kernel)]
  show (if j_k (HN 279 h0) 91 = 2 ∧ j_in (HN 279 h0) 91 (nI 75) then _ else _) = _
  rw [if_pos (⟨HKn hc (n := 279) (a := 91) (k := 2) (by decide +kernel), by rw [ft_in (by omega), HLn hc (n := 279) (a := 91) (l := 137) (by decide +kernel)]; omega⟩)]
  show (if j_k (j_sI (HN 279 h0) 91 ((nI 75).toNatClampNeg) (nI 101).toInt8.toInt32) 91 = 2 ∧ j_in (j_sI (HN 279 h0) 91 ((nI 75).toNatClampNeg) (nI 101).toInt8.toInt32) 91 (nI 76) then _ else _) = _
  rw [show j_sI (HN 279 h0) 91 ((nI 75).toNatClampNeg) (nI 101).toInt8.toInt32 = (HN 280 h0) from by rw [show (nI 75).toNatClampNeg = 75 from ft_cl (by omega)]; rw [show (nI 101).toInt8.toInt32 = nI 101 from by decide +kernel]; exact uE_sI 279 (a := 91) (i := 75) (v := 101) (by decide +kernel)]
  show (if j_k (HN 280 h0) 91 = 2 ∧ j_in (HN 280 h0) 91 (nI 76) then _ else _) = _
  rw [if_pos (⟨HKn hc (n := 280) (a := 91) (k := 2) (by decide +kernel), by rw [ft_in (by omega), HLn hc (n := 280) (a := 91) (l := 137) (by decide +kernel)]; omega⟩)]
  show (if j_k (j_sI (HN 280 h0) 91 ((nI 76).toNatClampNeg) (nI 32).toInt8.toInt32) 91 = 2 ∧ j_in (j_sI (HN 280 h0) 91 ((nI 76).toNatClampNeg) (nI 32).toInt8.toInt32) 91 (nI 77) then _ else _) = _
  rw [show j_sI (HN 280 h0) 91 ((nI 76).toNatClampNeg) (nI 32).toInt8.toInt32 = (HN 281 h0) from by rw [show (nI 76).toNatClampNeg = 76 from ft_cl (by omega)]; rw [show (nI 32).toInt8.toInt32 = nI 32 from by decide +kernel]; exact uE_sI 280 (a := 91) (i := 76) (v := 32) (by decide +kernel)]
  show (if j_k (HN 281 h0) 91 = 2 ∧ j_in (HN 281 h0) 91 (nI 77) then _ else _) = _
  rw [if_pos (⟨HKn hc (n := 281) (a := 91) (k := 2) (by decide +kernel), by rw [ft_in (by omega), HLn hc (n := 281) (a := 91) (l := 137) (by decide +kernel)]; omega⟩)]
  show m_M_new_519 F 85 (nI 111) (nI 78) 91 91 85 (j_sI (HN 281 h0) 91 ((nI 77).toNatClampNeg) (nI 100).toInt8.toInt32) = _
  rw [show j_sI (HN 281 h0) 91 ((nI 77).toNatClampNeg) (nI 100).toInt8.toInt32 = (HN 282 h0) from by rw [show (nI 77).toNatClampNeg = 77 from ft_cl (by omega)]; rw [show (nI 100).toInt8.toInt32 = nI 100 from by decide +kernel]; exact uE_sI 281 (a := 91) (i := 77) (v := 100) (by decide +kernel)]
  exact i_M_new_519_28 F hc
theorem i_M_new_489_27_b (F : Nat × Nat) {h0 : jH} (hc : j_c h0 = 4) (ff : jH → Option jO) : jbV (m_M_new_489 F 85 (nI 117) (nI 73) 91 91 85 (HN 277 h0)) ff = ff (HN 385 h0) := bV_of (i_M_new_489_27 (F := F) (h0 := h0) (hc := hc)) ff
theorem i_M_new_459_26 (F : Nat × Nat) {h0 : jH} (hc : j_c h0 = 4) : m_M_new_459 F 85 (nI 100) (nI 68) 91 91 85 (HN 272 h0) = some (none, HN 385 h0) := by
  rw [q_M_new_459]
  show (if j_k (HN 272 h0) 91 = 2 ∧ j_in (HN 272 h0) 91 (nI 68) then _ else _) = _
  rw [if_pos (⟨HKn hc (n := 272) (a := 91) (k := 2) (by decide +kernel), by rw [ft_in (by omega), HLn hc (n := 272) (a := 91) (l := 137) (by decide +kernel)]; omega⟩)]
  show (if j_k (j_sI (HN 272 h0) 91 ((nI 68).toNatClampNeg) (nI 100).toInt8.toInt32) 91 = 2 ∧ j_in (j_sI (HN 272 h0) 91 ((nI 68).toNatClampNeg) (nI 100).toInt8.toInt32) 91 (nI 69) then _ else _) = _
  rw [show j_sI (HN 272 h0) 91 ((nI 68).toNatClampNeg) (nI 100).toInt8.toInt32 = (HN 273 h0) from by rw [show (nI 68).toNatClampNeg = 68 from ft_cl (by omega)]; rw [show (nI 100).toInt8.toInt32 = nI 100 from by decide +kernel]; exact uE_sI 272 (a := 91) (i := 68) (v := 100) (by decide +kernel)]
  show (if j_k (HN 273 h0) 91 = 2 ∧ j_in (HN 273 h0) 91 (nI 69) then _ else _) = _
  rw [if_pos (⟨HKn hc (n := 273) (a := 91) (k := 2) (by decide +kernel), by rw [ft_in (by omega), HLn hc (n := 273) (a := 91) (l := 137) (by decide +kernel)]; omega⟩)]
  show (if j_k (j_sI (HN 273 h0) 91 ((nI 69).toNatClampNeg) (nI 32).toInt8.toInt32) 91 = 2 ∧ j_in (j_sI (HN 273 h0) 91 ((nI 69).toNatClampNeg) (nI 32).toInt8.toInt32) 91 (nI 70) then _ else _) = _
  rw [show j_sI (HN 273 h0) 91 ((nI 69).toNatClampNeg) (nI 32).toInt8.toInt32 = (HN 274 h0) from by rw [show (nI 69).toNatClampNeg = 69 from ft_cl (by omega)]; rw [show (nI 32).toInt8.toInt32 = nI 32 from by decide +kernel]; exact uE_sI 273 (a := 91) (i := 69) (v := 32) (by decide +kernel)]
  show (if j_k (HN 274 h0) 91 = 2 ∧ j_in (HN 274 h0) 91 (nI 70) then _ else _) = _
  rw [if_pos (⟨HKn hc (n := 274) (a := 91) (k := 2) (by decide +kernel), by rw [ft_in (by omega), HLn hc (n := 274) (a := 91) (l := 137) (by decide +kernel)]; omega⟩)]
  show (if j_k (j_sI (HN 274 h0) 91 ((nI 70).toNatClampNeg) (nI 109).toInt8.toInt32) 91 = 2 ∧ j_in (j_sI (HN 274 h0) 91 ((nI 70).toNatClampNeg) (nI 109).toInt8.toInt32) 91 (nI 71) then _ else _) = _
  rw [show j_sI (HN 274 h0) 91 ((nI 70).toNatClampNeg) (nI 109).toInt8.toInt32 = (HN 275 h0) from by rw [show (nI 70).toNatClampNeg = 70 from ft_cl (by omega)]; rw [show (nI 109).toInt8.toInt32 = nI 109 from by decide +kernel]; exact uE_sI 274 (a := 91) (i := 70) (v := 109) (by decide +kernel)]
  show (if j_k (HN 275 h0) 91 = 2 ∧ j_in (HN 275 h0) 91 (nI 71) then _ else _) = _
  rw [if_pos (⟨HKn hc (n := 275) (a := 91) (k := 2) (by decide +kernel), by rw [ft_in (by omega), HLn hc (n := 275) (a := 91) (l := 137) (by decide +kernel)]; omega⟩)]
  show (if j_k (j_sI (HN 275 h0) 91 ((nI 71).toNatClampNeg) (nI 105).toInt8.toInt32) 91 = 2 ∧ j_in (j_sI (HN 275 h0) 91 ((nI 71).toNatClampNeg) (nI 105).toInt8.toInt32) 91 (nI 72) then _ else _) = _
  rw [show j_sI (HN 275 h0) 91 ((nI 71).toNatClampNeg) (nI 105).toInt8.toInt32 = (HN 276 h0) from by rw [show (nI 71).toNatClampNeg = 71 from ft_cl (by omega)]; rw [show (nI 105).toInt8.toInt32 = nI 105 from by decide +kernel]; exact uE_sI 275 (a := 91) (i := 71) (v := 105) (by decide +kernel)]
  show (if j_k (HN 276 h0) 91 = 2 ∧ j_in (HN 276 h0) 91 (nI 72) then _ else _) = _
  rw [if_pos (⟨HKn hc (n := 276) (a := 91) (k := 2) (by decide +kernel), by rw [ft_in (by omega), HLn hc (n := 276) (a := 91) (l := 137) (by decide +kernel)]; omega⟩)]
  show m_M_new_489 F 85 (nI 117) (nI 73) 91 91 85 (j_sI (HN 276 h0) 91 ((nI 72).toNatClampNeg) (nI 110).toInt8.toInt32) = _
  rw [show j_sI (HN 276 h0) 91 ((nI 72).toNatClampNeg) (nI 110).toInt8.toInt32 = (HN 277 h0) from by rw [show (nI 72).toNatClampNeg = 72 from ft_cl (by omega)]; rw [show (nI 110).toInt8.toInt32 = nI 110 from by decide +kernel]; exact uE_sI 276 (a := 91) (i := 72) (v := 110) (by decide +kernel)]
  exact i_M_new_489_27 F hc
theorem i_M_new_459_26_b (F : Nat × Nat) {h0 : jH} (hc : j_c h0 = 4) (ff : jH → Option jO) : jbV (m_M_new_459 F 85 (nI 100) (nI 68) 91 91 85 (HN 272 h0)) ff = ff (HN 385 h0) := bV_of (i_M_new_459_26 (F := F) (h0 := h0) (hc := hc)) ff
theorem i_M_new_429_25 (F : Nat × Nat) {h0 : jH} (hc : j_c h0 = 4) : m_M_new_429 F 85 (nI 100) (nI 63) 91 91 85 (HN 267 h0) = some (none, HN 385 h0) := by
  rw [q_M_new_429]
  show (if j_k (HN 267 h0) 91 = 2 ∧ j_in (HN 267 h0) 91 (nI 63) then _ else _) = _
  rw [if_pos (⟨HKn hc (n := 267) (a := 91) (k := 2) (by decide +kernel), by rw [ft_in (by omega), HLn hc (n := 267) (a := 91) (l := 137) (by decide +kernel)]; omega⟩)]
  show (if j_k (j_sI (HN 267 h0) 91 ((nI 63).toNatClampNeg) (nI 100).toInt8.toInt32) 91 = 2 ∧ j_in (j_sI (HN 267 h0) 91 ((nI 63).toNatClampNeg) (nI 100).toInt8.toInt32) 91 (nI 64) then _ else _) = _
  rw [show j_sI (HN 267 h0) 91 ((nI 63).toNatClampNeg) (nI 100).toInt8.toInt32 = (HN 268 h0) from by rw [show (nI 63).toNatClampNeg = 63 from ft_cl (by omega)]; rw [show (nI 100).toInt8.toInt32 = nI 100 from by decide +kernel]; exact uE_sI 267 (a := 91) (i := 63) (v := 100) (by decide +kernel)]
  show (if j_k (HN 268 h0) 91 = 2 ∧ j_in (HN 268 h0) 91 (nI 64) then _ else _) = _
  rw [if_pos (⟨HKn hc (n := 268) (a := 91) (k := 2) (by decide +kernel), by rw [ft_in (by omega), HLn hc (n := 268) (a := 91) (l := 137) (by decide +kernel)]; omega⟩)]
  show (if j_k (j_sI (HN 268 h0) 91 ((nI 64).toNatClampNeg) (nI 32).toInt8.toInt32) 91 = 2 ∧ j_in (j_sI (HN 268 h0) 91 ((nI 64).toNatClampNeg) (nI 32).toInt8.toInt32) 91 (nI 65) then _ else _) = _
  rw [show j_sI (HN 268 h0) 91 ((nI 64).toNatClampNeg) (nI 32).toInt8.toInt32 = (HN 269 h0) from by rw [show (nI 64).toNatClampNeg = 64 from ft_cl (by omega)]; rw [show (nI 32).toInt8.toInt32 = nI 32 from by decide +kernel]; exact uE_sI 268 (a := 91) (i := 64) (v := 32) (by decide +kernel)]
  show (if j_k (HN 269 h0) 91 = 2 ∧ j_in (HN 269 h0) 91 (nI 65) then _ else _) = _
  rw [if_pos (⟨HKn hc (n := 269) (a := 91) (k := 2) (by decide +kernel), by rw [ft_in (by omega), HLn hc (n := 269) (a := 91) (l := 137) (by decide +kernel)]; omega⟩)]
  show (if j_k (j_sI (HN 269 h0) 91 ((nI 65).toNatClampNeg) (nI 107).toInt8.toInt32) 91 = 2 ∧ j_in (j_sI (HN 269 h0) 91 ((nI 65).toNatClampNeg) (nI 107).toInt8.toInt32) 91 (nI 66) then _ else _) = _
  rw [show j_sI (HN 269 h0) 91 ((nI 65).toNatClampNeg) (nI 107).toInt8.toInt32 = (HN 270 h0) from by rw [show (nI 65).toNatClampNeg = 65 from ft_cl (by omega)]; rw [show (nI 107).toInt8.toInt32 = nI 107 from by decide +kernel]; exact uE_sI 269 (a := 91) (i := 65) (v := 107) (by decide +kernel)]
  show (if j_k (HN 270 h0) 91 = 2 ∧ j_in (HN 270 h0) 91 (nI 66) then _ else _) = _
  rw [if_pos (⟨HKn hc (n := 270) (a := 91) (k := 2) (by decide +kernel), by rw [ft_in (by omega), HLn hc (n := 270) (a := 91) (l := 137) (by decide +kernel)]; omega⟩)]
  show (if j_k (j_sI (HN 270 h0) 91 ((nI 66).toNatClampNeg) (nI 105).toInt8.toInt32) 91 = 2 ∧ j_in (j_sI (HN 270 h0) 91 ((nI 66).toNatClampNeg) (nI 105).toInt8.toInt32) 91 (nI 67) then _ else _) = _
  rw [show j_sI (HN 270 h0) 91 ((nI 66).toNatClampNeg) (nI 105).toInt8.toInt32 = (HN 271 h0) from by rw [show (nI 66).toNatClampNeg = 66 from ft_cl (by omega)]; rw [show (nI 105).toInt8.toInt32 = nI 105 from by decide +kernel]; exact uE_sI 270 (a := 91) (i := 66) (v := 105) (by decide +kernel)]
  show (if j_k (HN 271 h0) 91 = 2 ∧ j_in (HN 271 h0) 91 (nI 67) then _ else _) = _
  rw [if_pos (⟨HKn hc (n := 271) (a := 91) (k := 2) (by decide +kernel), by rw [ft_in (by omega), HLn hc (n := 271) (a := 91) (l := 137) (by decide +kernel)]; omega⟩)]
  show m_M_new_459 F 85 (nI 100) (nI 68) 91 91 85 (j_sI (HN 271 h0) 91 ((nI 67).toNatClampNeg) (nI 110).toInt8.toInt32) = _
  rw [show j_sI (HN 271 h0) 91 ((nI 67).toNatClampNeg) (nI 110).toInt8.toInt32 = (HN 272 h0) from by rw [show (nI 67).toNatClampNeg = 67 from ft_cl (by omega)]; rw [show (nI 110).toInt8.toInt32 = nI 110 from by decide +kernel]; exact uE_sI 271 (a := 91) (i := 67) (v := 110) (by decide +kernel)]
  exact i_M_new_459_26 F hc
theorem i_M_new_429_25_b (F : Nat × Nat) {h0 : jH} (hc : j_c h0 = 4) (ff : jH → Option jO) : jbV (m_M_new_429 F 85 (nI 100) (nI 63) 91 91 85 (HN 267 h0)) ff = ff (HN 385 h0) := bV_of (i_M_new_429_25 (F := F) (h0 := h0) (hc := hc)) ff
theorem i_M_new_399_24 (F : Nat × Nat) {h0 : jH} (hc : j_c h0 = 4) : m_M_new_399 F 85 (nI 101) (nI 58) 91 91 85 (HN 262 h0) = some (none, HN 385 h0) := by
  rw [q_M_new_399]
  show (if j_k (HN 262 h0) 91 = 2 ∧ j_in (HN 262 h0) 91 (nI 58) then _ else _) = _
  rw [if_pos (⟨HKn hc (n := 262) (a := 91) (k := 2) (by decide +kernel), by rw [ft_in (by omega), HLn hc (n := 262) (a := 91) (l := 137) (by decide +kernel)]; omega⟩)]
  show (if j_k (j_sI (HN 262 h0) 91 ((nI 58).toNatClampNeg) (nI 101).toInt8.toInt32) 91 = 2 ∧ j_in (j_sI (HN 262 h0) 91 ((nI 58).toNatClampNeg) (nI 101).toInt8.toInt32) 91 (nI 59) then _ else _) = _
  rw [show j_sI (HN 262 h0) 91 ((nI 58).toNatClampNeg) (nI 101).toInt8.toInt32 = (HN 263 h0) from by rw [show (nI 58).toNatClampNeg = 58 from ft_cl (by omega)]; rw [show (nI 101).toInt8.toInt32 = nI 101 from by decide +kernel]; exact uE_sI 262 (a := 91) (i := 58) (v := 101) (by decide +kernel)]
  show (if j_k (HN 263 h0) 91 = 2 ∧ j_in (HN 263 h0) 91 (nI 59) then _ else _) = _
  rw [if_pos (⟨HKn hc (n := 263) (a := 91) (k := 2) (by decide +kernel), by rw [ft_in (by omega), HLn hc (n := 263) (a := 91) (l := 137) (by decide +kernel)]; omega⟩)]
  show (if j_k (j_sI (HN 263 h0) 91 ((nI 59).toNatClampNeg) (nI 32).toInt8.toInt32) 91 = 2 ∧ j_in (j_sI (HN 263 h0) 91 ((nI 59).toNatClampNeg) (nI 32).toInt8.toInt32) 91 (nI 60) then _ else _) = _
  rw [show j_sI (HN 263 h0) 91 ((nI 59).toNatClampNeg) (nI 32).toInt8.toInt32 = (HN 264 h0) from by rw [show (nI 59).toNatClampNeg = 59 from ft_cl (by omega)]; rw [show (nI 32).toInt8.toInt32 = nI 32 from by decide +kernel]; exact uE_sI 263 (a := 91) (i := 59) (v := 32) (by decide +kernel)]
  show (if j_k (HN 264 h0) 91 = 2 ∧ j_in (HN 264 h0) 91 (nI 60) then _ else _) = _
  rw [if_pos (⟨HKn hc (n := 264) (a := 91) (k := 2) (by decide +kernel), by rw [ft_in (by omega), HLn hc (n := 264) (a := 91) (l := 137) (by decide +kernel)]; omega⟩)]
  show (if j_k (j_sI (HN 264 h0) 91 ((nI 60).toNatClampNeg) (nI 109).toInt8.toInt32) 91 = 2 ∧ j_in (j_sI (HN 264 h0) 91 ((nI 60).toNatClampNeg) (nI 109).toInt8.toInt32) 91 (nI 61) then _ else _) = _
  rw [show j_sI (HN 264 h0) 91 ((nI 60).toNatClampNeg) (nI 109).toInt8.toInt32 = (HN 265 h0) from by rw [show (nI 60).toNatClampNeg = 60 from ft_cl (by omega)]; rw [show (nI 109).toInt8.toInt32 = nI 109 from by decide +kernel]; exact uE_sI 264 (a := 91) (i := 60) (v := 109) (by decide +kernel)]
  show (if j_k (HN 265 h0) 91 = 2 ∧ j_in (HN 265 h0) 91 (nI 61) then _ else _) = _
  rw [if_pos (⟨HKn hc (n := 265) (a := 91) (k := 2) (by decide +kernel), by rw [ft_in (by omega), HLn hc (n := 265) (a := 91) (l := 137) (by decide +kernel)]; omega⟩)]
  show (if j_k (j_sI (HN 265 h0) 91 ((nI 61).toNatClampNeg) (nI 111).toInt8.toInt32) 91 = 2 ∧ j_in (j_sI (HN 265 h0) 91 ((nI 61).toNatClampNeg) (nI 111).toInt8.toInt32) 91 (nI 62) then _ else _) = _
  rw [show j_sI (HN 265 h0) 91 ((nI 61).toNatClampNeg) (nI 111).toInt8.toInt32 = (HN 266 h0) from by rw [show (nI 61).toNatClampNeg = 61 from ft_cl (by omega)]; rw [show (nI 111).toInt8.toInt32 = nI 111 from by decide +kernel]; exact uE_sI 265 (a := 91) (i := 61) (v := 111) (by decide +kernel)]
  show (if j_k (HN 266 h0) 91 = 2 ∧ j_in (HN 266 h0) 91 (nI 62) then _ else _) = _
  rw [if_pos (⟨HKn hc (n := 266) (a := 91) (k := 2) (by decide +kernel), by rw [ft_in (by omega), HLn hc (n := 266) (a := 91) (l := 137) (by decide +kernel)]; omega⟩)]
  show m_M_new_429 F 85 (nI 100) (nI 63) 91 91 85 (j_sI (HN 266 h0) 91 ((nI 62).toNatClampNeg) (nI 111).toInt8.toInt32) = _
  rw [show j_sI (HN 266 h0) 91 ((nI 62).toNatClampNeg) (nI 111).toInt8.toInt32 = (HN 267 h0) from by rw [show (nI 62).toNatClampNeg = 62 from ft_cl (by omega)]; rw [show (nI 111).toInt8.toInt32 = nI 111 from by decide +kernel]; exact uE_sI 266 (a := 91) (i := 62) (v := 111) (by decide +kernel)]
  exact i_M_new_429_25 F hc
theorem i_M_new_399_24_b (F : Nat × Nat) {h0 : jH} (hc : j_c h0 = 4) (ff : jH → Option jO) : jbV (m_M_new_399 F 85 (nI 101) (nI 58) 91 91 85 (HN 262 h0)) ff = ff (HN 385 h0) := bV_of (i_M_new_399_24 (F := F) (h0 := h0) (hc := hc)) ff
theorem i_M_new_369_23 (F : Nat × Nat) {h0 : jH} (hc : j_c h0 = 4) : m_M_new_369 F 85 (nI 110) (nI 53) 91 91 85 (HN 257 h0) = some (none, HN 385 h0) := by
  rw [q_M_new_369]
  show (if j_k (HN 257 h0) 91 = 2 ∧ j_in (HN 257 h0) 91 (nI 53) then _ else _) = _
  rw [if_pos (⟨HKn hc (n := 257) (a := 91) (k := 2) (by decide +kernel), by rw [ft_in (by omega), HLn hc (n := 257) (a := 91) (l := 137) (by decide +kernel)]; omega⟩)]
  show (if j_k (j_sI (HN 257 h0) 91 ((nI 53).toNatClampNeg) (nI 110).toInt8.toInt32) 91 = 2 ∧ j_in (j_sI (HN 257 h0) 91 ((nI 53).toNatClampNeg) (nI 110).toInt8.toInt32) 91 (nI 54) then _ else _) = _
  rw [show j_sI (HN 257 h0) 91 ((nI 53).toNatClampNeg) (nI 110).toInt8.toInt32 = (HN 258 h0) from by rw [show (nI 53).toNatClampNeg = 53 from ft_cl (by omega)]; rw [show (nI 110).toInt8.toInt32 = nI 110 from by decide +kernel]; exact uE_sI 257 (a := 91) (i := 53) (v := 110) (by decide +kernel)]
  show (if j_k (HN 258 h0) 91 = 2 ∧ j_in (HN 258 h0) 91 (nI 54) then _ else _) = _
  rw [if_pos (⟨HKn hc (n := 258) (a := 91) (k := 2) (by decide +kernel), by rw [ft_in (by omega), HLn hc (n := 258) (a := 91) (l := 137) (by decide +kernel)]; omega⟩)]
  show (if j_k (j_sI (HN 258 h0) 91 ((nI 54).toNatClampNeg) (nI 32).toInt8.toInt32) 91 = 2 ∧ j_in (j_sI (HN 258 h0) 91 ((nI 54).toNatClampNeg) (nI 32).toInt8.toInt32) 91 (nI 55) then _ else _) = _
  rw [show j_sI (HN 258 h0) 91 ((nI 54).toNatClampNeg) (nI 32).toInt8.toInt32 = (HN 259 h0) from by rw [show (nI 54).toNatClampNeg = 54 from ft_cl (by omega)]; rw [show (nI 32).toInt8.toInt32 = nI 32 from by decide +kernel]; exact uE_sI 258 (a := 91) (i := 54) (v := 32) (by decide +kernel)]
  show (if j_k (HN 259 h0) 91 = 2 ∧ j_in (HN 259 h0) 91 (nI 55) then _ else _) = _
  rw [if_pos (⟨HKn hc (n := 259) (a := 91) (k := 2) (by decide +kernel), by rw [ft_in (by omega), HLn hc (n := 259) (a := 91) (l := 137) (by decide +kernel)]; omega⟩)]
  show (if j_k (j_sI (HN 259 h0) 91 ((nI 55).toNatClampNeg) (nI 112).toInt8.toInt32) 91 = 2 ∧ j_in (j_sI (HN 259 h0) 91 ((nI 55).toNatClampNeg) (nI 112).toInt8.toInt32) 91 (nI 56) then _ else _) = _
  rw [show j_sI (HN 259 h0) 91 ((nI 55).toNatClampNeg) (nI 112).toInt8.toInt32 = (HN 260 h0) from by rw [show (nI 55).toNatClampNeg = 55 from ft_cl (by omega)]; rw [show (nI 112).toInt8.toInt32 = nI 112 from by decide +kernel]; exact uE_sI 259 (a := 91) (i := 55) (v := 112) (by decide +kernel)]
  show (if j_k (HN 260 h0) 91 = 2 ∧ j_in (HN 260 h0) 91 (nI 56) then _ else _) = _
  rw [if_pos (⟨HKn hc (n := 260) (a := 91) (k := 2) (by decide +kernel), by rw [ft_in (by omega), HLn hc (n := 260) (a := 91) (l := 137) (by decide +kernel)]; omega⟩)]
  show (if j_k (j_sI (HN 260 h0) 91 ((nI 56).toNatClampNeg) (nI 97).toInt8.toInt32) 91 = 2 ∧ j_in (j_sI (HN 260 h0) 91 ((nI 56).toNatClampNeg) (nI 97).toInt8.toInt32) 91 (nI 57) then _ else _) = _
  rw [show j_sI (HN 260 h0) 91 ((nI 56).toNatClampNeg) (nI 97).toInt8.toInt32 = (HN 261 h0) from by rw [show (nI 56).toNatClampNeg = 56 from ft_cl (by omega)]; rw [show (nI 97).toInt8.toInt32 = nI 97 from by decide +kernel]; exact uE_sI 260 (a := 91) (i := 56) (v := 97) (by decide +kernel)]
  show (if j_k (HN 261 h0) 91 = 2 ∧ j_in (HN 261 h0) 91 (nI 57) then _ else _) = _
  rw [if_pos (⟨HKn hc (n := 261) (a := 91) (k := 2) (by decide +kernel), by rw [ft_in (by omega), HLn hc (n := 261) (a := 91) (l := 137) (by decide +kernel)]; omega⟩)]
  show m_M_new_399 F 85 (nI 101) (nI 58) 91 91 85 (j_sI (HN 261 h0) 91 ((nI 57).toNatClampNeg) (nI 99).toInt8.toInt32) = _
  rw [show j_sI (HN 261 h0) 91 ((nI 57).toNatClampNeg) (nI 99).toInt8.toInt32 = (HN 262 h0) from by rw [show (nI 57).toNatClampNeg = 57 from ft_cl (by omega)]; rw [show (nI 99).toInt8.toInt32 = nI 99 from by decide +kernel]; exact uE_sI 261 (a := 91) (i := 57) (v := 99) (by decide +kernel)]
  exact i_M_new_399_24 F hc
theorem i_M_new_369_23_b (F : Nat × Nat) {h0 : jH} (hc : j_c h0 = 4) (ff : jH → Option jO) : jbV (m_M_new_369 F 85 (nI 110) (nI 53) 91 91 85 (HN 257 h0)) ff = ff (HN 385 h0) := bV_of (i_M_new_369_23 (F := F) (h0 := h0) (hc := hc)) ff
theorem i_M_new_339_22 (F : Nat × Nat) {h0 : jH} (hc : j_c h0 = 4) : m_M_new_339 F 85 (nI 32) (nI 48) 91 91 85 (HN 252 h0) = some (none, HN 385 h0) := by
  rw [q_M_new_339]
  show (if j_k (HN 252 h0) 91 = 2 ∧ j_in (HN 252 h0) 91 (nI 48) then _ else _) = _
  rw [if_pos (⟨HKn hc (n := 252) (a := 91) (k := 2) (by decide +kernel), by rw [ft_in (by omega), HLn hc (n := 252) (a := 91) (l := 137) (by decide +kernel)]; omega⟩)]
  show (if j_k (j_sI (HN 252 h0) 91 ((nI 48).toNatClampNeg) (nI 32).toInt8.toInt32) 91 = 2 ∧ j_in (j_sI (HN 252 h0) 91 ((nI 48).toNatClampNeg) (nI 32).toInt8.toInt32) 91 (nI 49) then _ else _) = _
  rw [show j_sI (HN 252 h0) 91 ((nI 48).toNatClampNeg) (nI 32).toInt8.toInt32 = (HN 253 h0) from by rw [show (nI 48).toNatClampNeg = 48 from ft_cl (by omega)]; rw [show (nI 32).toInt8.toInt32 = nI 32 from by decide +kernel]; exact uE_sI 252 (a := 91) (i := 48) (v := 32) (by decide +kernel)]
  show (if j_k (HN 253 h0) 91 = 2 ∧ j_in (HN 253 h0) 91 (nI 49) then _ else _) = _
  rw [if_pos (⟨HKn hc (n := 253) (a := 91) (k := 2) (by decide +kernel), by rw [ft_in (by omega), HLn hc (n := 253) (a := 91) (l := 137) (by decide +kernel)]; omega⟩)]
  show (if j_k (j_sI (HN 253 h0) 91 ((nI 49).toNatClampNeg) (nI 107).toInt8.toInt32) 91 = 2 ∧ j_in (j_sI (HN 253 h0) 91 ((nI 49).toNatClampNeg) (nI 107).toInt8.toInt32) 91 (nI 50) then _ else _) = _
  rw [show j_sI (HN 253 h0) 91 ((nI 49).toNatClampNeg) (nI 107).toInt8.toInt32 = (HN 254 h0) from by rw [show (nI 49).toNatClampNeg = 49 from ft_cl (by omega)]; rw [show (nI 107).toInt8.toInt32 = nI 107 from by decide +kernel]; exact uE_sI 253 (a := 91) (i := 49) (v := 107) (by decide +kernel)]
  show (if j_k (HN 254 h0) 91 = 2 ∧ j_in (HN 254 h0) 91 (nI 50) then _ else _) = _
  rw [if_pos (⟨HKn hc (n := 254) (a := 91) (k := 2) (by decide +kernel), by rw [ft_in (by omega), HLn hc (n := 254) (a := 91) (l := 137) (by decide +kernel)]; omega⟩)]
  show (if j_k (j_sI (HN 254 h0) 91 ((nI 50).toNatClampNeg) (nI 110).toInt8.toInt32) 91 = 2 ∧ j_in (j_sI (HN 254 h0) 91 ((nI 50).toNatClampNeg) (nI 110).toInt8.toInt32) 91 (nI 51) then _ else _) = _
  rw [show j_sI (HN 254 h0) 91 ((nI 50).toNatClampNeg) (nI 110).toInt8.toInt32 = (HN 255 h0) from by rw [show (nI 50).toNatClampNeg = 50 from ft_cl (by omega)]; rw [show (nI 110).toInt8.toInt32 = nI 110 from by decide +kernel]; exact uE_sI 254 (a := 91) (i := 50) (v := 110) (by decide +kernel)]
  show (if j_k (HN 255 h0) 91 = 2 ∧ j_in (HN 255 h0) 91 (nI 51) then _ else _) = _
  rw [if_pos (⟨HKn hc (n := 255) (a := 91) (k := 2) (by decide +kernel), by rw [ft_in (by omega), HLn hc (n := 255) (a := 91) (l := 137) (by decide +kernel)]; omega⟩)]
  show (if j_k (j_sI (HN 255 h0) 91 ((nI 51).toNatClampNeg) (nI 111).toInt8.toInt32) 91 = 2 ∧ j_in (j_sI (HN 255 h0) 91 ((nI 51).toNatClampNeg) (nI 111).toInt8.toInt32) 91 (nI 52) then _ else _) = _
  rw [show j_sI (HN 255 h0) 91 ((nI 51).toNatClampNeg) (nI 111).toInt8.toInt32 = (HN 256 h0) from by rw [show (nI 51).toNatClampNeg = 51 from ft_cl (by omega)]; rw [show (nI 111).toInt8.toInt32 = nI 111 from by decide +kernel]; exact uE_sI 255 (a := 91) (i := 51) (v := 111) (by decide +kernel)]
  show (if j_k (HN 256 h0) 91 = 2 ∧ j_in (HN 256 h0) 91 (nI 52) then _ else _) = _
  rw [if_pos (⟨HKn hc (n := 256) (a := 91) (k := 2) (by decide +kernel), by rw [ft_in (by omega), HLn hc (n := 256) (a := 91) (l := 137) (by decide +kernel)]; omega⟩)]
  show m_M_new_369 F 85 (nI 110) (nI 53) 91 91 85 (j_sI (HN 256 h0) 91 ((nI 52).toNatClampNeg) (nI 119).toInt8.toInt32) = _
  rw [show j_sI (HN 256 h0) 91 ((nI 52).toNatClampNeg) (nI 119).toInt8.toInt32 = (HN 257 h0) from by rw [show (nI 52).toNatClampNeg = 52 from ft_cl (by omega)]; rw [show (nI 119).toInt8.toInt32 = nI 119 from by decide +kernel]; exact uE_sI 256 (a := 91) (i := 52) (v := 119) (by decide +kernel)]
  exact i_M_new_369_23 F hc
theorem i_M_new_339_22_b (F : Nat × Nat) {h0 : jH} (hc : j_c h0 = 4) (ff : jH → Option jO) : jbV (m_M_new_339 F 85 (nI 32) (nI 48) 91 91 85 (HN 252 h0)) ff = ff (HN 385 h0) := bV_of (i_M_new_339_22 (F := F) (h0 := h0) (hc := hc)) ff
theorem i_M_new_309_21 (F : Nat × Nat) {h0 : jH} (hc : j_c h0 = 4) : m_M_new_309 F 85 (nI 32) (nI 43) 91 91 85 (HN 247 h0) = some (none, HN 385 h0) := by
  rw [q_M_new_309]
  show (if j_k (HN 247 h0) 91 = 2 ∧ j_in (HN 247 h0) 91 (nI 43) then _ else _) = _
  rw [if_pos (⟨HKn hc (n := 247) (a := 91) (k := 2) (by decide +kernel), by rw [ft_in (by omega), HLn hc (n := 247) (a := 91) (l := 137) (by decide +kernel)]; omega⟩)]
  show (if j_k (j_sI (HN 247 h0) 91 ((nI 43).toNatClampNeg) (nI 32).toInt8.toInt32) 91 = 2 ∧ j_in (j_sI (HN 247 h0) 91 ((nI 43).toNatClampNeg) (nI 32).toInt8.toInt32) 91 (nI 44) then _ else _) = _
  rw [show j_sI (HN 247 h0) 91 ((nI 43).toNatClampNeg) (nI 32).toInt8.toInt32 = (HN 248 h0) from by rw [show (nI 43).toNatClampNeg = 43 from ft_cl (by omega)]; rw [show (nI 32).toInt8.toInt32 = nI 32 from by decide +kernel]; exact uE_sI 247 (a := 91) (i := 43) (v := 32) (by decide +kernel)]
  show (if j_k (HN 248 h0) 91 = 2 ∧ j_in (HN 248 h0) 91 (nI 44) then _ else _) = _
  rw [if_pos (⟨HKn hc (n := 248) (a := 91) (k := 2) (by decide +kernel), by rw [ft_in (by omega), HLn hc (n := 248) (a := 91) (l := 137) (by decide +kernel)]; omega⟩)]
  show (if j_k (j_sI (HN 248 h0) 91 ((nI 44).toNatClampNeg) (nI 114).toInt8.toInt32) 91 = 2 ∧ j_in (j_sI (HN 248 h0) 91 ((nI 44).toNatClampNeg) (nI 114).toInt8.toInt32) 91 (nI 45) then _ else _) = _
  rw [show j_sI (HN 248 h0) 91 ((nI 44).toNatClampNeg) (nI 114).toInt8.toInt32 = (HN 249 h0) from by rw [show (nI 44).toNatClampNeg = 44 from ft_cl (by omega)]; rw [show (nI 114).toInt8.toInt32 = nI 114 from by decide +kernel]; exact uE_sI 248 (a := 91) (i := 44) (v := 114) (by decide +kernel)]
  show (if j_k (HN 249 h0) 91 = 2 ∧ j_in (HN 249 h0) 91 (nI 45) then _ else _) = _
  rw [if_pos (⟨HKn hc (n := 249) (a := 91) (k := 2) (by decide +kernel), by rw [ft_in (by omega), HLn hc (n := 249) (a := 91) (l := 137) (by decide +kernel)]; omega⟩)]
  show (if j_k (j_sI (HN 249 h0) 91 ((nI 45).toNatClampNeg) (nI 105).toInt8.toInt32) 91 = 2 ∧ j_in (j_sI (HN 249 h0) 91 ((nI 45).toNatClampNeg) (nI 105).toInt8.toInt32) 91 (nI 46) then _ else _) = _
  rw [show j_sI (HN 249 h0) 91 ((nI 45).toNatClampNeg) (nI 105).toInt8.toInt32 = (HN 250 h0) from by rw [show (nI 45).toNatClampNeg = 45 from ft_cl (by omega)]; rw [show (nI 105).toInt8.toInt32 = nI 105 from by decide +kernel]; exact uE_sI 249 (a := 91) (i := 45) (v := 105) (by decide +kernel)]
  show (if j_k (HN 250 h0) 91 = 2 ∧ j_in (HN 250 h0) 91 (nI 46) then _ else _) = _
  rw [if_pos (⟨HKn hc (n := 250) (a := 91) (k := 2) (by decide +kernel), by rw [ft_in (by omega), HLn hc (n := 250) (a := 91) (l := 137) (by decide +kernel)]; omega⟩)]
  show (if j_k (j_sI (HN 250 h0) 91 ((nI 46).toNatClampNeg) (nI 115).toInt8.toInt32) 91 = 2 ∧ j_in (j_sI (HN 250 h0) 91 ((nI 46).toNatClampNeg) (nI 115).toInt8.toInt32) 91 (nI 47) then _ else _) = _
  rw [show j_sI (HN 250 h0) 91 ((nI 46).toNatClampNeg) (nI 115).toInt8.toInt32 = (HN 251 h0) from by rw [show (nI 46).toNatClampNeg = 46 from ft_cl (by omega)]; rw [show (nI 115).toInt8.toInt32 = nI 115 from by decide +kernel]; exact uE_sI 250 (a := 91) (i := 46) (v := 115) (by decide +kernel)]
  show (if j_k (HN 251 h0) 91 = 2 ∧ j_in (HN 251 h0) 91 (nI 47) then _ else _) = _
  rw [if_pos (⟨HKn hc (n := 251) (a := 91) (k := 2) (by decide +kernel), by rw [ft_in (by omega), HLn hc (n := 251) (a := 91) (l := 137) (by decide +kernel)]; omega⟩)]
  show m_M_new_339 F 85 (nI 32) (nI 48) 91 91 85 (j_sI (HN 251 h0) 91 ((nI 47).toNatClampNeg) (nI 101).toInt8.toInt32) = _
  rw [show j_sI (HN 251 h0) 91 ((nI 47).toNatClampNeg) (nI 101).toInt8.toInt32 = (HN 252 h0) from by rw [show (nI 47).toNatClampNeg = 47 from ft_cl (by omega)]; rw [show (nI 101).toInt8.toInt32 = nI 101 from by decide +kernel]; exact uE_sI 251 (a := 91) (i := 47) (v := 101) (by decide +kernel)]
  exact i_M_new_339_22 F hc
theorem i_M_new_309_21_b (F : Nat × Nat) {h0 : jH} (hc : j_c h0 = 4) (ff : jH → Option jO) : jbV (m_M_new_309 F 85 (nI 32) (nI 43) 91 91 85 (HN 247 h0)) ff = ff (HN 385 h0) := bV_of (i_M_new_309_21 (F := F) (h0 := h0) (hc := hc)) ff
theorem i_M_new_279_20 (F : Nat × Nat) {h0 : jH} (hc : j_c h0 = 4) : m_M_new_279 F 85 (nI 101) (nI 38) 91 91 85 (HN 242 h0) = some (none, HN 385 h0) := by
  rw [q_M_new_279]
  show (if j_k (HN 242 h0) 91 = 2 ∧ j_in (HN 242 h0) 91 (nI 38) then _ else _) = _
  rw [if_pos (⟨HKn hc (n := 242) (a := 91) (k := 2) (by decide +kernel), by rw [ft_in (by omega), HLn hc (n := 242) (a := 91) (l := 137) (by decide +kernel)]; omega⟩)]
  show (if j_k (j_sI (HN 242 h0) 91 ((nI 38).toNatClampNeg) (nI 101).toInt8.toInt32) 91 = 2 ∧ j_in (j_sI (HN 242 h0) 91 ((nI 38).toNatClampNeg) (nI 101).toInt8.toInt32) 91 (nI 39) then _ else _) = _
  rw [show j_sI (HN 242 h0) 91 ((nI 38).toNatClampNeg) (nI 101).toInt8.toInt32 = (HN 243 h0) from by rw [show (nI 38).toNatClampNeg = 38 from ft_cl (by omega)]; rw [show (nI 101).toInt8.toInt32 = nI 101 from by decide +kernel]; exact uE_sI 242 (a := 91) (i := 38) (v := 101) (by decide +kernel)]
  show (if j_k (HN 243 h0) 91 = 2 ∧ j_in (HN 243 h0) 91 (nI 39) then _ else _) = _
  rw [if_pos (⟨HKn hc (n := 243) (a := 91) (k := 2) (by decide +kernel), by rw [ft_in (by omega), HLn hc (n := 243) (a := 91) (l := 137) (by decide +kernel)]; omega⟩)]
  show (if j_k (j_sI (HN 243 h0) 91 ((nI 39).toNatClampNeg) (nI 105).toInt8.toInt32) 91 = 2 ∧ j_in (j_sI (HN 243 h0) 91 ((nI 39).toNatClampNeg) (nI 105).toInt8.toInt32) 91 (nI 40) then _ else _) = _
  rw [show j_sI (HN 243 h0) 91 ((nI 39).toNatClampNeg) (nI 105).toInt8.toInt32 = (HN 244 h0) from by rw [show (nI 39).toNatClampNeg = 39 from ft_cl (by omega)]; rw [show (nI 105).toInt8.toInt32 = nI 105 from by decide +kernel]; exact uE_sI 243 (a := 91) (i := 39) (v := 105) (by decide +kernel)]
  show (if j_k (HN 244 h0) 91 = 2 ∧ j_in (HN 244 h0) 91 (nI 40) then _ else _) = _
  rw [if_pos (⟨HKn hc (n := 244) (a := 91) (k := 2) (by decide +kernel), by rw [ft_in (by omega), HLn hc (n := 244) (a := 91) (l := 137) (by decide +kernel)]; omega⟩)]
  show (if j_k (j_sI (HN 244 h0) 91 ((nI 40).toNatClampNeg) (nI 103).toInt8.toInt32) 91 = 2 ∧ j_in (j_sI (HN 244 h0) 91 ((nI 40).toNatClampNeg) (nI 103).toInt8.toInt32) 91 (nI 41) then _ else _) = _
  rw [show j_sI (HN 244 h0) 91 ((nI 40).toNatClampNeg) (nI 103).toInt8.toInt32 = (HN 245 h0) from by rw [show (nI 40).toNatClampNeg = 40 from ft_cl (by omega)]; rw [show (nI 103).toInt8.toInt32 = nI 103 from by decide +kernel]; exact uE_sI 244 (a := 91) (i := 40) (v := 103) (by decide +kernel)]
  show (if j_k (HN 245 h0) 91 = 2 ∧ j_in (HN 245 h0) 91 (nI 41) then _ else _) = _
  rw [if_pos (⟨HKn hc (n := 245) (a := 91) (k := 2) (by decide +kernel), by rw [ft_in (by omega), HLn hc (n := 245) (a := 91) (l := 137) (by decide +kernel)]; omega⟩)]
  show (if j_k (j_sI (HN 245 h0) 91 ((nI 41).toNatClampNeg) (nI 104).toInt8.toInt32) 91 = 2 ∧ j_in (j_sI (HN 245 h0) 91 ((nI 41).toNatClampNeg) (nI 104).toInt8.toInt32) 91 (nI 42) then _ else _) = _
  rw [show j_sI (HN 245 h0) 91 ((nI 41).toNatClampNeg) (nI 104).toInt8.toInt32 = (HN 246 h0) from by rw [show (nI 41).toNatClampNeg = 41 from ft_cl (by omega)]; rw [show (nI 104).toInt8.toInt32 = nI 104 from by decide +kernel]; exact uE_sI 245 (a := 91) (i := 41) (v := 104) (by decide +kernel)]
  show (if j_k (HN 246 h0) 91 = 2 ∧ j_in (HN 246 h0) 91 (nI 42) then _ else _) = _
  rw [if_pos (⟨HKn hc (n := 246) (a := 91) (k := 2) (by decide +kernel), by rw [ft_in (by omega), HLn hc (n := 246) (a := 91) (l := 137) (by decide +kernel)]; omega⟩)]
  show m_M_new_309 F 85 (nI 32) (nI 43) 91 91 85 (j_sI (HN 246 h0) 91 ((nI 42).toNatClampNeg) (nI 116).toInt8.toInt32) = _
  rw [show j_sI (HN 246 h0) 91 ((nI 42).toNatClampNeg) (nI 116).toInt8.toInt32 = (HN 247 h0) from by rw [show (nI 42).toNatClampNeg = 42 from ft_cl (by omega)]; rw [show (nI 116).toInt8.toInt32 = nI 116 from by decide +kernel]; exact uE_sI 246 (a := 91) (i := 42) (v := 116) (by decide +kernel)]
  exact i_M_new_309_21 F hc
theorem i_M_new_279_20_b (F : Nat × Nat) {h0 : jH} (hc : j_c h0 = 4) (ff : jH → Option jO) : jbV (m_M_new_279 F 85 (nI 101) (nI 38) 91 91 85 (HN 242 h0)) ff = ff (HN 385 h0) := bV_of (i_M_new_279_20 (F := F) (h0 := h0) (hc := hc)) ff
theorem i_M_new_249_19 (F : Nat × Nat) {h0 : jH} (hc : j_c h0 = 4) : m_M_new_249 F 85 (nI 107) (nI 33) 91 91 85 (HN 237 h0) = some (none, HN 385 h0) := by
  rw [q_M_new_249]
  show (if j_k (HN 237 h0) 91 = 2 ∧ j_in (HN 237 h0) 91 (nI 33) then _ else _) = _
  rw [if_pos (⟨HKn hc (n := 237) (a := 91) (k := 2) (by decide +kernel), by rw [ft_in (by omega), HLn hc (n := 237) (a := 91) (l := 137) (by decide +kernel)]; omega⟩)]
  show (if j_k (j_sI (HN 237 h0) 91 ((nI 33).toNatClampNeg) (nI 107).toInt8.toInt32) 91 = 2 ∧ j_in (j_sI (HN 237 h0) 91 ((nI 33).toNatClampNeg) (nI 107).toInt8.toInt32) 91 (nI 34) then _ else _) = _
  rw [show j_sI (HN 237 h0) 91 ((nI 33).toNatClampNeg) (nI 107).toInt8.toInt32 = (HN 238 h0) from by rw [show (nI 33).toNatClampNeg = 33 from ft_cl (by omega)]; rw [show (nI 107).toInt8.toInt32 = nI 107 from by decide +kernel]; exact uE_sI 237 (a := 91) (i := 33) (v := 107) (by decide +kernel)]
  show (if j_k (HN 238 h0) 91 = 2 ∧ j_in (HN 238 h0) 91 (nI 34) then _ else _) = _
  rw [if_pos (⟨HKn hc (n := 238) (a := 91) (k := 2) (by decide +kernel), by rw [ft_in (by omega), HLn hc (n := 238) (a := 91) (l := 137) (by decide +kernel)]; omega⟩)]
  show (if j_k (j_sI (HN 238 h0) 91 ((nI 34).toNatClampNeg) (nI 101).toInt8.toInt32) 91 = 2 ∧ j_in (j_sI (HN 238 h0) 91 ((nI 34).toNatClampNeg) (nI 101).toInt8.toInt32) 91 (nI 35) then _ else _) = _
  rw [show j_sI (HN 238 h0) 91 ((nI 34).toNatClampNeg) (nI 101).toInt8.toInt32 = (HN 239 h0) from by rw [show (nI 34).toNatClampNeg = 34 from ft_cl (by omega)]; rw [show (nI 101).toInt8.toInt32 = nI 101 from by decide +kernel]; exact uE_sI 238 (a := 91) (i := 34) (v := 101) (by decide +kernel)]
  show (if j_k (HN 239 h0) 91 = 2 ∧ j_in (HN 239 h0) 91 (nI 35) then _ else _) = _
  rw [if_pos (⟨HKn hc (n := 239) (a := 91) (k := 2) (by decide +kernel), by rw [ft_in (by omega), HLn hc (n := 239) (a := 91) (l := 137) (by decide +kernel)]; omega⟩)]
  show (if j_k (j_sI (HN 239 h0) 91 ((nI 35).toNatClampNeg) (nI 114).toInt8.toInt32) 91 = 2 ∧ j_in (j_sI (HN 239 h0) 91 ((nI 35).toNatClampNeg) (nI 114).toInt8.toInt32) 91 (nI 36) then _ else _) = _
  rw [show j_sI (HN 239 h0) 91 ((nI 35).toNatClampNeg) (nI 114).toInt8.toInt32 = (HN 240 h0) from by rw [show (nI 35).toNatClampNeg = 35 from ft_cl (by omega)]; rw [show (nI 114).toInt8.toInt32 = nI 114 from by decide +kernel]; exact uE_sI 239 (a := 91) (i := 35) (v := 114) (by decide +kernel)]
  show (if j_k (HN 240 h0) 91 = 2 ∧ j_in (HN 240 h0) 91 (nI 36) then _ else _) = _
  rw [if_pos (⟨HKn hc (n := 240) (a := 91) (k := 2) (by decide +kernel), by rw [ft_in (by omega), HLn hc (n := 240) (a := 91) (l := 137) (by decide +kernel)]; omega⟩)]
  show (if j_k (j_sI (HN 240 h0) 91 ((nI 36).toNatClampNeg) (nI 32).toInt8.toInt32) 91 = 2 ∧ j_in (j_sI (HN 240 h0) 91 ((nI 36).toNatClampNeg) (nI 32).toInt8.toInt32) 91 (nI 37) then _ else _) = _
  rw [show j_sI (HN 240 h0) 91 ((nI 36).toNatClampNeg) (nI 32).toInt8.toInt32 = (HN 241 h0) from by rw [show (nI 36).toNatClampNeg = 36 from ft_cl (by omega)]; rw [show (nI 32).toInt8.toInt32 = nI 32 from by decide +kernel]; exact uE_sI 240 (a := 91) (i := 36) (v := 32) (by decide +kernel)]
  show (if j_k (HN 241 h0) 91 = 2 ∧ j_in (HN 241 h0) 91 (nI 37) then _ else _) = _
  rw [if_pos (⟨HKn hc (n := 241) (a := 91) (k := 2) (by decide +kernel), by rw [ft_in (by omega), HLn hc (n := 241) (a := 91) (l := 137) (by decide +kernel)]; omega⟩)]
  show m_M_new_279 F 85 (nI 101) (nI 38) 91 91 85 (j_sI (HN 241 h0) 91 ((nI 37).toNatClampNeg) (nI 104).toInt8.toInt32) = _
  rw [show j_sI (HN 241 h0) 91 ((nI 37).toNatClampNeg) (nI 104).toInt8.toInt32 = (HN 242 h0) from by rw [show (nI 37).toNatClampNeg = 37 from ft_cl (by omega)]; rw [show (nI 104).toInt8.toInt32 = nI 104 from by decide +kernel]; exact uE_sI 241 (a := 91) (i := 37) (v := 104) (by decide +kernel)]
  exact i_M_new_279_20 F hc
theorem i_M_new_249_19_b (F : Nat × Nat) {h0 : jH} (hc : j_c h0 = 4) (ff : jH → Option jO) : jbV (m_M_new_249 F 85 (nI 107) (nI 33) 91 91 85 (HN 237 h0)) ff = ff (HN 385 h0) := bV_of (i_M_new_249_19 (F := F) (h0 := h0) (hc := hc)) ff
theorem i_M_new_219_18 (F : Nat × Nat) {h0 : jH} (hc : j_c h0 = 4) : m_M_new_219 F 85 (nI 116) (nI 28) 91 91 85 (HN 232 h0) = some (none, HN 385 h0) := by
  rw [q_M_new_219]
  show (if j_k (HN 232 h0) 91 = 2 ∧ j_in (HN 232 h0) 91 (nI 28) then _ else _) = _
  rw [if_pos (⟨HKn hc (n := 232) (a := 91) (k := 2) (by decide +kernel), by rw [ft_in (by omega), HLn hc (n := 232) (a := 91) (l := 137) (by decide +kernel)]; omega⟩)]
  show (if j_k (j_sI (HN 232 h0) 91 ((nI 28).toNatClampNeg) (nI 116).toInt8.toInt32) 91 = 2 ∧ j_in (j_sI (HN 232 h0) 91 ((nI 28).toNatClampNeg) (nI 116).toInt8.toInt32) 91 (nI 29) then _ else _) = _
  rw [show j_sI (HN 232 h0) 91 ((nI 28).toNatClampNeg) (nI 116).toInt8.toInt32 = (HN 233 h0) from by rw [show (nI 28).toNatClampNeg = 28 from ft_cl (by omega)]; rw [show (nI 116).toInt8.toInt32 = nI 116 from by decide +kernel]; exact uE_sI 232 (a := 91) (i := 28) (v := 116) (by decide +kernel)]
  show (if j_k (HN 233 h0) 91 = 2 ∧ j_in (HN 233 h0) 91 (nI 29) then _ else _) = _
  rw [if_pos (⟨HKn hc (n := 233) (a := 91) (k := 2) (by decide +kernel), by rw [ft_in (by omega), HLn hc (n := 233) (a := 91) (l := 137) (by decide +kernel)]; omega⟩)]
  show (if j_k (j_sI (HN 233 h0) 91 ((nI 29).toNatClampNeg) (nI 32).toInt8.toInt32) 91 = 2 ∧ j_in (j_sI (HN 233 h0) 91 ((nI 29).toNatClampNeg) (nI 32).toInt8.toInt32) 91 (nI 30) then _ else _) = _
  rw [show j_sI (HN 233 h0) 91 ((nI 29).toNatClampNeg) (nI 32).toInt8.toInt32 = (HN 234 h0) from by rw [show (nI 29).toNatClampNeg = 29 from ft_cl (by omega)]; rw [show (nI 32).toInt8.toInt32 = nI 32 from by decide +kernel]; exact uE_sI 233 (a := 91) (i := 29) (v := 32) (by decide +kernel)]
  show (if j_k (HN 234 h0) 91 = 2 ∧ j_in (HN 234 h0) 91 (nI 30) then _ else _) = _
  rw [if_pos (⟨HKn hc (n := 234) (a := 91) (k := 2) (by decide +kernel), by rw [ft_in (by omega), HLn hc (n := 234) (a := 91) (l := 137) (by decide +kernel)]; omega⟩)]
  show (if j_k (j_sI (HN 234 h0) 91 ((nI 30).toNatClampNeg) (nI 119).toInt8.toInt32) 91 = 2 ∧ j_in (j_sI (HN 234 h0) 91 ((nI 30).toNatClampNeg) (nI 119).toInt8.toInt32) 91 (nI 31) then _ else _) = _
  rw [show j_sI (HN 234 h0) 91 ((nI 30).toNatClampNeg) (nI 119).toInt8.toInt32 = (HN 235 h0) from by rw [show (nI 30).toNatClampNeg = 30 from ft_cl (by omega)]; rw [show (nI 119).toInt8.toInt32 = nI 119 from by decide +kernel]; exact uE_sI 234 (a := 91) (i := 30) (v := 119) (by decide +kernel)]
  show (if j_k (HN 235 h0) 91 = 2 ∧ j_in (HN 235 h0) 91 (nI 31) then _ else _) = _
  rw [if_pos (⟨HKn hc (n := 235) (a := 91) (k := 2) (by decide +kernel), by rw [ft_in (by omega), HLn hc (n := 235) (a := 91) (l := 137) (by decide +kernel)]; omega⟩)]
  show (if j_k (j_sI (HN 235 h0) 91 ((nI 31).toNatClampNeg) (nI 97).toInt8.toInt32) 91 = 2 ∧ j_in (j_sI (HN 235 h0) 91 ((nI 31).toNatClampNeg) (nI 97).toInt8.toInt32) 91 (nI 32) then _ else _) = _
  rw [show j_sI (HN 235 h0) 91 ((nI 31).toNatClampNeg) (nI 97).toInt8.toInt32 = (HN 236 h0) from by rw [show (nI 31).toNatClampNeg = 31 from ft_cl (by omega)]; rw [show (nI 97).toInt8.toInt32 = nI 97 from by decide +kernel]; exact uE_sI 235 (a := 91) (i := 31) (v := 97) (by decide +kernel)]
  show (if j_k (HN 236 h0) 91 = 2 ∧ j_in (HN 236 h0) 91 (nI 32) then _ else _) = _
  rw [if_pos (⟨HKn hc (n := 236) (a := 91) (k := 2) (by decide +kernel), by rw [ft_in (by omega), HLn hc (n := 236) (a := 91) (l := 137) (by decide +kernel)]; omega⟩)]
  show m_M_new_249 F 85 (nI 107) (nI 33) 91 91 85 (j_sI (HN 236 h0) 91 ((nI 32).toNatClampNeg) (nI 108).toInt8.toInt32) = _
  rw [show j_sI (HN 236 h0) 91 ((nI 32).toNatClampNeg) (nI 108).toInt8.toInt32 = (HN 237 h0) from by rw [show (nI 32).toNatClampNeg = 32 from ft_cl (by omega)]; rw [show (nI 108).toInt8.toInt32 = nI 108 from by decide +kernel]; exact uE_sI 236 (a := 91) (i := 32) (v := 108) (by decide +kernel)]
  exact i_M_new_249_19 F hc
theorem i_M_new_219_18_b (F : Nat × Nat) {h0 : jH} (hc : j_c h0 = 4) (ff : jH → Option jO) : jbV (m_M_new_219 F 85 (nI 116) (nI 28) 91 91 85 (HN 232 h0)) ff = ff (HN 385 h0) := bV_of (i_M_new_219_18 (F := F) (h0 := h0) (hc := hc)) ff
theorem i_M_new_189_17 (F : Nat × Nat) {h0 : jH} (hc : j_c h0 = 4) : m_M_new_189 F 85 (nI 110) (nI 23) 91 91 85 (HN 227 h0) = some (none, HN 385 h0) := by
  rw [q_M_new_189]
  show (if j_k (HN 227 h0) 91 = 2 ∧ j_in (HN 227 h0) 91 (nI 23) then _ else _) = _
  rw [if_pos (⟨HKn hc (n := 227) (a := 91) (k := 2) (by decide +kernel), by rw [ft_in (by omega), HLn hc (n := 227) (a := 91) (l := 137) (by decide +kernel)]; omega⟩)]
  show (if j_k (j_sI (HN 227 h0) 91 ((nI 23).toNatClampNeg) (nI 110).toInt8.toInt32) 91 = 2 ∧ j_in (j_sI (HN 227 h0) 91 ((nI 23).toNatClampNeg) (nI 110).toInt8.toInt32) 91 (nI 24) then _ else _) = _
  rw [show j_sI (HN 227 h0) 91 ((nI 23).toNatClampNeg) (nI 110).toInt8.toInt32 = (HN 228 h0) from by rw [show (nI 23).toNatClampNeg = 23 from ft_cl (by omega)]; rw [show (nI 110).toInt8.toInt32 = nI 110 from by decide +kernel]; exact uE_sI 227 (a := 91) (i := 23) (v := 110) (by decide +kernel)]
  show (if j_k (HN 228 h0) 91 = 2 ∧ j_in (HN 228 h0) 91 (nI 24) then _ else _) = _
  rw [if_pos (⟨HKn hc (n := 228) (a := 91) (k := 2) (by decide +kernel), by rw [ft_in (by omega), HLn hc (n := 228) (a := 91) (l := 137) (by decide +kernel)]; omega⟩)]
  show (if j_k (j_sI (HN 228 h0) 91 ((nI 24).toNatClampNeg) (nI 100).toInt8.toInt32) 91 = 2 ∧ j_in (j_sI (HN 228 h0) 91 ((nI 24).toNatClampNeg) (nI 100).toInt8.toInt32) 91 (nI 25) then _ else _) = _
  rw [show j_sI (HN 228 h0) 91 ((nI 24).toNatClampNeg) (nI 100).toInt8.toInt32 = (HN 229 h0) from by rw [show (nI 24).toNatClampNeg = 24 from ft_cl (by omega)]; rw [show (nI 100).toInt8.toInt32 = nI 100 from by decide +kernel]; exact uE_sI 228 (a := 91) (i := 24) (v := 100) (by decide +kernel)]
  show (if j_k (HN 229 h0) 91 = 2 ∧ j_in (HN 229 h0) 91 (nI 25) then _ else _) = _
  rw [if_pos (⟨HKn hc (n := 229) (a := 91) (k := 2) (by decide +kernel), by rw [ft_in (by omega), HLn hc (n := 229) (a := 91) (l := 137) (by decide +kernel)]; omega⟩)]
  show (if j_k (j_sI (HN 229 h0) 91 ((nI 25).toNatClampNeg) (nI 32).toInt8.toInt32) 91 = 2 ∧ j_in (j_sI (HN 229 h0) 91 ((nI 25).toNatClampNeg) (nI 32).toInt8.toInt32) 91 (nI 26) then _ else _) = _
  rw [show j_sI (HN 229 h0) 91 ((nI 25).toNatClampNeg) (nI 32).toInt8.toInt32 = (HN 230 h0) from by rw [show (nI 25).toNatClampNeg = 25 from ft_cl (by omega)]; rw [show (nI 32).toInt8.toInt32 = nI 32 from by decide +kernel]; exact uE_sI 229 (a := 91) (i := 25) (v := 32) (by decide +kernel)]
  show (if j_k (HN 230 h0) 91 = 2 ∧ j_in (HN 230 h0) 91 (nI 26) then _ else _) = _
  rw [if_pos (⟨HKn hc (n := 230) (a := 91) (k := 2) (by decide +kernel), by rw [ft_in (by omega), HLn hc (n := 230) (a := 91) (l := 137) (by decide +kernel)]; omega⟩)]
  show (if j_k (j_sI (HN 230 h0) 91 ((nI 26).toNatClampNeg) (nI 110).toInt8.toInt32) 91 = 2 ∧ j_in (j_sI (HN 230 h0) 91 ((nI 26).toNatClampNeg) (nI 110).toInt8.toInt32) 91 (nI 27) then _ else _) = _
  rw [show j_sI (HN 230 h0) 91 ((nI 26).toNatClampNeg) (nI 110).toInt8.toInt32 = (HN 231 h0) from by rw [show (nI 26).toNatClampNeg = 26 from ft_cl (by omega)]; rw [show (nI 110).toInt8.toInt32 = nI 110 from by decide +kernel]; exact uE_sI 230 (a := 91) (i := 26) (v := 110) (by decide +kernel)]
  show (if j_k (HN 231 h0) 91 = 2 ∧ j_in (HN 231 h0) 91 (nI 27) then _ else _) = _
  rw [if_pos (⟨HKn hc (n := 231) (a := 91) (k := 2) (by decide +kernel), by rw [ft_in (by omega), HLn hc (n := 231) (a := 91) (l := 137) (by decide +kernel)]; omega⟩)]
  show m_M_new_219 F 85 (nI 116) (nI 28) 91 91 85 (j_sI (HN 231 h0) 91 ((nI 27).toNatClampNeg) (nI 111).toInt8.toInt32) = _
  rw [show j_sI (HN 231 h0) 91 ((nI 27).toNatClampNeg) (nI 111).toInt8.toInt32 = (HN 232 h0) from by rw [show (nI 27).toNatClampNeg = 27 from ft_cl (by omega)]; rw [show (nI 111).toInt8.toInt32 = nI 111 from by decide +kernel]; exact uE_sI 231 (a := 91) (i := 27) (v := 111) (by decide +kernel)]
  exact i_M_new_219_18 F hc
theorem i_M_new_189_17_b (F : Nat × Nat) {h0 : jH} (hc : j_c h0 = 4) (ff : jH → Option jO) : jbV (m_M_new_189 F 85 (nI 110) (nI 23) 91 91 85 (HN 227 h0)) ff = ff (HN 385 h0) := bV_of (i_M_new_189_17 (F := F) (h0 := h0) (hc := hc)) ff
theorem i_M_new_159_16 (F : Nat × Nat) {h0 : jH} (hc : j_c h0 = 4) : m_M_new_159 F 85 (nI 32) (nI 18) 91 91 85 (HN 222 h0) = some (none, HN 385 h0) := by
  rw [q_M_new_159]
  show (if j_k (HN 222 h0) 91 = 2 ∧ j_in (HN 222 h0) 91 (nI 18) then _ else _) = _
  rw [if_pos (⟨HKn hc (n := 222) (a := 91) (k := 2) (by decide +kernel), by rw [ft_in (by omega), HLn hc (n := 222) (a := 91) (l := 137) (by decide +kernel)]; omega⟩)]
  show (if j_k (j_sI (HN 222 h0) 91 ((nI 18).toNatClampNeg) (nI 32).toInt8.toInt32) 91 = 2 ∧ j_in (j_sI (HN 222 h0) 91 ((nI 18).toNatClampNeg) (nI 32).toInt8.toInt32) 91 (nI 19) then _ else _) = _
  rw [show j_sI (HN 222 h0) 91 ((nI 18).toNatClampNeg) (nI 32).toInt8.toInt32 = (HN 223 h0) from by rw [show (nI 18).toNatClampNeg = 18 from ft_cl (by omega)]; rw [show (nI 32).toInt8.toInt32 = nI 32 from by decide +kernel]; exact uE_sI 222 (a := 91) (i := 18) (v := 32) (by decide +kernel)]
  show (if j_k (HN 223 h0) 91 = 2 ∧ j_in (HN 223 h0) 91 (nI 19) then _ else _) = _
  rw [if_pos (⟨HKn hc (n := 223) (a := 91) (k := 2) (by decide +kernel), by rw [ft_in (by omega), HLn hc (n := 223) (a := 91) (l := 137) (by decide +kernel)]; omega⟩)]
  show (if j_k (j_sI (HN 223 h0) 91 ((nI 19).toNatClampNeg) (nI 111).toInt8.toInt32) 91 = 2 ∧ j_in (j_sI (HN 223 h0) 91 ((nI 19).toNatClampNeg) (nI 111).toInt8.toInt32) 91 (nI 20) then _ else _) = _
  rw [show j_sI (HN 223 h0) 91 ((nI 19).toNatClampNeg) (nI 111).toInt8.toInt32 = (HN 224 h0) from by rw [show (nI 19).toNatClampNeg = 19 from ft_cl (by omega)]; rw [show (nI 111).toInt8.toInt32 = nI 111 from by decide +kernel]; exact uE_sI 223 (a := 91) (i := 19) (v := 111) (by decide +kernel)]
  show (if j_k (HN 224 h0) 91 = 2 ∧ j_in (HN 224 h0) 91 (nI 20) then _ else _) = _
  rw [if_pos (⟨HKn hc (n := 224) (a := 91) (k := 2) (by decide +kernel), by rw [ft_in (by omega), HLn hc (n := 224) (a := 91) (l := 137) (by decide +kernel)]; omega⟩)]
  show (if j_k (j_sI (HN 224 h0) 91 ((nI 20).toNatClampNeg) (nI 114).toInt8.toInt32) 91 = 2 ∧ j_in (j_sI (HN 224 h0) 91 ((nI 20).toNatClampNeg) (nI 114).toInt8.toInt32) 91 (nI 21) then _ else _) = _
  rw [show j_sI (HN 224 h0) 91 ((nI 20).toNatClampNeg) (nI 114).toInt8.toInt32 = (HN 225 h0) from by rw [show (nI 20).toNatClampNeg = 20 from ft_cl (by omega)]; rw [show (nI 114).toInt8.toInt32 = nI 114 from by decide +kernel]; exact uE_sI 224 (a := 91) (i := 20) (v := 114) (by decide +kernel)]
  show (if j_k (HN 225 h0) 91 = 2 ∧ j_in (HN 225 h0) 91 (nI 21) then _ else _) = _
  rw [if_pos (⟨HKn hc (n := 225) (a := 91) (k := 2) (by decide +kernel), by rw [ft_in (by omega), HLn hc (n := 225) (a := 91) (l := 137) (by decide +kernel)]; omega⟩)]
  show (if j_k (j_sI (HN 225 h0) 91 ((nI 21).toNatClampNeg) (nI 32).toInt8.toInt32) 91 = 2 ∧ j_in (j_sI (HN 225 h0) 91 ((nI 21).toNatClampNeg) (nI 32).toInt8.toInt32) 91 (nI 22) then _ else _) = _
  rw [show j_sI (HN 225 h0) 91 ((nI 21).toNatClampNeg) (nI 32).toInt8.toInt32 = (HN 226 h0) from by rw [show (nI 21).toNatClampNeg = 21 from ft_cl (by omega)]; rw [show (nI 32).toInt8.toInt32 = nI 32 from by decide +kernel]; exact uE_sI 225 (a := 91) (i := 21) (v := 32) (by decide +kernel)]
  show (if j_k (HN 226 h0) 91 = 2 ∧ j_in (HN 226 h0) 91 (nI 22) then _ else _) = _
  rw [if_pos (⟨HKn hc (n := 226) (a := 91) (k := 2) (by decide +kernel), by rw [ft_in (by omega), HLn hc (n := 226) (a := 91) (l := 137) (by decide +kernel)]; omega⟩)]
  show m_M_new_189 F 85 (nI 110) (nI 23) 91 91 85 (j_sI (HN 226 h0) 91 ((nI 22).toNatClampNeg) (nI 97).toInt8.toInt32) = _
  rw [show j_sI (HN 226 h0) 91 ((nI 22).toNatClampNeg) (nI 97).toInt8.toInt32 = (HN 227 h0) from by rw [show (nI 22).toNatClampNeg = 22 from ft_cl (by omega)]; rw [show (nI 97).toInt8.toInt32 = nI 97 from by decide +kernel]; exact uE_sI 226 (a := 91) (i := 22) (v := 97) (by decide +kernel)]
  exact i_M_new_189_17 F hc
theorem i_M_new_159_16_b (F : Nat × Nat) {h0 : jH} (hc : j_c h0 = 4) (ff : jH → Option jO) : jbV (m_M_new_159 F 85 (nI 32) (nI 18) 91 91 85 (HN 222 h0)) ff = ff (HN 385 h0) := bV_of (i_M_new_159_16 (F := F) (h0 := h0) (hc := hc)) ff
theorem i_M_new_129_15 (F : Nat × Nat) {h0 : jH} (hc : j_c h0 = 4) : m_M_new_129 F 85 (nI 114) (nI 13) 91 91 85 (HN 217 h0) = some (none, HN 385 h0) := by
  rw [q_M_new_129]
  show (if j_k (HN 217 h0) 91 = 2 ∧ j_in (HN 217 h0) 91 (nI 13) then _ else _) = _
  rw [if_pos (⟨HKn hc (n := 217) (a := 91) (k := 2) (by decide +kernel), by rw [ft_in (by omega), HLn hc (n := 217) (a := 91) (l := 137) (by decide +kernel)]; omega⟩)]
  show (if j_k (j_sI (HN 217 h0) 91 ((nI 13).toNatClampNeg) (nI 114).toInt8.toInt32) 91 = 2 ∧ j_in (j_sI (HN 217 h0) 91 ((nI 13).toNatClampNeg) (nI 114).toInt8.toInt32) 91 (nI 14) then _ else _) = _
  rw [show j_sI (HN 217 h0) 91 ((nI 13).toNatClampNeg) (nI 114).toInt8.toInt32 = (HN 218 h0) from by rw [show (nI 13).toNatClampNeg = 13 from ft_cl (by omega)]; rw [show (nI 114).toInt8.toInt32 = nI 114 from by decide +kernel]; exact uE_sI 217 (a := 91) (i := 13) (v := 114) (by decide +kernel)]
  show (if j_k (HN 218 h0) 91 = 2 ∧ j_in (HN 218 h0) 91 (nI 14) then _ else _) = _
  rw [if_pos (⟨HKn hc (n := 218) (a := 91) (k := 2) (by decide +kernel), by rw [ft_in (by omega), HLn hc (n := 218) (a := 91) (l := 137) (by decide +kernel)]; omega⟩)]
  show (if j_k (j_sI (HN 218 h0) 91 ((nI 14).toNatClampNeg) (nI 115).toInt8.toInt32) 91 = 2 ∧ j_in (j_sI (HN 218 h0) 91 ((nI 14).toNatClampNeg) (nI 115).toInt8.toInt32) 91 (nI 15) then _ else _) = _
  rw [show j_sI (HN 218 h0) 91 ((nI 14).toNatClampNeg) (nI 115).toInt8.toInt32 = (HN 219 h0) from by rw [show (nI 14).toNatClampNeg = 14 from ft_cl (by omega)]; rw [show (nI 115).toInt8.toInt32 = nI 115 from by decide +kernel]; exact uE_sI 218 (a := 91) (i := 14) (v := 115) (by decide +kernel)]
  show (if j_k (HN 219 h0) 91 = 2 ∧ j_in (HN 219 h0) 91 (nI 15) then _ else _) = _
  rw [if_pos (⟨HKn hc (n := 219) (a := 91) (k := 2) (by decide +kernel), by rw [ft_in (by omega), HLn hc (n := 219) (a := 91) (l := 137) (by decide +kernel)]; omega⟩)]
  show (if j_k (j_sI (HN 219 h0) 91 ((nI 15).toNatClampNeg) (nI 32).toInt8.toInt32) 91 = 2 ∧ j_in (j_sI (HN 219 h0) 91 ((nI 15).toNatClampNeg) (nI 32).toInt8.toInt32) 91 (nI 16) then _ else _) = _
  rw [show j_sI (HN 219 h0) 91 ((nI 15).toNatClampNeg) (nI 32).toInt8.toInt32 = (HN 220 h0) from by rw [show (nI 15).toNatClampNeg = 15 from ft_cl (by omega)]; rw [show (nI 32).toInt8.toInt32 = nI 32 from by decide +kernel]; exact uE_sI 219 (a := 91) (i := 15) (v := 32) (by decide +kernel)]
  show (if j_k (HN 220 h0) 91 = 2 ∧ j_in (HN 220 h0) 91 (nI 16) then _ else _) = _
  rw [if_pos (⟨HKn hc (n := 220) (a := 91) (k := 2) (by decide +kernel), by rw [ft_in (by omega), HLn hc (n := 220) (a := 91) (l := 137) (by decide +kernel)]; omega⟩)]
  show (if j_k (j_sI (HN 220 h0) 91 ((nI 16).toNatClampNeg) (nI 105).toInt8.toInt32) 91 = 2 ∧ j_in (j_sI (HN 220 h0) 91 ((nI 16).toNatClampNeg) (nI 105).toInt8.toInt32) 91 (nI 17) then _ else _) = _
  rw [show j_sI (HN 220 h0) 91 ((nI 16).toNatClampNeg) (nI 105).toInt8.toInt32 = (HN 221 h0) from by rw [show (nI 16).toNatClampNeg = 16 from ft_cl (by omega)]; rw [show (nI 105).toInt8.toInt32 = nI 105 from by decide +kernel]; exact uE_sI 220 (a := 91) (i := 16) (v := 105) (by decide +kernel)]
  show (if j_k (HN 221 h0) 91 = 2 ∧ j_in (HN 221 h0) 91 (nI 17) then _ else _) = _
  rw [if_pos (⟨HKn hc (n := 221) (a := 91) (k := 2) (by decide +kernel), by rw [ft_in (by omega), HLn hc (n := 221) (a := 91) (l := 137) (by decide +kernel)]; omega⟩)]
  show m_M_new_159 F 85 (nI 32) (nI 18) 91 91 85 (j_sI (HN 221 h0) 91 ((nI 17).toNatClampNeg) (nI 102).toInt8.toInt32) = _
  rw [show j_sI (HN 221 h0) 91 ((nI 17).toNatClampNeg) (nI 102).toInt8.toInt32 = (HN 222 h0) from by rw [show (nI 17).toNatClampNeg = 17 from ft_cl (by omega)]; rw [show (nI 102).toInt8.toInt32 = nI 102 from by decide +kernel]; exact uE_sI 221 (a := 91) (i := 17) (v := 102) (by decide +kernel)]
  exact i_M_new_159_16 F hc
theorem i_M_new_129_15_b (F : Nat × Nat) {h0 : jH} (hc : j_c h0 = 4) (ff : jH → Option jO) : jbV (m_M_new_129 F 85 (nI 114) (nI 13) 91 91 85 (HN 217 h0)) ff = ff (HN 385 h0) := bV_of (i_M_new_129_15 (F := F) (h0 := h0) (hc := hc)) ff
theorem i_M_new_99_14 (F : Nat × Nat) {h0 : jH} (hc : j_c h0 = 4) : m_M_new_99 F 85 (nI 101) (nI 8) 91 91 85 (HN 212 h0) = some (none, HN 385 h0) := by
  rw [q_M_new_99]
  show (if j_k (HN 212 h0) 91 = 2 ∧ j_in (HN 212 h0) 91 (nI 8) then _ else _) = _
  rw [if_pos (⟨HKn hc (n := 212) (a := 91) (k := 2) (by decide +kernel), by rw [ft_in (by omega), HLn hc (n := 212) (a := 91) (l := 137) (by decide +kernel)]; omega⟩)]
  show (if j_k (j_sI (HN 212 h0) 91 ((nI 8).toNatClampNeg) (nI 101).toInt8.toInt32) 91 = 2 ∧ j_in (j_sI (HN 212 h0) 91 ((nI 8).toNatClampNeg) (nI 101).toInt8.toInt32) 91 (nI 9) then _ else _) = _
  rw [show j_sI (HN 212 h0) 91 ((nI 8).toNatClampNeg) (nI 101).toInt8.toInt32 = (HN 213 h0) from by rw [show (nI 8).toNatClampNeg = 8 from ft_cl (by omega)]; rw [show (nI 101).toInt8.toInt32 = nI 101 from by decide +kernel]; exact uE_sI 212 (a := 91) (i := 8) (v := 101) (by decide +kernel)]
  show (if j_k (HN 213 h0) 91 = 2 ∧ j_in (HN 213 h0) 91 (nI 9) then _ else _) = _
  rw [if_pos (⟨HKn hc (n := 213) (a := 91) (k := 2) (by decide +kernel), by rw [ft_in (by omega), HLn hc (n := 213) (a := 91) (l := 137) (by decide +kernel)]; omega⟩)]
  show (if j_k (j_sI (HN 213 h0) 91 ((nI 9).toNatClampNeg) (nI 115).toInt8.toInt32) 91 = 2 ∧ j_in (j_sI (HN 213 h0) 91 ((nI 9).toNatClampNeg) (nI 115).toInt8.toInt32) 91 (nI 10) then _ else _) = _
  rw [show j_sI (HN 213 h0) 91 ((nI 9).toNatClampNeg) (nI 115).toInt8.toInt32 = (HN 214 h0) from by rw [show (nI 9).toNatClampNeg = 9 from ft_cl (by omega)]; rw [show (nI 115).toInt8.toInt32 = nI 115 from by decide +kernel]; exact uE_sI 213 (a := 91) (i := 9) (v := 115) (by decide +kernel)]
  show (if j_k (HN 214 h0) 91 = 2 ∧ j_in (HN 214 h0) 91 (nI 10) then _ else _) = _
  rw [if_pos (⟨HKn hc (n := 214) (a := 91) (k := 2) (by decide +kernel), by rw [ft_in (by omega), HLn hc (n := 214) (a := 91) (l := 137) (by decide +kernel)]; omega⟩)]
  show (if j_k (j_sI (HN 214 h0) 91 ((nI 10).toNatClampNeg) (nI 32).toInt8.toInt32) 91 = 2 ∧ j_in (j_sI (HN 214 h0) 91 ((nI 10).toNatClampNeg) (nI 32).toInt8.toInt32) 91 (nI 11) then _ else _) = _
  rw [show j_sI (HN 214 h0) 91 ((nI 10).toNatClampNeg) (nI 32).toInt8.toInt32 = (HN 215 h0) from by rw [show (nI 10).toNatClampNeg = 10 from ft_cl (by omega)]; rw [show (nI 32).toInt8.toInt32 = nI 32 from by decide +kernel]; exact uE_sI 214 (a := 91) (i := 10) (v := 32) (by decide +kernel)]
  show (if j_k (HN 215 h0) 91 = 2 ∧ j_in (HN 215 h0) 91 (nI 11) then _ else _) = _
  rw [if_pos (⟨HKn hc (n := 215) (a := 91) (k := 2) (by decide +kernel), by rw [ft_in (by omega), HLn hc (n := 215) (a := 91) (l := 137) (by decide +kernel)]; omega⟩)]
  show (if j_k (j_sI (HN 215 h0) 91 ((nI 11).toNatClampNeg) (nI 98).toInt8.toInt32) 91 = 2 ∧ j_in (j_sI (HN 215 h0) 91 ((nI 11).toNatClampNeg) (nI 98).toInt8.toInt32) 91 (nI 12) then _ else _) = _
  rw [show j_sI (HN 215 h0) 91 ((nI 11).toNatClampNeg) (nI 98).toInt8.toInt32 = (HN 216 h0) from by rw [show (nI 11).toNatClampNeg = 11 from ft_cl (by omega)]; rw [show (nI 98).toInt8.toInt32 = nI 98 from by decide +kernel]; exact uE_sI 215 (a := 91) (i := 11) (v := 98) (by decide +kernel)]
  show (if j_k (HN 216 h0) 91 = 2 ∧ j_in (HN 216 h0) 91 (nI 12) then _ else _) = _
  rw [if_pos (⟨HKn hc (n := 216) (a := 91) (k := 2) (by decide +kernel), by rw [ft_in (by omega), HLn hc (n := 216) (a := 91) (l := 137) (by decide +kernel)]; omega⟩)]
  show m_M_new_129 F 85 (nI 114) (nI 13) 91 91 85 (j_sI (HN 216 h0) 91 ((nI 12).toNatClampNeg) (nI 97).toInt8.toInt32) = _
  rw [show j_sI (HN 216 h0) 91 ((nI 12).toNatClampNeg) (nI 97).toInt8.toInt32 = (HN 217 h0) from by rw [show (nI 12).toNatClampNeg = 12 from ft_cl (by omega)]; rw [show (nI 97).toInt8.toInt32 = nI 97 from by decide +kernel]; exact uE_sI 216 (a := 91) (i := 12) (v := 97) (by decide +kernel)]
  exact i_M_new_129_15 F hc
theorem i_M_new_99_14_b (F : Nat × Nat) {h0 : jH} (hc : j_c h0 = 4) (ff : jH → Option jO) : jbV (m_M_new_99 F 85 (nI 101) (nI 8) 91 91 85 (HN 212 h0)) ff = ff (HN 385 h0) := bV_of (i_M_new_99_14 (F := F) (h0 := h0) (hc := hc)) ff
theorem i_M_new_71_13 (F : Nat × Nat) {h0 : jH} (hc : j_c h0 = 4) : m_M_new_71 F 85 (nI 116) (nI 3) 91 91 85 (HN 207 h0) = some (none, HN 385 h0) := by
  rw [q_M_new_71]
  show (if j_k (HN 207 h0) 91 = 2 ∧ j_in (HN 207 h0) 91 (nI 3) then _ else _) = _
  rw [if_pos (⟨HKn hc (n := 207) (a := 91) (k := 2) (by decide +kernel), by rw [ft_in (by omega), HLn hc (n := 207) (a := 91) (l := 137) (by decide +kernel)]; omega⟩)]
  show (if j_k (j_sI (HN 207 h0) 91 ((nI 3).toNatClampNeg) (nI 116).toInt8.toInt32) 91 = 2 ∧ j_in (j_sI (HN 207 h0) 91 ((nI 3).toNatClampNeg) (nI 116).toInt8.toInt32) 91 (nI 4) then _ else _) = _
  rw [show j_sI (HN 207 h0) 91 ((nI 3).toNatClampNeg) (nI 116).toInt8.toInt32 = (HN 208 h0) from by rw [show (nI 3).toNatClampNeg = 3 from ft_cl (by omega)]; rw [show (nI 116).toInt8.toInt32 = nI 116 from by decide +kernel]; exact uE_sI 207 (a := 91) (i := 3) (v := 116) (by decide +kernel)]
  show (if j_k (HN 208 h0) 91 = 2 ∧ j_in (HN 208 h0) 91 (nI 4) then _ else _) = _
  rw [if_pos (⟨HKn hc (n := 208) (a := 91) (k := 2) (by decide +kernel), by rw [ft_in (by omega), HLn hc (n := 208) (a := 91) (l := 137) (by decide +kernel)]; omega⟩)]
  show (if j_k (j_sI (HN 208 h0) 91 ((nI 4).toNatClampNeg) (nI 115).toInt8.toInt32) 91 = 2 ∧ j_in (j_sI (HN 208 h0) 91 ((nI 4).toNatClampNeg) (nI 115).toInt8.toInt32) 91 (nI 5) then _ else _) = _
  rw [show j_sI (HN 208 h0) 91 ((nI 4).toNatClampNeg) (nI 115).toInt8.toInt32 = (HN 209 h0) from by rw [show (nI 4).toNatClampNeg = 4 from ft_cl (by omega)]; rw [show (nI 115).toInt8.toInt32 = nI 115 from by decide +kernel]; exact uE_sI 208 (a := 91) (i := 4) (v := 115) (by decide +kernel)]
  show (if j_k (HN 209 h0) 91 = 2 ∧ j_in (HN 209 h0) 91 (nI 5) then _ else _) = _
  rw [if_pos (⟨HKn hc (n := 209) (a := 91) (k := 2) (by decide +kernel), by rw [ft_in (by omega), HLn hc (n := 209) (a := 91) (l := 137) (by decide +kernel)]; omega⟩)]
  show (if j_k (j_sI (HN 209 h0) 91 ((nI 5).toNatClampNeg) (nI 32).toInt8.toInt32) 91 = 2 ∧ j_in (j_sI (HN 209 h0) 91 ((nI 5).toNatClampNeg) (nI 32).toInt8.toInt32) 91 (nI 6) then _ else _) = _
  rw [show j_sI (HN 209 h0) 91 ((nI 5).toNatClampNeg) (nI 32).toInt8.toInt32 = (HN 210 h0) from by rw [show (nI 5).toNatClampNeg = 5 from ft_cl (by omega)]; rw [show (nI 32).toInt8.toInt32 = nI 32 from by decide +kernel]; exact uE_sI 209 (a := 91) (i := 5) (v := 32) (by decide +kernel)]
  show (if j_k (HN 210 h0) 91 = 2 ∧ j_in (HN 210 h0) 91 (nI 6) then _ else _) = _
  rw [if_pos (⟨HKn hc (n := 210) (a := 91) (k := 2) (by decide +kernel), by rw [ft_in (by omega), HLn hc (n := 210) (a := 91) (l := 137) (by decide +kernel)]; omega⟩)]
  show (if j_k (j_sI (HN 210 h0) 91 ((nI 6).toNatClampNeg) (nI 115).toInt8.toInt32) 91 = 2 ∧ j_in (j_sI (HN 210 h0) 91 ((nI 6).toNatClampNeg) (nI 115).toInt8.toInt32) 91 (nI 7) then _ else _) = _
  rw [show j_sI (HN 210 h0) 91 ((nI 6).toNatClampNeg) (nI 115).toInt8.toInt32 = (HN 211 h0) from by rw [show (nI 6).toNatClampNeg = 6 from ft_cl (by omega)]; rw [show (nI 115).toInt8.toInt32 = nI 115 from by decide +kernel]; exact uE_sI 210 (a := 91) (i := 6) (v := 115) (by decide +kernel)]
  show (if j_k (HN 211 h0) 91 = 2 ∧ j_in (HN 211 h0) 91 (nI 7) then _ else _) = _
  rw [if_pos (⟨HKn hc (n := 211) (a := 91) (k := 2) (by decide +kernel), by rw [ft_in (by omega), HLn hc (n := 211) (a := 91) (l := 137) (by decide +kernel)]; omega⟩)]
  show m_M_new_99 F 85 (nI 101) (nI 8) 91 91 85 (j_sI (HN 211 h0) 91 ((nI 7).toNatClampNeg) (nI 101).toInt8.toInt32) = _
  rw [show j_sI (HN 211 h0) 91 ((nI 7).toNatClampNeg) (nI 101).toInt8.toInt32 = (HN 212 h0) from by rw [show (nI 7).toNatClampNeg = 7 from ft_cl (by omega)]; rw [show (nI 101).toInt8.toInt32 = nI 101 from by decide +kernel]; exact uE_sI 211 (a := 91) (i := 7) (v := 101) (by decide +kernel)]
  exact i_M_new_99_14 F hc
theorem i_M_new_71_13_b (F : Nat × Nat) {h0 : jH} (hc : j_c h0 = 4) (ff : jH → Option jO) : jbV (m_M_new_71 F 85 (nI 116) (nI 3) 91 91 85 (HN 207 h0)) ff = ff (HN 385 h0) := bV_of (i_M_new_71_13 (F := F) (h0 := h0) (hc := hc)) ff
theorem i_M_new_41_12 (F : Nat × Nat) {h0 : jH} (hc : j_c h0 = 4) : m_M_new_41 F 85 (nI 210) 85 (HN 201 h0) = some (none, HN 385 h0) := by
  rw [q_M_new_41]
  show (if ¬ (nI 210) < 0 ∧ (nI 210).toNatClampNeg ≤ 50000 then _ else _) = _
  rw [if_pos (⟨by decide, by decide⟩)]
  show (if j_k (j_new (HN 201 h0) 0 (nI 210).toNatClampNeg) 85 = 17 then _ else _) = _
  rw [show j_new (HN 201 h0) 0 (nI 210).toNatClampNeg = (HN 202 h0) from by rw [show (nI 210).toNatClampNeg = 210 from ft_cl (by omega)]; exact uE_new (h0 := h0) 201 (k := 0) (l := 210) (by decide +kernel)]
  show (if j_k (HN 202 h0) 85 = 17 then _ else _) = _
  rw [if_pos (HKn hc (n := 202) (a := 85) (k := 17) (by decide +kernel))]
  show (if ¬ (nI 137) < 0 ∧ (nI 137).toNatClampNeg ≤ 50000 then _ else _) = _
  rw [show j_sR (HN 202 h0) 85 5 (some (j_c (HN 201 h0))) = (HN 203 h0) from by rw [HCn hc (n := 201) (m := 90) (by decide +kernel)]; exact uE_sR 202 (by decide +kernel)]
  show (if ¬ (nI 137) < 0 ∧ (nI 137).toNatClampNeg ≤ 50000 then _ else _) = _
  rw [if_pos (⟨by decide, by decide⟩)]
  show (if j_k (j_new (HN 203 h0) 2 (nI 137).toNatClampNeg) (j_c (HN 203 h0)) = 2 ∧ j_in (j_new (HN 203 h0) 2 (nI 137).toNatClampNeg) (j_c (HN 203 h0)) (nI 0) then _ else _) = _
  rw [show j_new (HN 203 h0) 2 (nI 137).toNatClampNeg = (HN 204 h0) from by rw [show (nI 137).toNatClampNeg = 137 from ft_cl (by omega)]; exact uE_new (h0 := h0) 203 (k := 2) (l := 137) (by decide +kernel)]
  show (if j_k (HN 204 h0) (j_c (HN 203 h0)) = 2 ∧ j_in (HN 204 h0) (j_c (HN 203 h0)) (nI 0) then _ else _) = _
  rw [HCn hc (n := 203) (m := 91) (by decide +kernel)]
  rw [if_pos (⟨HKn hc (n := 204) (a := 91) (k := 2) (by decide +kernel), by rw [ft_in (by omega), HLn hc (n := 204) (a := 91) (l := 137) (by decide +kernel)]; omega⟩)]
  show (if j_k (j_sI (HN 204 h0) 91 ((nI 0).toNatClampNeg) (nI 99).toInt8.toInt32) 91 = 2 ∧ j_in (j_sI (HN 204 h0) 91 ((nI 0).toNatClampNeg) (nI 99).toInt8.toInt32) 91 (nI 1) then _ else _) = _
  rw [show j_sI (HN 204 h0) 91 ((nI 0).toNatClampNeg) (nI 99).toInt8.toInt32 = (HN 205 h0) from by rw [show (nI 0).toNatClampNeg = 0 from ft_cl (by omega)]; rw [show (nI 99).toInt8.toInt32 = nI 99 from by decide +kernel]; exact uE_sI 204 (a := 91) (i := 0) (v := 99) (by decide +kernel)]
  show (if j_k (HN 205 h0) 91 = 2 ∧ j_in (HN 205 h0) 91 (nI 1) then _ else _) = _
  rw [if_pos (⟨HKn hc (n := 205) (a := 91) (k := 2) (by decide +kernel), by rw [ft_in (by omega), HLn hc (n := 205) (a := 91) (l := 137) (by decide +kernel)]; omega⟩)]
  show (if j_k (j_sI (HN 205 h0) 91 ((nI 1).toNatClampNeg) (nI 111).toInt8.toInt32) 91 = 2 ∧ j_in (j_sI (HN 205 h0) 91 ((nI 1).toNatClampNeg) (nI 111).toInt8.toInt32) 91 (nI 2) then _ else _) = _
  rw [show j_sI (HN 205 h0) 91 ((nI 1).toNatClampNeg) (nI 111).toInt8.toInt32 = (HN 206 h0) from by rw [show (nI 1).toNatClampNeg = 1 from ft_cl (by omega)]; rw [show (nI 111).toInt8.toInt32 = nI 111 from by decide +kernel]; exact uE_sI 205 (a := 91) (i := 1) (v := 111) (by decide +kernel)]
  show (if j_k (HN 206 h0) 91 = 2 ∧ j_in (HN 206 h0) 91 (nI 2) then _ else _) = _
  rw [if_pos (⟨HKn hc (n := 206) (a := 91) (k := 2) (by decide +kernel), by rw [ft_in (by omega), HLn hc (n := 206) (a := 91) (l := 137) (by decide +kernel)]; omega⟩)]
  show m_M_new_71 F 85 (nI 116) (nI 3) 91 91 85 (j_sI (HN 206 h0) 91 ((nI 2).toNatClampNeg) (nI 115).toInt8.toInt32) = _
  rw [show j_sI (HN 206 h0) 91 ((nI 2).toNatClampNeg) (nI 115).toInt8.toInt32 = (HN 207 h0) from by rw [show (nI 2).toNatClampNeg = 2 from ft_cl (by omega)]; rw [show (nI 115).toInt8.toInt32 = nI 115 from by decide +kernel]; exact uE_sI 206 (a := 91) (i := 2) (v := 115) (by decide +kernel)]
  exact i_M_new_71_13 F hc
theorem i_M_new_41_12_b (F : Nat × Nat) {h0 : jH} (hc : j_c h0 = 4) (ff : jH → Option jO) : jbV (m_M_new_41 F 85 (nI 210) 85 (HN 201 h0)) ff = ff (HN 385 h0) := bV_of (i_M_new_41_12 (F := F) (h0 := h0) (hc := hc)) ff
theorem i_M_new_11 (F : Nat × Nat) {h0 : jH} (hc : j_c h0 = 4) : m_M_new F 85 (HN 193 h0) = some (none, HN 385 h0) := by
  rw [q_M_new]
  show (if ¬ (nI 7) < 0 ∧ (nI 7).toNatClampNeg ≤ 50000 then _ else _) = _
  rw [if_pos (⟨by decide, by decide⟩)]
  show (if j_k (j_new (HN 193 h0) 0 (nI 7).toNatClampNeg) 85 = 17 then _ else _) = _
  rw [show j_new (HN 193 h0) 0 (nI 7).toNatClampNeg = (HN 194 h0) from by rw [show (nI 7).toNatClampNeg = 7 from ft_cl (by omega)]; exact uE_new (h0 := h0) 193 (k := 0) (l := 7) (by decide +kernel)]
  show (if j_k (HN 194 h0) 85 = 17 then _ else _) = _
  rw [if_pos (HKn hc (n := 194) (a := 85) (k := 17) (by decide +kernel))]
  show (if ¬ (nI 5788) < 0 ∧ (nI 5788).toNatClampNeg ≤ 50000 then _ else _) = _
  rw [show j_sR (HN 194 h0) 85 1 (some (j_c (HN 193 h0))) = (HN 195 h0) from by rw [HCn hc (n := 193) (m := 86) (by decide +kernel)]; exact uE_sR 194 (by decide +kernel)]
  show (if ¬ (nI 5788) < 0 ∧ (nI 5788).toNatClampNeg ≤ 50000 then _ else _) = _
  rw [if_pos (⟨by decide, by decide⟩)]
  show (if j_k (j_new (HN 195 h0) 0 (nI 5788).toNatClampNeg) 85 = 17 then _ else _) = _
  rw [show j_new (HN 195 h0) 0 (nI 5788).toNatClampNeg = (HN 196 h0) from by rw [show (nI 5788).toNatClampNeg = 5788 from ft_cl (by omega)]; exact uE_new (h0 := h0) 195 (k := 0) (l := 5788) (by decide +kernel)]
  show (if j_k (HN 196 h0) 85 = 17 then _ else _) = _
  rw [if_pos (HKn hc (n := 196) (a := 85) (k := 17) (by decide +kernel))]
  show (if ¬ (nI 11576) < 0 ∧ (nI 11576).toNatClampNeg ≤ 50000 then _ else _) = _
  rw [show j_sR (HN 196 h0) 85 2 (some (j_c (HN 195 h0))) = (HN 197 h0) from by rw [HCn hc (n := 195) (m := 87) (by decide +kernel)]; exact uE_sR 196 (by decide +kernel)]
  show (if ¬ (nI 11576) < 0 ∧ (nI 11576).toNatClampNeg ≤ 50000 then _ else _) = _
  rw [if_pos (⟨by decide, by decide⟩)]
  show (if j_k (j_new (HN 197 h0) 0 (nI 11576).toNatClampNeg) 85 = 17 then _ else _) = _
  rw [show j_new (HN 197 h0) 0 (nI 11576).toNatClampNeg = (HN 198 h0) from by rw [show (nI 11576).toNatClampNeg = 11576 from ft_cl (by omega)]; exact uE_new (h0 := h0) 197 (k := 0) (l := 11576) (by decide +kernel)]
  show (if j_k (HN 198 h0) 85 = 17 then _ else _) = _
  rw [if_pos (HKn hc (n := 198) (a := 85) (k := 17) (by decide +kernel))]
  show (if ¬ (nI 2) < 0 ∧ (nI 2).toNatClampNeg ≤ 50000 then _ else _) = _
  rw [show j_sR (HN 198 h0) 85 3 (some (j_c (HN 197 h0))) = (HN 199 h0) from by rw [HCn hc (n := 197) (m := 88) (by decide +kernel)]; exact uE_sR 198 (by decide +kernel)]
  show (if ¬ (nI 2) < 0 ∧ (nI 2).toNatClampNeg ≤ 50000 then _ else _) = _
  rw [if_pos (⟨by decide, by decide⟩)]
  show (if j_k (j_new (HN 199 h0) 3 (nI 2).toNatClampNeg) 85 = 17 then _ else _) = _
  rw [show j_new (HN 199 h0) 3 (nI 2).toNatClampNeg = (HN 200 h0) from by rw [show (nI 2).toNatClampNeg = 2 from ft_cl (by omega)]; exact uE_new (h0 := h0) 199 (k := 3) (l := 2) (by decide +kernel)]
  show (if j_k (HN 200 h0) 85 = 17 then _ else _) = _
  rw [if_pos (HKn hc (n := 200) (a := 85) (k := 17) (by decide +kernel))]
  show m_M_new_41 F 85 (nI 210) 85 (j_sR (HN 200 h0) 85 4 (some (j_c (HN 199 h0)))) = _
  rw [show j_sR (HN 200 h0) 85 4 (some (j_c (HN 199 h0))) = (HN 201 h0) from by rw [HCn hc (n := 199) (m := 89) (by decide +kernel)]; exact uE_sR 200 (by decide +kernel)]
  exact i_M_new_41_12 F hc
theorem i_M_new_11_b (F : Nat × Nat) {h0 : jH} (hc : j_c h0 = 4) (ff : jH → Option jO) : jbV (m_M_new F 85 (HN 193 h0)) ff = ff (HN 385 h0) := bV_of (i_M_new_11 (F := F) (h0 := h0) (hc := hc)) ff
def iN : Nat := 385
theorem i_F {F : Nat × Nat} {h0 : jH} (hc : j_c h0 = 4) : m_F_new F 4 (HN 1 h0) = some (none, HN 192 h0) := i_F_new_1 F hc
theorem i_F_b {F : Nat × Nat} {h0 : jH} (hc : j_c h0 = 4) (ff : jH → Option jO) : jbV (m_F_new F 4 (HN 1 h0)) ff = ff (HN 192 h0) := bV_of (i_F (F := F) (h0 := h0) (hc := hc)) ff
theorem i_M {F : Nat × Nat} {h0 : jH} (hc : j_c h0 = 4) : m_M_new F 85 (HN 193 h0) = some (none, HN 385 h0) := i_M_new_11 F hc
theorem i_M_b {F : Nat × Nat} {h0 : jH} (hc : j_c h0 = 4) (ff : jH → Option jO) : jbV (m_M_new F 85 (HN 193 h0)) ff = ff (HN 385 h0) := bV_of (i_M (F := F) (h0 := h0) (hc := hc)) ff
