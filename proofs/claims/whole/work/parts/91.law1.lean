def M_Q_law : jMe := ("FootMapsLaw", code, 4, 1, false)
set_option maxRecDepth 100000 in
theorem okc_Q_law_0 : ∀ i, i < 50 → (decide ((cd_Q_law (0 + i)).1 = .nop) || jchk M_Q_law.1 M_Q_law.2.1 M_Q_law.2.2.1 M_Q_law.2.2.2.2 (0 + i) (cd_Q_law (0 + i))) = true := by decide +kernel
set_option maxRecDepth 100000 in
theorem okc_Q_law_1 : ∀ i, i < 50 → (decide ((cd_Q_law (50 + i)).1 = .nop) || jchk M_Q_law.1 M_Q_law.2.1 M_Q_law.2.2.1 M_Q_law.2.2.2.2 (50 + i) (cd_Q_law (50 + i))) = true := by decide +kernel
set_option maxRecDepth 100000 in
theorem okc_Q_law_2 : ∀ i, i < 50 → (decide ((cd_Q_law (100 + i)).1 = .nop) || jchk M_Q_law.1 M_Q_law.2.1 M_Q_law.2.2.1 M_Q_law.2.2.2.2 (100 + i) (cd_Q_law (100 + i))) = true := by decide +kernel
set_option maxRecDepth 100000 in
theorem okc_Q_law_3 : ∀ i, i < 50 → (decide ((cd_Q_law (150 + i)).1 = .nop) || jchk M_Q_law.1 M_Q_law.2.1 M_Q_law.2.2.1 M_Q_law.2.2.2.2 (150 + i) (cd_Q_law (150 + i))) = true := by decide +kernel
set_option maxRecDepth 100000 in
theorem okc_Q_law_4 : ∀ i, i < 50 → (decide ((cd_Q_law (200 + i)).1 = .nop) || jchk M_Q_law.1 M_Q_law.2.1 M_Q_law.2.2.1 M_Q_law.2.2.2.2 (200 + i) (cd_Q_law (200 + i))) = true := by decide +kernel
set_option maxRecDepth 100000 in
theorem okc_Q_law_5 : ∀ i, i < 50 → (decide ((cd_Q_law (250 + i)).1 = .nop) || jchk M_Q_law.1 M_Q_law.2.1 M_Q_law.2.2.1 M_Q_law.2.2.2.2 (250 + i) (cd_Q_law (250 + i))) = true := by decide +kernel
set_option maxRecDepth 100000 in
theorem okc_Q_law_6 : ∀ i, i < 50 → (decide ((cd_Q_law (300 + i)).1 = .nop) || jchk M_Q_law.1 M_Q_law.2.1 M_Q_law.2.2.1 M_Q_law.2.2.2.2 (300 + i) (cd_Q_law (300 + i))) = true := by decide +kernel
set_option maxRecDepth 100000 in
theorem okc_Q_law_7 : ∀ i, i < 50 → (decide ((cd_Q_law (350 + i)).1 = .nop) || jchk M_Q_law.1 M_Q_law.2.1 M_Q_law.2.2.1 M_Q_law.2.2.2.2 (350 + i) (cd_Q_law (350 + i))) = true := by decide +kernel
set_option maxRecDepth 100000 in
theorem okc_Q_law_8 : ∀ i, i < 50 → (decide ((cd_Q_law (400 + i)).1 = .nop) || jchk M_Q_law.1 M_Q_law.2.1 M_Q_law.2.2.1 M_Q_law.2.2.2.2 (400 + i) (cd_Q_law (400 + i))) = true := by decide +kernel
set_option maxRecDepth 100000 in
theorem okc_Q_law_9 : ∀ i, i < 50 → (decide ((cd_Q_law (450 + i)).1 = .nop) || jchk M_Q_law.1 M_Q_law.2.1 M_Q_law.2.2.1 M_Q_law.2.2.2.2 (450 + i) (cd_Q_law (450 + i))) = true := by decide +kernel
set_option maxRecDepth 100000 in
theorem okc_Q_law_10 : ∀ i, i < 50 → (decide ((cd_Q_law (500 + i)).1 = .nop) || jchk M_Q_law.1 M_Q_law.2.1 M_Q_law.2.2.1 M_Q_law.2.2.2.2 (500 + i) (cd_Q_law (500 + i))) = true := by decide +kernel
set_option maxRecDepth 100000 in
theorem okc_Q_law_11 : ∀ i, i < 50 → (decide ((cd_Q_law (550 + i)).1 = .nop) || jchk M_Q_law.1 M_Q_law.2.1 M_Q_law.2.2.1 M_Q_law.2.2.2.2 (550 + i) (cd_Q_law (550 + i))) = true := by decide +kernel
set_option maxRecDepth 100000 in
theorem okc_Q_law_12 : ∀ i, i < 50 → (decide ((cd_Q_law (600 + i)).1 = .nop) || jchk M_Q_law.1 M_Q_law.2.1 M_Q_law.2.2.1 M_Q_law.2.2.2.2 (600 + i) (cd_Q_law (600 + i))) = true := by decide +kernel
set_option maxRecDepth 100000 in
theorem okc_Q_law_13 : ∀ i, i < 50 → (decide ((cd_Q_law (650 + i)).1 = .nop) || jchk M_Q_law.1 M_Q_law.2.1 M_Q_law.2.2.1 M_Q_law.2.2.2.2 (650 + i) (cd_Q_law (650 + i))) = true := by decide +kernel
set_option maxRecDepth 100000 in
theorem okc_Q_law_14 : ∀ i, i < 50 → (decide ((cd_Q_law (700 + i)).1 = .nop) || jchk M_Q_law.1 M_Q_law.2.1 M_Q_law.2.2.1 M_Q_law.2.2.2.2 (700 + i) (cd_Q_law (700 + i))) = true := by decide +kernel
set_option maxRecDepth 100000 in
theorem okc_Q_law_15 : ∀ i, i < 50 → (decide ((cd_Q_law (750 + i)).1 = .nop) || jchk M_Q_law.1 M_Q_law.2.1 M_Q_law.2.2.1 M_Q_law.2.2.2.2 (750 + i) (cd_Q_law (750 + i))) = true := by decide +kernel
set_option maxRecDepth 100000 in
theorem okc_Q_law_16 : ∀ i, i < 50 → (decide ((cd_Q_law (800 + i)).1 = .nop) || jchk M_Q_law.1 M_Q_law.2.1 M_Q_law.2.2.1 M_Q_law.2.2.2.2 (800 + i) (cd_Q_law (800 + i))) = true := by decide +kernel
set_option maxRecDepth 100000 in
theorem okc_Q_law_17 : ∀ i, i < 50 → (decide ((cd_Q_law (850 + i)).1 = .nop) || jchk M_Q_law.1 M_Q_law.2.1 M_Q_law.2.2.1 M_Q_law.2.2.2.2 (850 + i) (cd_Q_law (850 + i))) = true := by decide +kernel
set_option maxRecDepth 100000 in
theorem okc_Q_law_18 : ∀ i, i < 50 → (decide ((cd_Q_law (900 + i)).1 = .nop) || jchk M_Q_law.1 M_Q_law.2.1 M_Q_law.2.2.1 M_Q_law.2.2.2.2 (900 + i) (cd_Q_law (900 + i))) = true := by decide +kernel
set_option maxRecDepth 100000 in
theorem okc_Q_law_19 : ∀ i, i < 50 → (decide ((cd_Q_law (950 + i)).1 = .nop) || jchk M_Q_law.1 M_Q_law.2.1 M_Q_law.2.2.1 M_Q_law.2.2.2.2 (950 + i) (cd_Q_law (950 + i))) = true := by decide +kernel
set_option maxRecDepth 100000 in
theorem okc_Q_law_20 : ∀ i, i < 50 → (decide ((cd_Q_law (1000 + i)).1 = .nop) || jchk M_Q_law.1 M_Q_law.2.1 M_Q_law.2.2.1 M_Q_law.2.2.2.2 (1000 + i) (cd_Q_law (1000 + i))) = true := by decide +kernel
set_option maxRecDepth 100000 in
theorem okc_Q_law_21 : ∀ i, i < 50 → (decide ((cd_Q_law (1050 + i)).1 = .nop) || jchk M_Q_law.1 M_Q_law.2.1 M_Q_law.2.2.1 M_Q_law.2.2.2.2 (1050 + i) (cd_Q_law (1050 + i))) = true := by decide +kernel
set_option maxRecDepth 100000 in
theorem okc_Q_law_22 : ∀ i, i < 50 → (decide ((cd_Q_law (1100 + i)).1 = .nop) || jchk M_Q_law.1 M_Q_law.2.1 M_Q_law.2.2.1 M_Q_law.2.2.2.2 (1100 + i) (cd_Q_law (1100 + i))) = true := by decide +kernel
set_option maxRecDepth 100000 in
theorem okc_Q_law_23 : ∀ i, i < 50 → (decide ((cd_Q_law (1150 + i)).1 = .nop) || jchk M_Q_law.1 M_Q_law.2.1 M_Q_law.2.2.1 M_Q_law.2.2.2.2 (1150 + i) (cd_Q_law (1150 + i))) = true := by decide +kernel
set_option maxRecDepth 100000 in
theorem okc_Q_law_24 : ∀ i, i < 50 → (decide ((cd_Q_law (1200 + i)).1 = .nop) || jchk M_Q_law.1 M_Q_law.2.1 M_Q_law.2.2.1 M_Q_law.2.2.2.2 (1200 + i) (cd_Q_law (1200 + i))) = true := by decide +kernel
set_option maxRecDepth 100000 in
theorem okc_Q_law_25 : ∀ i, i < 50 → (decide ((cd_Q_law (1250 + i)).1 = .nop) || jchk M_Q_law.1 M_Q_law.2.1 M_Q_law.2.2.1 M_Q_law.2.2.2.2 (1250 + i) (cd_Q_law (1250 + i))) = true := by decide +kernel
set_option maxRecDepth 100000 in
theorem okc_Q_law_26 : ∀ i, i < 50 → (decide ((cd_Q_law (1300 + i)).1 = .nop) || jchk M_Q_law.1 M_Q_law.2.1 M_Q_law.2.2.1 M_Q_law.2.2.2.2 (1300 + i) (cd_Q_law (1300 + i))) = true := by decide +kernel
set_option maxRecDepth 100000 in
theorem okc_Q_law_27 : ∀ i, i < 31 → (decide ((cd_Q_law (1350 + i)).1 = .nop) || jchk M_Q_law.1 M_Q_law.2.1 M_Q_law.2.2.1 M_Q_law.2.2.2.2 (1350 + i) (cd_Q_law (1350 + i))) = true := by decide +kernel
theorem ok_Q_law : jcdok M_Q_law cd_Q_law := jcdok_of 1381 (j_cat2 (P := fun pc => (decide ((cd_Q_law (pc)).1 = .nop) || jchk M_Q_law.1 M_Q_law.2.1 M_Q_law.2.2.1 M_Q_law.2.2.2.2 (pc) (cd_Q_law (pc))) = true) 1350 31 (j_cat2 (P := fun pc => (decide ((cd_Q_law (pc)).1 = .nop) || jchk M_Q_law.1 M_Q_law.2.1 M_Q_law.2.2.1 M_Q_law.2.2.2.2 (pc) (cd_Q_law (pc))) = true) 1300 50 (j_cat2 (P := fun pc => (decide ((cd_Q_law (pc)).1 = .nop) || jchk M_Q_law.1 M_Q_law.2.1 M_Q_law.2.2.1 M_Q_law.2.2.2.2 (pc) (cd_Q_law (pc))) = true) 1250 50 (j_cat2 (P := fun pc => (decide ((cd_Q_law (pc)).1 = .nop) || jchk M_Q_law.1 M_Q_law.2.1 M_Q_law.2.2.1 M_Q_law.2.2.2.2 (pc) (cd_Q_law (pc))) = true) 1200 50 (j_cat2 (P := fun pc => (decide ((cd_Q_law (pc)).1 = .nop) || jchk M_Q_law.1 M_Q_law.2.1 M_Q_law.2.2.1 M_Q_law.2.2.2.2 (pc) (cd_Q_law (pc))) = true) 1150 50 (j_cat2 (P := fun pc => (decide ((cd_Q_law (pc)).1 = .nop) || jchk M_Q_law.1 M_Q_law.2.1 M_Q_law.2.2.1 M_Q_law.2.2.2.2 (pc) (cd_Q_law (pc))) = true) 1100 50 (j_cat2 (P := fun pc => (decide ((cd_Q_law (pc)).1 = .nop) || jchk M_Q_law.1 M_Q_law.2.1 M_Q_law.2.2.1 M_Q_law.2.2.2.2 (pc) (cd_Q_law (pc))) = true) 1050 50 (j_cat2 (P := fun pc => (decide ((cd_Q_law (pc)).1 = .nop) || jchk M_Q_law.1 M_Q_law.2.1 M_Q_law.2.2.1 M_Q_law.2.2.2.2 (pc) (cd_Q_law (pc))) = true) 1000 50 (j_cat2 (P := fun pc => (decide ((cd_Q_law (pc)).1 = .nop) || jchk M_Q_law.1 M_Q_law.2.1 M_Q_law.2.2.1 M_Q_law.2.2.2.2 (pc) (cd_Q_law (pc))) = true) 950 50 (j_cat2 (P := fun pc => (decide ((cd_Q_law (pc)).1 = .nop) || jchk M_Q_law.1 M_Q_law.2.1 M_Q_law.2.2.1 M_Q_law.2.2.2.2 (pc) (cd_Q_law (pc))) = true) 900 50 (j_cat2 (P := fun pc => (decide ((cd_Q_law (pc)).1 = .nop) || jchk M_Q_law.1 M_Q_law.2.1 M_Q_law.2.2.1 M_Q_law.2.2.2.2 (pc) (cd_Q_law (pc))) = true) 850 50 (j_cat2 (P := fun pc => (decide ((cd_Q_law (pc)).1 = .nop) || jchk M_Q_law.1 M_Q_law.2.1 M_Q_law.2.2.1 M_Q_law.2.2.2.2 (pc) (cd_Q_law (pc))) = true) 800 50 (j_cat2 (P := fun pc => (decide ((cd_Q_law (pc)).1 = .nop) || jchk M_Q_law.1 M_Q_law.2.1 M_Q_law.2.2.1 M_Q_law.2.2.2.2 (pc) (cd_Q_law (pc))) = true) 750 50 (j_cat2 (P := fun pc => (decide ((cd_Q_law (pc)).1 = .nop) || jchk M_Q_law.1 M_Q_law.2.1 M_Q_law.2.2.1 M_Q_law.2.2.2.2 (pc) (cd_Q_law (pc))) = true) 700 50 (j_cat2 (P := fun pc => (decide ((cd_Q_law (pc)).1 = .nop) || jchk M_Q_law.1 M_Q_law.2.1 M_Q_law.2.2.1 M_Q_law.2.2.2.2 (pc) (cd_Q_law (pc))) = true) 650 50 (j_cat2 (P := fun pc => (decide ((cd_Q_law (pc)).1 = .nop) || jchk M_Q_law.1 M_Q_law.2.1 M_Q_law.2.2.1 M_Q_law.2.2.2.2 (pc) (cd_Q_law (pc))) = true) 600 50 (j_cat2 (P := fun pc => (decide ((cd_Q_law (pc)).1 = .nop) || jchk M_Q_law.1 M_Q_law.2.1 M_Q_law.2.2.1 M_Q_law.2.2.2.2 (pc) (cd_Q_law (pc))) = true) 550 50 (j_cat2 (P := fun pc => (decide ((cd_Q_law (pc)).1 = .nop) || jchk M_Q_law.1 M_Q_law.2.1 M_Q_law.2.2.1 M_Q_law.2.2.2.2 (pc) (cd_Q_law (pc))) = true) 500 50 (j_cat2 (P := fun pc => (decide ((cd_Q_law (pc)).1 = .nop) || jchk M_Q_law.1 M_Q_law.2.1 M_Q_law.2.2.1 M_Q_law.2.2.2.2 (pc) (cd_Q_law (pc))) = true) 450 50 (j_cat2 (P := fun pc => (decide ((cd_Q_law (pc)).1 = .nop) || jchk M_Q_law.1 M_Q_law.2.1 M_Q_law.2.2.1 M_Q_law.2.2.2.2 (pc) (cd_Q_law (pc))) = true) 400 50 (j_cat2 (P := fun pc => (decide ((cd_Q_law (pc)).1 = .nop) || jchk M_Q_law.1 M_Q_law.2.1 M_Q_law.2.2.1 M_Q_law.2.2.2.2 (pc) (cd_Q_law (pc))) = true) 350 50 (j_cat2 (P := fun pc => (decide ((cd_Q_law (pc)).1 = .nop) || jchk M_Q_law.1 M_Q_law.2.1 M_Q_law.2.2.1 M_Q_law.2.2.2.2 (pc) (cd_Q_law (pc))) = true) 300 50 (j_cat2 (P := fun pc => (decide ((cd_Q_law (pc)).1 = .nop) || jchk M_Q_law.1 M_Q_law.2.1 M_Q_law.2.2.1 M_Q_law.2.2.2.2 (pc) (cd_Q_law (pc))) = true) 250 50 (j_cat2 (P := fun pc => (decide ((cd_Q_law (pc)).1 = .nop) || jchk M_Q_law.1 M_Q_law.2.1 M_Q_law.2.2.1 M_Q_law.2.2.2.2 (pc) (cd_Q_law (pc))) = true) 200 50 (j_cat2 (P := fun pc => (decide ((cd_Q_law (pc)).1 = .nop) || jchk M_Q_law.1 M_Q_law.2.1 M_Q_law.2.2.1 M_Q_law.2.2.2.2 (pc) (cd_Q_law (pc))) = true) 150 50 (j_cat2 (P := fun pc => (decide ((cd_Q_law (pc)).1 = .nop) || jchk M_Q_law.1 M_Q_law.2.1 M_Q_law.2.2.1 M_Q_law.2.2.2.2 (pc) (cd_Q_law (pc))) = true) 100 50 (j_cat2 (P := fun pc => (decide ((cd_Q_law (pc)).1 = .nop) || jchk M_Q_law.1 M_Q_law.2.1 M_Q_law.2.2.1 M_Q_law.2.2.2.2 (pc) (cd_Q_law (pc))) = true) 50 50 (j_cat2 (P := fun pc => (decide ((cd_Q_law (pc)).1 = .nop) || jchk M_Q_law.1 M_Q_law.2.1 M_Q_law.2.2.1 M_Q_law.2.2.2.2 (pc) (cd_Q_law (pc))) = true) 0 50 (fun pc hp => absurd hp (Nat.not_lt_zero pc)) okc_Q_law_0) okc_Q_law_1) okc_Q_law_2) okc_Q_law_3) okc_Q_law_4) okc_Q_law_5) okc_Q_law_6) okc_Q_law_7) okc_Q_law_8) okc_Q_law_9) okc_Q_law_10) okc_Q_law_11) okc_Q_law_12) okc_Q_law_13) okc_Q_law_14) okc_Q_law_15) okc_Q_law_16) okc_Q_law_17) okc_Q_law_18) okc_Q_law_19) okc_Q_law_20) okc_Q_law_21) okc_Q_law_22) okc_Q_law_23) okc_Q_law_24) okc_Q_law_25) okc_Q_law_26) okc_Q_law_27) (fun pc hp => by unfold cd_Q_law; rw [j_out hp]; rfl)
