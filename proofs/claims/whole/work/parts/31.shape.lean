/-! THE STANDING CELLS: kinds, lengths, pointers (written by program) -/
/-- the reference -/
def ShM (h : jH) : Prop := (j_k h 85 = 17 ∧ j_R h 85 1 = some 86 ∧ j_R h 85 2 = some 87 ∧ j_R h 85 3 = some 88 ∧ j_R h 85 4 = some 89 ∧ j_R h 85 5 = some 90 ∧ j_R h 85 7 = some 91 ∧ j_R h 85 11 = some 92 ∧ j_R h 85 12 = some 93 ∧ j_R h 85 15 = some 94) ∧ (j_R h 85 16 = some 95 ∧ j_R h 85 17 = some 96 ∧ j_R h 85 26 = some 97 ∧ j_R h 85 29 = some 98 ∧ j_R h 85 30 = some 99 ∧ j_R h 85 32 = some 100 ∧ j_R h 85 33 = some 101 ∧ j_R h 85 34 = some 102 ∧ j_R h 85 35 = some 103 ∧ j_R h 85 36 = some 104) ∧ (j_R h 85 37 = some 105 ∧ j_R h 85 38 = some 106 ∧ j_R h 85 40 = some 107 ∧ j_R h 85 41 = some 108 ∧ j_R h 85 48 = some 109 ∧ j_R h 85 49 = some 110 ∧ j_k h 86 = 0 ∧ j_n h 86 = 7 ∧ j_k h 87 = 0 ∧ j_n h 87 = 5788) ∧ (j_k h 88 = 0 ∧ j_n h 88 = 11576 ∧ j_k h 89 = 3 ∧ j_n h 89 = 2 ∧ j_k h 90 = 0 ∧ j_n h 90 = 210 ∧ j_k h 91 = 2 ∧ j_n h 91 = 137 ∧ j_k h 92 = 2 ∧ j_n h 92 = 400) ∧ (j_k h 93 = 0 ∧ j_n h 93 = 5 ∧ j_k h 94 = 0 ∧ j_n h 94 = 401 ∧ j_k h 95 = 0 ∧ j_n h 95 = 401 ∧ j_k h 96 = 0 ∧ j_n h 96 = 401 ∧ j_k h 97 = 0 ∧ j_n h 97 = 8) ∧ (j_k h 98 = 0 ∧ j_n h 98 = 1696 ∧ j_k h 99 = 0 ∧ j_n h 99 = 1696 ∧ j_k h 100 = 0 ∧ j_n h 100 = 125 ∧ j_k h 101 = 0 ∧ j_n h 101 = 25 ∧ j_k h 102 = 0 ∧ j_n h 102 = 25) ∧ (j_k h 103 = 0 ∧ j_n h 103 = 25 ∧ j_k h 104 = 0 ∧ j_n h 104 = 6 ∧ j_k h 105 = 0 ∧ j_n h 105 = 25 ∧ j_k h 106 = 0 ∧ j_n h 106 = 1600 ∧ j_k h 107 = 0 ∧ j_n h 107 = 5) ∧ (j_k h 108 = 1 ∧ j_n h 108 = 21 ∧ j_k h 109 = 1 ∧ j_n h 109 = 2 ∧ j_k h 110 = 0 ∧ j_n h 110 = 105)
theorem sm_k85 {h : jH} (H : ShM h) : j_k h 85 = 17 := H.1.1
theorem sm_R85_1 {h : jH} (H : ShM h) : j_R h 85 1 = some 86 := H.1.2.1
theorem sm_v85_1 {h : jH} (H : ShM h) {h2 : jH} (e : sR h2 h) (f : Nat → Option jO) : j_rv (va_rf (j_R h2 85 1)) f = f 86 := rv_of (sm_R85_1 H) e f
theorem sm_R85_2 {h : jH} (H : ShM h) : j_R h 85 2 = some 87 := H.1.2.2.1
theorem sm_v85_2 {h : jH} (H : ShM h) {h2 : jH} (e : sR h2 h) (f : Nat → Option jO) : j_rv (va_rf (j_R h2 85 2)) f = f 87 := rv_of (sm_R85_2 H) e f
theorem sm_R85_3 {h : jH} (H : ShM h) : j_R h 85 3 = some 88 := H.1.2.2.2.1
theorem sm_v85_3 {h : jH} (H : ShM h) {h2 : jH} (e : sR h2 h) (f : Nat → Option jO) : j_rv (va_rf (j_R h2 85 3)) f = f 88 := rv_of (sm_R85_3 H) e f
theorem sm_R85_4 {h : jH} (H : ShM h) : j_R h 85 4 = some 89 := H.1.2.2.2.2.1
theorem sm_v85_4 {h : jH} (H : ShM h) {h2 : jH} (e : sR h2 h) (f : Nat → Option jO) : j_rv (va_rf (j_R h2 85 4)) f = f 89 := rv_of (sm_R85_4 H) e f
theorem sm_R85_5 {h : jH} (H : ShM h) : j_R h 85 5 = some 90 := H.1.2.2.2.2.2.1
theorem sm_v85_5 {h : jH} (H : ShM h) {h2 : jH} (e : sR h2 h) (f : Nat → Option jO) : j_rv (va_rf (j_R h2 85 5)) f = f 90 := rv_of (sm_R85_5 H) e f
theorem sm_R85_7 {h : jH} (H : ShM h) : j_R h 85 7 = some 91 := H.1.2.2.2.2.2.2.1
theorem sm_v85_7 {h : jH} (H : ShM h) {h2 : jH} (e : sR h2 h) (f : Nat → Option jO) : j_rv (va_rf (j_R h2 85 7)) f = f 91 := rv_of (sm_R85_7 H) e f
theorem sm_R85_11 {h : jH} (H : ShM h) : j_R h 85 11 = some 92 := H.1.2.2.2.2.2.2.2.1
theorem sm_v85_11 {h : jH} (H : ShM h) {h2 : jH} (e : sR h2 h) (f : Nat → Option jO) : j_rv (va_rf (j_R h2 85 11)) f = f 92 := rv_of (sm_R85_11 H) e f
theorem sm_R85_12 {h : jH} (H : ShM h) : j_R h 85 12 = some 93 := H.1.2.2.2.2.2.2.2.2.1
theorem sm_v85_12 {h : jH} (H : ShM h) {h2 : jH} (e : sR h2 h) (f : Nat → Option jO) : j_rv (va_rf (j_R h2 85 12)) f = f 93 := rv_of (sm_R85_12 H) e f
theorem sm_R85_15 {h : jH} (H : ShM h) : j_R h 85 15 = some 94 := H.1.2.2.2.2.2.2.2.2.2
theorem sm_v85_15 {h : jH} (H : ShM h) {h2 : jH} (e : sR h2 h) (f : Nat → Option jO) : j_rv (va_rf (j_R h2 85 15)) f = f 94 := rv_of (sm_R85_15 H) e f
theorem sm_R85_16 {h : jH} (H : ShM h) : j_R h 85 16 = some 95 := H.2.1.1
theorem sm_v85_16 {h : jH} (H : ShM h) {h2 : jH} (e : sR h2 h) (f : Nat → Option jO) : j_rv (va_rf (j_R h2 85 16)) f = f 95 := rv_of (sm_R85_16 H) e f
theorem sm_R85_17 {h : jH} (H : ShM h) : j_R h 85 17 = some 96 := H.2.1.2.1
theorem sm_v85_17 {h : jH} (H : ShM h) {h2 : jH} (e : sR h2 h) (f : Nat → Option jO) : j_rv (va_rf (j_R h2 85 17)) f = f 96 := rv_of (sm_R85_17 H) e f
theorem sm_R85_26 {h : jH} (H : ShM h) : j_R h 85 26 = some 97 := H.2.1.2.2.1
theorem sm_v85_26 {h : jH} (H : ShM h) {h2 : jH} (e : sR h2 h) (f : Nat → Option jO) : j_rv (va_rf (j_R h2 85 26)) f = f 97 := rv_of (sm_R85_26 H) e f
theorem sm_R85_29 {h : jH} (H : ShM h) : j_R h 85 29 = some 98 := H.2.1.2.2.2.1
theorem sm_v85_29 {h : jH} (H : ShM h) {h2 : jH} (e : sR h2 h) (f : Nat → Option jO) : j_rv (va_rf (j_R h2 85 29)) f = f 98 := rv_of (sm_R85_29 H) e f
theorem sm_R85_30 {h : jH} (H : ShM h) : j_R h 85 30 = some 99 := H.2.1.2.2.2.2.1
theorem sm_v85_30 {h : jH} (H : ShM h) {h2 : jH} (e : sR h2 h) (f : Nat → Option jO) : j_rv (va_rf (j_R h2 85 30)) f = f 99 := rv_of (sm_R85_30 H) e f
theorem sm_R85_32 {h : jH} (H : ShM h) : j_R h 85 32 = some 100 := H.2.1.2.2.2.2.2.1
theorem sm_v85_32 {h : jH} (H : ShM h) {h2 : jH} (e : sR h2 h) (f : Nat → Option jO) : j_rv (va_rf (j_R h2 85 32)) f = f 100 := rv_of (sm_R85_32 H) e f
theorem sm_R85_33 {h : jH} (H : ShM h) : j_R h 85 33 = some 101 := H.2.1.2.2.2.2.2.2.1
theorem sm_v85_33 {h : jH} (H : ShM h) {h2 : jH} (e : sR h2 h) (f : Nat → Option jO) : j_rv (va_rf (j_R h2 85 33)) f = f 101 := rv_of (sm_R85_33 H) e f
theorem sm_R85_34 {h : jH} (H : ShM h) : j_R h 85 34 = some 102 := H.2.1.2.2.2.2.2.2.2.1
theorem sm_v85_34 {h : jH} (H : ShM h) {h2 : jH} (e : sR h2 h) (f : Nat → Option jO) : j_rv (va_rf (j_R h2 85 34)) f = f 102 := rv_of (sm_R85_34 H) e f
theorem sm_R85_35 {h : jH} (H : ShM h) : j_R h 85 35 = some 103 := H.2.1.2.2.2.2.2.2.2.2.1
theorem sm_v85_35 {h : jH} (H : ShM h) {h2 : jH} (e : sR h2 h) (f : Nat → Option jO) : j_rv (va_rf (j_R h2 85 35)) f = f 103 := rv_of (sm_R85_35 H) e f
theorem sm_R85_36 {h : jH} (H : ShM h) : j_R h 85 36 = some 104 := H.2.1.2.2.2.2.2.2.2.2.2
theorem sm_v85_36 {h : jH} (H : ShM h) {h2 : jH} (e : sR h2 h) (f : Nat → Option jO) : j_rv (va_rf (j_R h2 85 36)) f = f 104 := rv_of (sm_R85_36 H) e f
theorem sm_R85_37 {h : jH} (H : ShM h) : j_R h 85 37 = some 105 := H.2.2.1.1
theorem sm_v85_37 {h : jH} (H : ShM h) {h2 : jH} (e : sR h2 h) (f : Nat → Option jO) : j_rv (va_rf (j_R h2 85 37)) f = f 105 := rv_of (sm_R85_37 H) e f
theorem sm_R85_38 {h : jH} (H : ShM h) : j_R h 85 38 = some 106 := H.2.2.1.2.1
theorem sm_v85_38 {h : jH} (H : ShM h) {h2 : jH} (e : sR h2 h) (f : Nat → Option jO) : j_rv (va_rf (j_R h2 85 38)) f = f 106 := rv_of (sm_R85_38 H) e f
theorem sm_R85_40 {h : jH} (H : ShM h) : j_R h 85 40 = some 107 := H.2.2.1.2.2.1
theorem sm_v85_40 {h : jH} (H : ShM h) {h2 : jH} (e : sR h2 h) (f : Nat → Option jO) : j_rv (va_rf (j_R h2 85 40)) f = f 107 := rv_of (sm_R85_40 H) e f
theorem sm_R85_41 {h : jH} (H : ShM h) : j_R h 85 41 = some 108 := H.2.2.1.2.2.2.1
theorem sm_v85_41 {h : jH} (H : ShM h) {h2 : jH} (e : sR h2 h) (f : Nat → Option jO) : j_rv (va_rf (j_R h2 85 41)) f = f 108 := rv_of (sm_R85_41 H) e f
theorem sm_R85_48 {h : jH} (H : ShM h) : j_R h 85 48 = some 109 := H.2.2.1.2.2.2.2.1
theorem sm_v85_48 {h : jH} (H : ShM h) {h2 : jH} (e : sR h2 h) (f : Nat → Option jO) : j_rv (va_rf (j_R h2 85 48)) f = f 109 := rv_of (sm_R85_48 H) e f
theorem sm_R85_49 {h : jH} (H : ShM h) : j_R h 85 49 = some 110 := H.2.2.1.2.2.2.2.2.1
theorem sm_v85_49 {h : jH} (H : ShM h) {h2 : jH} (e : sR h2 h) (f : Nat → Option jO) : j_rv (va_rf (j_R h2 85 49)) f = f 110 := rv_of (sm_R85_49 H) e f
theorem sm_k86 {h : jH} (H : ShM h) : j_k h 86 = 0 := H.2.2.1.2.2.2.2.2.2.1
theorem sm_n86 {h : jH} (H : ShM h) : j_n h 86 = 7 := H.2.2.1.2.2.2.2.2.2.2.1
theorem sm_k87 {h : jH} (H : ShM h) : j_k h 87 = 0 := H.2.2.1.2.2.2.2.2.2.2.2.1
theorem sm_n87 {h : jH} (H : ShM h) : j_n h 87 = 5788 := H.2.2.1.2.2.2.2.2.2.2.2.2
theorem sm_k88 {h : jH} (H : ShM h) : j_k h 88 = 0 := H.2.2.2.1.1
theorem sm_n88 {h : jH} (H : ShM h) : j_n h 88 = 11576 := H.2.2.2.1.2.1
theorem sm_k89 {h : jH} (H : ShM h) : j_k h 89 = 3 := H.2.2.2.1.2.2.1
theorem sm_n89 {h : jH} (H : ShM h) : j_n h 89 = 2 := H.2.2.2.1.2.2.2.1
theorem sm_k90 {h : jH} (H : ShM h) : j_k h 90 = 0 := H.2.2.2.1.2.2.2.2.1
theorem sm_n90 {h : jH} (H : ShM h) : j_n h 90 = 210 := H.2.2.2.1.2.2.2.2.2.1
theorem sm_k91 {h : jH} (H : ShM h) : j_k h 91 = 2 := H.2.2.2.1.2.2.2.2.2.2.1
theorem sm_n91 {h : jH} (H : ShM h) : j_n h 91 = 137 := H.2.2.2.1.2.2.2.2.2.2.2.1
theorem sm_k92 {h : jH} (H : ShM h) : j_k h 92 = 2 := H.2.2.2.1.2.2.2.2.2.2.2.2.1
theorem sm_n92 {h : jH} (H : ShM h) : j_n h 92 = 400 := H.2.2.2.1.2.2.2.2.2.2.2.2.2
theorem sm_k93 {h : jH} (H : ShM h) : j_k h 93 = 0 := H.2.2.2.2.1.1
theorem sm_n93 {h : jH} (H : ShM h) : j_n h 93 = 5 := H.2.2.2.2.1.2.1
theorem sm_k94 {h : jH} (H : ShM h) : j_k h 94 = 0 := H.2.2.2.2.1.2.2.1
theorem sm_n94 {h : jH} (H : ShM h) : j_n h 94 = 401 := H.2.2.2.2.1.2.2.2.1
theorem sm_k95 {h : jH} (H : ShM h) : j_k h 95 = 0 := H.2.2.2.2.1.2.2.2.2.1
theorem sm_n95 {h : jH} (H : ShM h) : j_n h 95 = 401 := H.2.2.2.2.1.2.2.2.2.2.1
theorem sm_k96 {h : jH} (H : ShM h) : j_k h 96 = 0 := H.2.2.2.2.1.2.2.2.2.2.2.1
theorem sm_n96 {h : jH} (H : ShM h) : j_n h 96 = 401 := H.2.2.2.2.1.2.2.2.2.2.2.2.1
theorem sm_k97 {h : jH} (H : ShM h) : j_k h 97 = 0 := H.2.2.2.2.1.2.2.2.2.2.2.2.2.1
theorem sm_n97 {h : jH} (H : ShM h) : j_n h 97 = 8 := H.2.2.2.2.1.2.2.2.2.2.2.2.2.2
theorem sm_k98 {h : jH} (H : ShM h) : j_k h 98 = 0 := H.2.2.2.2.2.1.1
theorem sm_n98 {h : jH} (H : ShM h) : j_n h 98 = 1696 := H.2.2.2.2.2.1.2.1
theorem sm_k99 {h : jH} (H : ShM h) : j_k h 99 = 0 := H.2.2.2.2.2.1.2.2.1
theorem sm_n99 {h : jH} (H : ShM h) : j_n h 99 = 1696 := H.2.2.2.2.2.1.2.2.2.1
theorem sm_k100 {h : jH} (H : ShM h) : j_k h 100 = 0 := H.2.2.2.2.2.1.2.2.2.2.1
theorem sm_n100 {h : jH} (H : ShM h) : j_n h 100 = 125 := H.2.2.2.2.2.1.2.2.2.2.2.1
theorem sm_k101 {h : jH} (H : ShM h) : j_k h 101 = 0 := H.2.2.2.2.2.1.2.2.2.2.2.2.1
theorem sm_n101 {h : jH} (H : ShM h) : j_n h 101 = 25 := H.2.2.2.2.2.1.2.2.2.2.2.2.2.1
theorem sm_k102 {h : jH} (H : ShM h) : j_k h 102 = 0 := H.2.2.2.2.2.1.2.2.2.2.2.2.2.2.1
theorem sm_n102 {h : jH} (H : ShM h) : j_n h 102 = 25 := H.2.2.2.2.2.1.2.2.2.2.2.2.2.2.2
theorem sm_k103 {h : jH} (H : ShM h) : j_k h 103 = 0 := H.2.2.2.2.2.2.1.1
theorem sm_n103 {h : jH} (H : ShM h) : j_n h 103 = 25 := H.2.2.2.2.2.2.1.2.1
theorem sm_k104 {h : jH} (H : ShM h) : j_k h 104 = 0 := H.2.2.2.2.2.2.1.2.2.1
theorem sm_n104 {h : jH} (H : ShM h) : j_n h 104 = 6 := H.2.2.2.2.2.2.1.2.2.2.1
theorem sm_k105 {h : jH} (H : ShM h) : j_k h 105 = 0 := H.2.2.2.2.2.2.1.2.2.2.2.1
theorem sm_n105 {h : jH} (H : ShM h) : j_n h 105 = 25 := H.2.2.2.2.2.2.1.2.2.2.2.2.1
theorem sm_k106 {h : jH} (H : ShM h) : j_k h 106 = 0 := H.2.2.2.2.2.2.1.2.2.2.2.2.2.1
theorem sm_n106 {h : jH} (H : ShM h) : j_n h 106 = 1600 := H.2.2.2.2.2.2.1.2.2.2.2.2.2.2.1
theorem sm_k107 {h : jH} (H : ShM h) : j_k h 107 = 0 := H.2.2.2.2.2.2.1.2.2.2.2.2.2.2.2.1
theorem sm_n107 {h : jH} (H : ShM h) : j_n h 107 = 5 := H.2.2.2.2.2.2.1.2.2.2.2.2.2.2.2.2
theorem sm_k108 {h : jH} (H : ShM h) : j_k h 108 = 1 := H.2.2.2.2.2.2.2.1
theorem sm_n108 {h : jH} (H : ShM h) : j_n h 108 = 21 := H.2.2.2.2.2.2.2.2.1
theorem sm_k109 {h : jH} (H : ShM h) : j_k h 109 = 1 := H.2.2.2.2.2.2.2.2.2.1
theorem sm_n109 {h : jH} (H : ShM h) : j_n h 109 = 2 := H.2.2.2.2.2.2.2.2.2.2.1
theorem sm_k110 {h : jH} (H : ShM h) : j_k h 110 = 0 := H.2.2.2.2.2.2.2.2.2.2.2.1
theorem sm_n110 {h : jH} (H : ShM h) : j_n h 110 = 105 := H.2.2.2.2.2.2.2.2.2.2.2.2
/-- the class -/
def ShF (h : jH) : Prop := (j_k h 4 = 10 ∧ j_R h 4 0 = some 5 ∧ j_R h 4 1 = some 17 ∧ j_R h 4 2 = some 29 ∧ j_R h 4 3 = some 41 ∧ j_R h 4 4 = some 42 ∧ j_R h 4 5 = some 51 ∧ j_R h 4 6 = some 60 ∧ j_R h 4 7 = some 72 ∧ j_R h 4 8 = some 75) ∧ (j_R h 4 9 = some 81 ∧ j_R h 4 10 = some 82 ∧ j_R h 4 11 = some 83 ∧ j_R h 4 12 = some 84 ∧ j_k h 5 = 12 ∧ j_R h 5 0 = some 6 ∧ j_R h 5 1 = some 7 ∧ j_R h 5 3 = some 8 ∧ j_R h 5 4 = some 9 ∧ j_R h 5 5 = some 10) ∧ (j_R h 5 6 = some 11 ∧ j_R h 5 7 = some 12 ∧ j_R h 5 9 = some 13 ∧ j_R h 5 10 = some 14 ∧ j_R h 5 11 = some 15 ∧ j_R h 5 12 = some 16 ∧ j_k h 17 = 12 ∧ j_R h 17 0 = some 18 ∧ j_R h 17 1 = some 19 ∧ j_R h 17 3 = some 20) ∧ (j_R h 17 4 = some 21 ∧ j_R h 17 5 = some 22 ∧ j_R h 17 6 = some 23 ∧ j_R h 17 7 = some 24 ∧ j_R h 17 9 = some 25 ∧ j_R h 17 10 = some 26 ∧ j_R h 17 11 = some 27 ∧ j_R h 17 12 = some 28 ∧ j_k h 29 = 12 ∧ j_R h 29 0 = some 30) ∧ (j_R h 29 1 = some 31 ∧ j_R h 29 3 = some 32 ∧ j_R h 29 4 = some 33 ∧ j_R h 29 5 = some 34 ∧ j_R h 29 6 = some 35 ∧ j_R h 29 7 = some 36 ∧ j_R h 29 9 = some 37 ∧ j_R h 29 10 = some 38 ∧ j_R h 29 11 = some 39 ∧ j_R h 29 12 = some 40) ∧ (j_k h 41 = 5 ∧ j_n h 41 = 2 ∧ j_k h 42 = 11 ∧ j_R h 42 0 = some 43 ∧ j_R h 42 1 = some 44 ∧ j_R h 42 2 = some 45 ∧ j_R h 42 3 = some 46 ∧ j_R h 42 4 = some 47 ∧ j_R h 42 5 = some 48 ∧ j_R h 42 6 = some 49) ∧ (j_R h 42 7 = some 50 ∧ j_k h 51 = 11 ∧ j_R h 51 0 = some 52 ∧ j_R h 51 1 = some 53 ∧ j_R h 51 2 = some 54 ∧ j_R h 51 3 = some 55 ∧ j_R h 51 4 = some 56 ∧ j_R h 51 5 = some 57 ∧ j_R h 51 6 = some 58 ∧ j_R h 51 7 = some 59) ∧ (j_k h 60 = 13 ∧ j_R h 60 0 = some 61 ∧ j_R h 60 3 = some 62 ∧ j_R h 60 4 = some 69 ∧ j_R h 60 5 = some 70 ∧ j_R h 60 6 = some 71 ∧ j_k h 72 = 14 ∧ j_R h 72 0 = some 73 ∧ j_R h 72 1 = some 74 ∧ j_k h 75 = 16) ∧ (j_R h 75 0 = some 76 ∧ j_R h 75 1 = some 77 ∧ j_R h 75 2 = some 78 ∧ j_R h 75 3 = some 79 ∧ j_R h 75 4 = some 80 ∧ j_k h 81 = 1 ∧ j_n h 81 = 36 ∧ j_k h 82 = 1 ∧ j_n h 82 = 20 ∧ j_k h 83 = 0) ∧ (j_n h 83 = 5 ∧ j_k h 84 = 0 ∧ j_n h 84 = 7 ∧ j_k h 6 = 0 ∧ j_n h 6 = 25 ∧ j_k h 7 = 0 ∧ j_n h 7 = 25 ∧ j_k h 8 = 0 ∧ j_n h 8 = 4 ∧ j_k h 9 = 0) ∧ (j_n h 9 = 4 ∧ j_k h 10 = 0 ∧ j_n h 10 = 4 ∧ j_k h 11 = 0 ∧ j_n h 11 = 4 ∧ j_k h 12 = 1 ∧ j_n h 12 = 4 ∧ j_k h 13 = 0 ∧ j_n h 13 = 6 ∧ j_k h 14 = 0) ∧ (j_n h 14 = 6 ∧ j_k h 15 = 0 ∧ j_n h 15 = 3 ∧ j_k h 16 = 4 ∧ j_n h 16 = 6 ∧ j_k h 18 = 0 ∧ j_n h 18 = 25 ∧ j_k h 19 = 0 ∧ j_n h 19 = 25 ∧ j_k h 20 = 0) ∧ (j_n h 20 = 4 ∧ j_k h 21 = 0 ∧ j_n h 21 = 4 ∧ j_k h 22 = 0 ∧ j_n h 22 = 4 ∧ j_k h 23 = 0 ∧ j_n h 23 = 4 ∧ j_k h 24 = 1 ∧ j_n h 24 = 4 ∧ j_k h 25 = 0) ∧ (j_n h 25 = 6 ∧ j_k h 26 = 0 ∧ j_n h 26 = 6 ∧ j_k h 27 = 0 ∧ j_n h 27 = 3 ∧ j_k h 28 = 4 ∧ j_n h 28 = 6 ∧ j_k h 30 = 0 ∧ j_n h 30 = 25 ∧ j_k h 31 = 0) ∧ (j_n h 31 = 25 ∧ j_k h 32 = 0 ∧ j_n h 32 = 4 ∧ j_k h 33 = 0 ∧ j_n h 33 = 4 ∧ j_k h 34 = 0 ∧ j_n h 34 = 4 ∧ j_k h 35 = 0 ∧ j_n h 35 = 4 ∧ j_k h 36 = 1) ∧ (j_n h 36 = 4 ∧ j_k h 37 = 0 ∧ j_n h 37 = 6 ∧ j_k h 38 = 0 ∧ j_n h 38 = 6 ∧ j_k h 39 = 0 ∧ j_n h 39 = 3 ∧ j_k h 40 = 4 ∧ j_n h 40 = 6 ∧ j_k h 43 = 0) ∧ (j_n h 43 = 16 ∧ j_k h 44 = 0 ∧ j_n h 44 = 16 ∧ j_k h 45 = 0 ∧ j_n h 45 = 16 ∧ j_k h 46 = 0 ∧ j_n h 46 = 16 ∧ j_k h 47 = 1 ∧ j_n h 47 = 16 ∧ j_k h 48 = 0) ∧ (j_n h 48 = 16 ∧ j_k h 49 = 0 ∧ j_n h 49 = 16 ∧ j_k h 50 = 1 ∧ j_n h 50 = 16 ∧ j_k h 52 = 0 ∧ j_n h 52 = 16 ∧ j_k h 53 = 0 ∧ j_n h 53 = 16 ∧ j_k h 54 = 0) ∧ (j_n h 54 = 16 ∧ j_k h 55 = 0 ∧ j_n h 55 = 16 ∧ j_k h 56 = 1 ∧ j_n h 56 = 16 ∧ j_k h 57 = 0 ∧ j_n h 57 = 16 ∧ j_k h 58 = 0 ∧ j_n h 58 = 16 ∧ j_k h 59 = 1) ∧ (j_n h 59 = 16 ∧ j_k h 61 = 0 ∧ j_n h 61 = 400 ∧ j_k h 62 = 15 ∧ j_R h 62 0 = some 63 ∧ j_R h 62 1 = some 64 ∧ j_R h 62 2 = some 65 ∧ j_R h 62 3 = some 66 ∧ j_R h 62 4 = some 67 ∧ j_R h 62 5 = some 68) ∧ (j_k h 69 = 0 ∧ j_n h 69 = 401 ∧ j_k h 70 = 0 ∧ j_n h 70 = 401 ∧ j_k h 71 = 0 ∧ j_n h 71 = 401 ∧ j_k h 73 = 1 ∧ j_n h 73 = 8 ∧ j_k h 74 = 1 ∧ j_n h 74 = 48) ∧ (j_k h 76 = 0 ∧ j_n h 76 = 100 ∧ j_k h 77 = 0 ∧ j_n h 77 = 25 ∧ j_k h 78 = 0 ∧ j_n h 78 = 25 ∧ j_k h 79 = 0 ∧ j_n h 79 = 25 ∧ j_k h 80 = 0 ∧ j_n h 80 = 1600) ∧ (j_k h 63 = 0 ∧ j_n h 63 = 480 ∧ j_k h 64 = 0 ∧ j_n h 64 = 12 ∧ j_k h 65 = 0 ∧ j_n h 65 = 12 ∧ j_k h 66 = 0 ∧ j_n h 66 = 12 ∧ j_k h 67 = 0 ∧ j_n h 67 = 12) ∧ (j_k h 68 = 0 ∧ j_n h 68 = 12)
theorem sf_k4 {h : jH} (H : ShF h) : j_k h 4 = 10 := H.1.1
theorem sf_R4_0 {h : jH} (H : ShF h) : j_R h 4 0 = some 5 := H.1.2.1
theorem sf_v4_0 {h : jH} (H : ShF h) {h2 : jH} (e : sR h2 h) (f : Nat → Option jO) : j_rv (va_rf (j_R h2 4 0)) f = f 5 := rv_of (sf_R4_0 H) e f
theorem sf_R4_1 {h : jH} (H : ShF h) : j_R h 4 1 = some 17 := H.1.2.2.1
theorem sf_v4_1 {h : jH} (H : ShF h) {h2 : jH} (e : sR h2 h) (f : Nat → Option jO) : j_rv (va_rf (j_R h2 4 1)) f = f 17 := rv_of (sf_R4_1 H) e f
theorem sf_R4_2 {h : jH} (H : ShF h) : j_R h 4 2 = some 29 := H.1.2.2.2.1
theorem sf_v4_2 {h : jH} (H : ShF h) {h2 : jH} (e : sR h2 h) (f : Nat → Option jO) : j_rv (va_rf (j_R h2 4 2)) f = f 29 := rv_of (sf_R4_2 H) e f
theorem sf_R4_3 {h : jH} (H : ShF h) : j_R h 4 3 = some 41 := H.1.2.2.2.2.1
theorem sf_v4_3 {h : jH} (H : ShF h) {h2 : jH} (e : sR h2 h) (f : Nat → Option jO) : j_rv (va_rf (j_R h2 4 3)) f = f 41 := rv_of (sf_R4_3 H) e f
theorem sf_R4_4 {h : jH} (H : ShF h) : j_R h 4 4 = some 42 := H.1.2.2.2.2.2.1
theorem sf_v4_4 {h : jH} (H : ShF h) {h2 : jH} (e : sR h2 h) (f : Nat → Option jO) : j_rv (va_rf (j_R h2 4 4)) f = f 42 := rv_of (sf_R4_4 H) e f
theorem sf_R4_5 {h : jH} (H : ShF h) : j_R h 4 5 = some 51 := H.1.2.2.2.2.2.2.1
theorem sf_v4_5 {h : jH} (H : ShF h) {h2 : jH} (e : sR h2 h) (f : Nat → Option jO) : j_rv (va_rf (j_R h2 4 5)) f = f 51 := rv_of (sf_R4_5 H) e f
theorem sf_R4_6 {h : jH} (H : ShF h) : j_R h 4 6 = some 60 := H.1.2.2.2.2.2.2.2.1
theorem sf_v4_6 {h : jH} (H : ShF h) {h2 : jH} (e : sR h2 h) (f : Nat → Option jO) : j_rv (va_rf (j_R h2 4 6)) f = f 60 := rv_of (sf_R4_6 H) e f
theorem sf_R4_7 {h : jH} (H : ShF h) : j_R h 4 7 = some 72 := H.1.2.2.2.2.2.2.2.2.1
theorem sf_v4_7 {h : jH} (H : ShF h) {h2 : jH} (e : sR h2 h) (f : Nat → Option jO) : j_rv (va_rf (j_R h2 4 7)) f = f 72 := rv_of (sf_R4_7 H) e f
theorem sf_R4_8 {h : jH} (H : ShF h) : j_R h 4 8 = some 75 := H.1.2.2.2.2.2.2.2.2.2
theorem sf_v4_8 {h : jH} (H : ShF h) {h2 : jH} (e : sR h2 h) (f : Nat → Option jO) : j_rv (va_rf (j_R h2 4 8)) f = f 75 := rv_of (sf_R4_8 H) e f
theorem sf_R4_9 {h : jH} (H : ShF h) : j_R h 4 9 = some 81 := H.2.1.1
theorem sf_v4_9 {h : jH} (H : ShF h) {h2 : jH} (e : sR h2 h) (f : Nat → Option jO) : j_rv (va_rf (j_R h2 4 9)) f = f 81 := rv_of (sf_R4_9 H) e f
theorem sf_R4_10 {h : jH} (H : ShF h) : j_R h 4 10 = some 82 := H.2.1.2.1
theorem sf_v4_10 {h : jH} (H : ShF h) {h2 : jH} (e : sR h2 h) (f : Nat → Option jO) : j_rv (va_rf (j_R h2 4 10)) f = f 82 := rv_of (sf_R4_10 H) e f
theorem sf_R4_11 {h : jH} (H : ShF h) : j_R h 4 11 = some 83 := H.2.1.2.2.1
theorem sf_v4_11 {h : jH} (H : ShF h) {h2 : jH} (e : sR h2 h) (f : Nat → Option jO) : j_rv (va_rf (j_R h2 4 11)) f = f 83 := rv_of (sf_R4_11 H) e f
theorem sf_R4_12 {h : jH} (H : ShF h) : j_R h 4 12 = some 84 := H.2.1.2.2.2.1
theorem sf_v4_12 {h : jH} (H : ShF h) {h2 : jH} (e : sR h2 h) (f : Nat → Option jO) : j_rv (va_rf (j_R h2 4 12)) f = f 84 := rv_of (sf_R4_12 H) e f
theorem sf_k5 {h : jH} (H : ShF h) : j_k h 5 = 12 := H.2.1.2.2.2.2.1
theorem sf_R5_0 {h : jH} (H : ShF h) : j_R h 5 0 = some 6 := H.2.1.2.2.2.2.2.1
theorem sf_v5_0 {h : jH} (H : ShF h) {h2 : jH} (e : sR h2 h) (f : Nat → Option jO) : j_rv (va_rf (j_R h2 5 0)) f = f 6 := rv_of (sf_R5_0 H) e f
theorem sf_R5_1 {h : jH} (H : ShF h) : j_R h 5 1 = some 7 := H.2.1.2.2.2.2.2.2.1
theorem sf_v5_1 {h : jH} (H : ShF h) {h2 : jH} (e : sR h2 h) (f : Nat → Option jO) : j_rv (va_rf (j_R h2 5 1)) f = f 7 := rv_of (sf_R5_1 H) e f
theorem sf_R5_3 {h : jH} (H : ShF h) : j_R h 5 3 = some 8 := H.2.1.2.2.2.2.2.2.2.1
theorem sf_v5_3 {h : jH} (H : ShF h) {h2 : jH} (e : sR h2 h) (f : Nat → Option jO) : j_rv (va_rf (j_R h2 5 3)) f = f 8 := rv_of (sf_R5_3 H) e f
theorem sf_R5_4 {h : jH} (H : ShF h) : j_R h 5 4 = some 9 := H.2.1.2.2.2.2.2.2.2.2.1
theorem sf_v5_4 {h : jH} (H : ShF h) {h2 : jH} (e : sR h2 h) (f : Nat → Option jO) : j_rv (va_rf (j_R h2 5 4)) f = f 9 := rv_of (sf_R5_4 H) e f
theorem sf_R5_5 {h : jH} (H : ShF h) : j_R h 5 5 = some 10 := H.2.1.2.2.2.2.2.2.2.2.2
theorem sf_v5_5 {h : jH} (H : ShF h) {h2 : jH} (e : sR h2 h) (f : Nat → Option jO) : j_rv (va_rf (j_R h2 5 5)) f = f 10 := rv_of (sf_R5_5 H) e f
theorem sf_R5_6 {h : jH} (H : ShF h) : j_R h 5 6 = some 11 := H.2.2.1.1
theorem sf_v5_6 {h : jH} (H : ShF h) {h2 : jH} (e : sR h2 h) (f : Nat → Option jO) : j_rv (va_rf (j_R h2 5 6)) f = f 11 := rv_of (sf_R5_6 H) e f
theorem sf_R5_7 {h : jH} (H : ShF h) : j_R h 5 7 = some 12 := H.2.2.1.2.1
theorem sf_v5_7 {h : jH} (H : ShF h) {h2 : jH} (e : sR h2 h) (f : Nat → Option jO) : j_rv (va_rf (j_R h2 5 7)) f = f 12 := rv_of (sf_R5_7 H) e f
theorem sf_R5_9 {h : jH} (H : ShF h) : j_R h 5 9 = some 13 := H.2.2.1.2.2.1
theorem sf_v5_9 {h : jH} (H : ShF h) {h2 : jH} (e : sR h2 h) (f : Nat → Option jO) : j_rv (va_rf (j_R h2 5 9)) f = f 13 := rv_of (sf_R5_9 H) e f
theorem sf_R5_10 {h : jH} (H : ShF h) : j_R h 5 10 = some 14 := H.2.2.1.2.2.2.1
theorem sf_v5_10 {h : jH} (H : ShF h) {h2 : jH} (e : sR h2 h) (f : Nat → Option jO) : j_rv (va_rf (j_R h2 5 10)) f = f 14 := rv_of (sf_R5_10 H) e f
theorem sf_R5_11 {h : jH} (H : ShF h) : j_R h 5 11 = some 15 := H.2.2.1.2.2.2.2.1
theorem sf_v5_11 {h : jH} (H : ShF h) {h2 : jH} (e : sR h2 h) (f : Nat → Option jO) : j_rv (va_rf (j_R h2 5 11)) f = f 15 := rv_of (sf_R5_11 H) e f
theorem sf_R5_12 {h : jH} (H : ShF h) : j_R h 5 12 = some 16 := H.2.2.1.2.2.2.2.2.1
theorem sf_v5_12 {h : jH} (H : ShF h) {h2 : jH} (e : sR h2 h) (f : Nat → Option jO) : j_rv (va_rf (j_R h2 5 12)) f = f 16 := rv_of (sf_R5_12 H) e f
theorem sf_k17 {h : jH} (H : ShF h) : j_k h 17 = 12 := H.2.2.1.2.2.2.2.2.2.1
theorem sf_R17_0 {h : jH} (H : ShF h) : j_R h 17 0 = some 18 := H.2.2.1.2.2.2.2.2.2.2.1
theorem sf_v17_0 {h : jH} (H : ShF h) {h2 : jH} (e : sR h2 h) (f : Nat → Option jO) : j_rv (va_rf (j_R h2 17 0)) f = f 18 := rv_of (sf_R17_0 H) e f
theorem sf_R17_1 {h : jH} (H : ShF h) : j_R h 17 1 = some 19 := H.2.2.1.2.2.2.2.2.2.2.2.1
theorem sf_v17_1 {h : jH} (H : ShF h) {h2 : jH} (e : sR h2 h) (f : Nat → Option jO) : j_rv (va_rf (j_R h2 17 1)) f = f 19 := rv_of (sf_R17_1 H) e f
theorem sf_R17_3 {h : jH} (H : ShF h) : j_R h 17 3 = some 20 := H.2.2.1.2.2.2.2.2.2.2.2.2
theorem sf_v17_3 {h : jH} (H : ShF h) {h2 : jH} (e : sR h2 h) (f : Nat → Option jO) : j_rv (va_rf (j_R h2 17 3)) f = f 20 := rv_of (sf_R17_3 H) e f
theorem sf_R17_4 {h : jH} (H : ShF h) : j_R h 17 4 = some 21 := H.2.2.2.1.1
theorem sf_v17_4 {h : jH} (H : ShF h) {h2 : jH} (e : sR h2 h) (f : Nat → Option jO) : j_rv (va_rf (j_R h2 17 4)) f = f 21 := rv_of (sf_R17_4 H) e f
theorem sf_R17_5 {h : jH} (H : ShF h) : j_R h 17 5 = some 22 := H.2.2.2.1.2.1
theorem sf_v17_5 {h : jH} (H : ShF h) {h2 : jH} (e : sR h2 h) (f : Nat → Option jO) : j_rv (va_rf (j_R h2 17 5)) f = f 22 := rv_of (sf_R17_5 H) e f
theorem sf_R17_6 {h : jH} (H : ShF h) : j_R h 17 6 = some 23 := H.2.2.2.1.2.2.1
theorem sf_v17_6 {h : jH} (H : ShF h) {h2 : jH} (e : sR h2 h) (f : Nat → Option jO) : j_rv (va_rf (j_R h2 17 6)) f = f 23 := rv_of (sf_R17_6 H) e f
theorem sf_R17_7 {h : jH} (H : ShF h) : j_R h 17 7 = some 24 := H.2.2.2.1.2.2.2.1
theorem sf_v17_7 {h : jH} (H : ShF h) {h2 : jH} (e : sR h2 h) (f : Nat → Option jO) : j_rv (va_rf (j_R h2 17 7)) f = f 24 := rv_of (sf_R17_7 H) e f
theorem sf_R17_9 {h : jH} (H : ShF h) : j_R h 17 9 = some 25 := H.2.2.2.1.2.2.2.2.1
theorem sf_v17_9 {h : jH} (H : ShF h) {h2 : jH} (e : sR h2 h) (f : Nat → Option jO) : j_rv (va_rf (j_R h2 17 9)) f = f 25 := rv_of (sf_R17_9 H) e f
theorem sf_R17_10 {h : jH} (H : ShF h) : j_R h 17 10 = some 26 := H.2.2.2.1.2.2.2.2.2.1
theorem sf_v17_10 {h : jH} (H : ShF h) {h2 : jH} (e : sR h2 h) (f : Nat → Option jO) : j_rv (va_rf (j_R h2 17 10)) f = f 26 := rv_of (sf_R17_10 H) e f
theorem sf_R17_11 {h : jH} (H : ShF h) : j_R h 17 11 = some 27 := H.2.2.2.1.2.2.2.2.2.2.1
theorem sf_v17_11 {h : jH} (H : ShF h) {h2 : jH} (e : sR h2 h) (f : Nat → Option jO) : j_rv (va_rf (j_R h2 17 11)) f = f 27 := rv_of (sf_R17_11 H) e f
theorem sf_R17_12 {h : jH} (H : ShF h) : j_R h 17 12 = some 28 := H.2.2.2.1.2.2.2.2.2.2.2.1
theorem sf_v17_12 {h : jH} (H : ShF h) {h2 : jH} (e : sR h2 h) (f : Nat → Option jO) : j_rv (va_rf (j_R h2 17 12)) f = f 28 := rv_of (sf_R17_12 H) e f
theorem sf_k29 {h : jH} (H : ShF h) : j_k h 29 = 12 := H.2.2.2.1.2.2.2.2.2.2.2.2.1
theorem sf_R29_0 {h : jH} (H : ShF h) : j_R h 29 0 = some 30 := H.2.2.2.1.2.2.2.2.2.2.2.2.2
theorem sf_v29_0 {h : jH} (H : ShF h) {h2 : jH} (e : sR h2 h) (f : Nat → Option jO) : j_rv (va_rf (j_R h2 29 0)) f = f 30 := rv_of (sf_R29_0 H) e f
theorem sf_R29_1 {h : jH} (H : ShF h) : j_R h 29 1 = some 31 := H.2.2.2.2.1.1
theorem sf_v29_1 {h : jH} (H : ShF h) {h2 : jH} (e : sR h2 h) (f : Nat → Option jO) : j_rv (va_rf (j_R h2 29 1)) f = f 31 := rv_of (sf_R29_1 H) e f
theorem sf_R29_3 {h : jH} (H : ShF h) : j_R h 29 3 = some 32 := H.2.2.2.2.1.2.1
theorem sf_v29_3 {h : jH} (H : ShF h) {h2 : jH} (e : sR h2 h) (f : Nat → Option jO) : j_rv (va_rf (j_R h2 29 3)) f = f 32 := rv_of (sf_R29_3 H) e f
theorem sf_R29_4 {h : jH} (H : ShF h) : j_R h 29 4 = some 33 := H.2.2.2.2.1.2.2.1
theorem sf_v29_4 {h : jH} (H : ShF h) {h2 : jH} (e : sR h2 h) (f : Nat → Option jO) : j_rv (va_rf (j_R h2 29 4)) f = f 33 := rv_of (sf_R29_4 H) e f
theorem sf_R29_5 {h : jH} (H : ShF h) : j_R h 29 5 = some 34 := H.2.2.2.2.1.2.2.2.1
theorem sf_v29_5 {h : jH} (H : ShF h) {h2 : jH} (e : sR h2 h) (f : Nat → Option jO) : j_rv (va_rf (j_R h2 29 5)) f = f 34 := rv_of (sf_R29_5 H) e f
theorem sf_R29_6 {h : jH} (H : ShF h) : j_R h 29 6 = some 35 := H.2.2.2.2.1.2.2.2.2.1
theorem sf_v29_6 {h : jH} (H : ShF h) {h2 : jH} (e : sR h2 h) (f : Nat → Option jO) : j_rv (va_rf (j_R h2 29 6)) f = f 35 := rv_of (sf_R29_6 H) e f
theorem sf_R29_7 {h : jH} (H : ShF h) : j_R h 29 7 = some 36 := H.2.2.2.2.1.2.2.2.2.2.1
theorem sf_v29_7 {h : jH} (H : ShF h) {h2 : jH} (e : sR h2 h) (f : Nat → Option jO) : j_rv (va_rf (j_R h2 29 7)) f = f 36 := rv_of (sf_R29_7 H) e f
theorem sf_R29_9 {h : jH} (H : ShF h) : j_R h 29 9 = some 37 := H.2.2.2.2.1.2.2.2.2.2.2.1
theorem sf_v29_9 {h : jH} (H : ShF h) {h2 : jH} (e : sR h2 h) (f : Nat → Option jO) : j_rv (va_rf (j_R h2 29 9)) f = f 37 := rv_of (sf_R29_9 H) e f
theorem sf_R29_10 {h : jH} (H : ShF h) : j_R h 29 10 = some 38 := H.2.2.2.2.1.2.2.2.2.2.2.2.1
theorem sf_v29_10 {h : jH} (H : ShF h) {h2 : jH} (e : sR h2 h) (f : Nat → Option jO) : j_rv (va_rf (j_R h2 29 10)) f = f 38 := rv_of (sf_R29_10 H) e f
theorem sf_R29_11 {h : jH} (H : ShF h) : j_R h 29 11 = some 39 := H.2.2.2.2.1.2.2.2.2.2.2.2.2.1
theorem sf_v29_11 {h : jH} (H : ShF h) {h2 : jH} (e : sR h2 h) (f : Nat → Option jO) : j_rv (va_rf (j_R h2 29 11)) f = f 39 := rv_of (sf_R29_11 H) e f
theorem sf_R29_12 {h : jH} (H : ShF h) : j_R h 29 12 = some 40 := H.2.2.2.2.1.2.2.2.2.2.2.2.2.2
theorem sf_v29_12 {h : jH} (H : ShF h) {h2 : jH} (e : sR h2 h) (f : Nat → Option jO) : j_rv (va_rf (j_R h2 29 12)) f = f 40 := rv_of (sf_R29_12 H) e f
theorem sf_k41 {h : jH} (H : ShF h) : j_k h 41 = 5 := H.2.2.2.2.2.1.1
theorem sf_n41 {h : jH} (H : ShF h) : j_n h 41 = 2 := H.2.2.2.2.2.1.2.1
theorem sf_k42 {h : jH} (H : ShF h) : j_k h 42 = 11 := H.2.2.2.2.2.1.2.2.1
theorem sf_R42_0 {h : jH} (H : ShF h) : j_R h 42 0 = some 43 := H.2.2.2.2.2.1.2.2.2.1
theorem sf_v42_0 {h : jH} (H : ShF h) {h2 : jH} (e : sR h2 h) (f : Nat → Option jO) : j_rv (va_rf (j_R h2 42 0)) f = f 43 := rv_of (sf_R42_0 H) e f
theorem sf_R42_1 {h : jH} (H : ShF h) : j_R h 42 1 = some 44 := H.2.2.2.2.2.1.2.2.2.2.1
theorem sf_v42_1 {h : jH} (H : ShF h) {h2 : jH} (e : sR h2 h) (f : Nat → Option jO) : j_rv (va_rf (j_R h2 42 1)) f = f 44 := rv_of (sf_R42_1 H) e f
theorem sf_R42_2 {h : jH} (H : ShF h) : j_R h 42 2 = some 45 := H.2.2.2.2.2.1.2.2.2.2.2.1
theorem sf_v42_2 {h : jH} (H : ShF h) {h2 : jH} (e : sR h2 h) (f : Nat → Option jO) : j_rv (va_rf (j_R h2 42 2)) f = f 45 := rv_of (sf_R42_2 H) e f
theorem sf_R42_3 {h : jH} (H : ShF h) : j_R h 42 3 = some 46 := H.2.2.2.2.2.1.2.2.2.2.2.2.1
theorem sf_v42_3 {h : jH} (H : ShF h) {h2 : jH} (e : sR h2 h) (f : Nat → Option jO) : j_rv (va_rf (j_R h2 42 3)) f = f 46 := rv_of (sf_R42_3 H) e f
theorem sf_R42_4 {h : jH} (H : ShF h) : j_R h 42 4 = some 47 := H.2.2.2.2.2.1.2.2.2.2.2.2.2.1
theorem sf_v42_4 {h : jH} (H : ShF h) {h2 : jH} (e : sR h2 h) (f : Nat → Option jO) : j_rv (va_rf (j_R h2 42 4)) f = f 47 := rv_of (sf_R42_4 H) e f
theorem sf_R42_5 {h : jH} (H : ShF h) : j_R h 42 5 = some 48 := H.2.2.2.2.2.1.2.2.2.2.2.2.2.2.1
theorem sf_v42_5 {h : jH} (H : ShF h) {h2 : jH} (e : sR h2 h) (f : Nat → Option jO) : j_rv (va_rf (j_R h2 42 5)) f = f 48 := rv_of (sf_R42_5 H) e f
theorem sf_R42_6 {h : jH} (H : ShF h) : j_R h 42 6 = some 49 := H.2.2.2.2.2.1.2.2.2.2.2.2.2.2.2
theorem sf_v42_6 {h : jH} (H : ShF h) {h2 : jH} (e : sR h2 h) (f : Nat → Option jO) : j_rv (va_rf (j_R h2 42 6)) f = f 49 := rv_of (sf_R42_6 H) e f
theorem sf_R42_7 {h : jH} (H : ShF h) : j_R h 42 7 = some 50 := H.2.2.2.2.2.2.1.1
theorem sf_v42_7 {h : jH} (H : ShF h) {h2 : jH} (e : sR h2 h) (f : Nat → Option jO) : j_rv (va_rf (j_R h2 42 7)) f = f 50 := rv_of (sf_R42_7 H) e f
theorem sf_k51 {h : jH} (H : ShF h) : j_k h 51 = 11 := H.2.2.2.2.2.2.1.2.1
theorem sf_R51_0 {h : jH} (H : ShF h) : j_R h 51 0 = some 52 := H.2.2.2.2.2.2.1.2.2.1
theorem sf_v51_0 {h : jH} (H : ShF h) {h2 : jH} (e : sR h2 h) (f : Nat → Option jO) : j_rv (va_rf (j_R h2 51 0)) f = f 52 := rv_of (sf_R51_0 H) e f
theorem sf_R51_1 {h : jH} (H : ShF h) : j_R h 51 1 = some 53 := H.2.2.2.2.2.2.1.2.2.2.1
theorem sf_v51_1 {h : jH} (H : ShF h) {h2 : jH} (e : sR h2 h) (f : Nat → Option jO) : j_rv (va_rf (j_R h2 51 1)) f = f 53 := rv_of (sf_R51_1 H) e f
theorem sf_R51_2 {h : jH} (H : ShF h) : j_R h 51 2 = some 54 := H.2.2.2.2.2.2.1.2.2.2.2.1
theorem sf_v51_2 {h : jH} (H : ShF h) {h2 : jH} (e : sR h2 h) (f : Nat → Option jO) : j_rv (va_rf (j_R h2 51 2)) f = f 54 := rv_of (sf_R51_2 H) e f
theorem sf_R51_3 {h : jH} (H : ShF h) : j_R h 51 3 = some 55 := H.2.2.2.2.2.2.1.2.2.2.2.2.1
theorem sf_v51_3 {h : jH} (H : ShF h) {h2 : jH} (e : sR h2 h) (f : Nat → Option jO) : j_rv (va_rf (j_R h2 51 3)) f = f 55 := rv_of (sf_R51_3 H) e f
theorem sf_R51_4 {h : jH} (H : ShF h) : j_R h 51 4 = some 56 := H.2.2.2.2.2.2.1.2.2.2.2.2.2.1
theorem sf_v51_4 {h : jH} (H : ShF h) {h2 : jH} (e : sR h2 h) (f : Nat → Option jO) : j_rv (va_rf (j_R h2 51 4)) f = f 56 := rv_of (sf_R51_4 H) e f
theorem sf_R51_5 {h : jH} (H : ShF h) : j_R h 51 5 = some 57 := H.2.2.2.2.2.2.1.2.2.2.2.2.2.2.1
theorem sf_v51_5 {h : jH} (H : ShF h) {h2 : jH} (e : sR h2 h) (f : Nat → Option jO) : j_rv (va_rf (j_R h2 51 5)) f = f 57 := rv_of (sf_R51_5 H) e f
theorem sf_R51_6 {h : jH} (H : ShF h) : j_R h 51 6 = some 58 := H.2.2.2.2.2.2.1.2.2.2.2.2.2.2.2.1
theorem sf_v51_6 {h : jH} (H : ShF h) {h2 : jH} (e : sR h2 h) (f : Nat → Option jO) : j_rv (va_rf (j_R h2 51 6)) f = f 58 := rv_of (sf_R51_6 H) e f
theorem sf_R51_7 {h : jH} (H : ShF h) : j_R h 51 7 = some 59 := H.2.2.2.2.2.2.1.2.2.2.2.2.2.2.2.2
theorem sf_v51_7 {h : jH} (H : ShF h) {h2 : jH} (e : sR h2 h) (f : Nat → Option jO) : j_rv (va_rf (j_R h2 51 7)) f = f 59 := rv_of (sf_R51_7 H) e f
theorem sf_k60 {h : jH} (H : ShF h) : j_k h 60 = 13 := H.2.2.2.2.2.2.2.1.1
theorem sf_R60_0 {h : jH} (H : ShF h) : j_R h 60 0 = some 61 := H.2.2.2.2.2.2.2.1.2.1
theorem sf_v60_0 {h : jH} (H : ShF h) {h2 : jH} (e : sR h2 h) (f : Nat → Option jO) : j_rv (va_rf (j_R h2 60 0)) f = f 61 := rv_of (sf_R60_0 H) e f
theorem sf_R60_3 {h : jH} (H : ShF h) : j_R h 60 3 = some 62 := H.2.2.2.2.2.2.2.1.2.2.1
theorem sf_v60_3 {h : jH} (H : ShF h) {h2 : jH} (e : sR h2 h) (f : Nat → Option jO) : j_rv (va_rf (j_R h2 60 3)) f = f 62 := rv_of (sf_R60_3 H) e f
theorem sf_R60_4 {h : jH} (H : ShF h) : j_R h 60 4 = some 69 := H.2.2.2.2.2.2.2.1.2.2.2.1
theorem sf_v60_4 {h : jH} (H : ShF h) {h2 : jH} (e : sR h2 h) (f : Nat → Option jO) : j_rv (va_rf (j_R h2 60 4)) f = f 69 := rv_of (sf_R60_4 H) e f
theorem sf_R60_5 {h : jH} (H : ShF h) : j_R h 60 5 = some 70 := H.2.2.2.2.2.2.2.1.2.2.2.2.1
theorem sf_v60_5 {h : jH} (H : ShF h) {h2 : jH} (e : sR h2 h) (f : Nat → Option jO) : j_rv (va_rf (j_R h2 60 5)) f = f 70 := rv_of (sf_R60_5 H) e f
theorem sf_R60_6 {h : jH} (H : ShF h) : j_R h 60 6 = some 71 := H.2.2.2.2.2.2.2.1.2.2.2.2.2.1
theorem sf_v60_6 {h : jH} (H : ShF h) {h2 : jH} (e : sR h2 h) (f : Nat → Option jO) : j_rv (va_rf (j_R h2 60 6)) f = f 71 := rv_of (sf_R60_6 H) e f
theorem sf_k72 {h : jH} (H : ShF h) : j_k h 72 = 14 := H.2.2.2.2.2.2.2.1.2.2.2.2.2.2.1
theorem sf_R72_0 {h : jH} (H : ShF h) : j_R h 72 0 = some 73 := H.2.2.2.2.2.2.2.1.2.2.2.2.2.2.2.1
theorem sf_v72_0 {h : jH} (H : ShF h) {h2 : jH} (e : sR h2 h) (f : Nat → Option jO) : j_rv (va_rf (j_R h2 72 0)) f = f 73 := rv_of (sf_R72_0 H) e f
theorem sf_R72_1 {h : jH} (H : ShF h) : j_R h 72 1 = some 74 := H.2.2.2.2.2.2.2.1.2.2.2.2.2.2.2.2.1
theorem sf_v72_1 {h : jH} (H : ShF h) {h2 : jH} (e : sR h2 h) (f : Nat → Option jO) : j_rv (va_rf (j_R h2 72 1)) f = f 74 := rv_of (sf_R72_1 H) e f
theorem sf_k75 {h : jH} (H : ShF h) : j_k h 75 = 16 := H.2.2.2.2.2.2.2.1.2.2.2.2.2.2.2.2.2
theorem sf_R75_0 {h : jH} (H : ShF h) : j_R h 75 0 = some 76 := H.2.2.2.2.2.2.2.2.1.1
theorem sf_v75_0 {h : jH} (H : ShF h) {h2 : jH} (e : sR h2 h) (f : Nat → Option jO) : j_rv (va_rf (j_R h2 75 0)) f = f 76 := rv_of (sf_R75_0 H) e f
theorem sf_R75_1 {h : jH} (H : ShF h) : j_R h 75 1 = some 77 := H.2.2.2.2.2.2.2.2.1.2.1
theorem sf_v75_1 {h : jH} (H : ShF h) {h2 : jH} (e : sR h2 h) (f : Nat → Option jO) : j_rv (va_rf (j_R h2 75 1)) f = f 77 := rv_of (sf_R75_1 H) e f
theorem sf_R75_2 {h : jH} (H : ShF h) : j_R h 75 2 = some 78 := H.2.2.2.2.2.2.2.2.1.2.2.1
theorem sf_v75_2 {h : jH} (H : ShF h) {h2 : jH} (e : sR h2 h) (f : Nat → Option jO) : j_rv (va_rf (j_R h2 75 2)) f = f 78 := rv_of (sf_R75_2 H) e f
theorem sf_R75_3 {h : jH} (H : ShF h) : j_R h 75 3 = some 79 := H.2.2.2.2.2.2.2.2.1.2.2.2.1
theorem sf_v75_3 {h : jH} (H : ShF h) {h2 : jH} (e : sR h2 h) (f : Nat → Option jO) : j_rv (va_rf (j_R h2 75 3)) f = f 79 := rv_of (sf_R75_3 H) e f
theorem sf_R75_4 {h : jH} (H : ShF h) : j_R h 75 4 = some 80 := H.2.2.2.2.2.2.2.2.1.2.2.2.2.1
theorem sf_v75_4 {h : jH} (H : ShF h) {h2 : jH} (e : sR h2 h) (f : Nat → Option jO) : j_rv (va_rf (j_R h2 75 4)) f = f 80 := rv_of (sf_R75_4 H) e f
theorem sf_k81 {h : jH} (H : ShF h) : j_k h 81 = 1 := H.2.2.2.2.2.2.2.2.1.2.2.2.2.2.1
theorem sf_n81 {h : jH} (H : ShF h) : j_n h 81 = 36 := H.2.2.2.2.2.2.2.2.1.2.2.2.2.2.2.1
theorem sf_k82 {h : jH} (H : ShF h) : j_k h 82 = 1 := H.2.2.2.2.2.2.2.2.1.2.2.2.2.2.2.2.1
theorem sf_n82 {h : jH} (H : ShF h) : j_n h 82 = 20 := H.2.2.2.2.2.2.2.2.1.2.2.2.2.2.2.2.2.1
theorem sf_k83 {h : jH} (H : ShF h) : j_k h 83 = 0 := H.2.2.2.2.2.2.2.2.1.2.2.2.2.2.2.2.2.2
theorem sf_n83 {h : jH} (H : ShF h) : j_n h 83 = 5 := H.2.2.2.2.2.2.2.2.2.1.1
theorem sf_k84 {h : jH} (H : ShF h) : j_k h 84 = 0 := H.2.2.2.2.2.2.2.2.2.1.2.1
theorem sf_n84 {h : jH} (H : ShF h) : j_n h 84 = 7 := H.2.2.2.2.2.2.2.2.2.1.2.2.1
theorem sf_k6 {h : jH} (H : ShF h) : j_k h 6 = 0 := H.2.2.2.2.2.2.2.2.2.1.2.2.2.1
theorem sf_n6 {h : jH} (H : ShF h) : j_n h 6 = 25 := H.2.2.2.2.2.2.2.2.2.1.2.2.2.2.1
theorem sf_k7 {h : jH} (H : ShF h) : j_k h 7 = 0 := H.2.2.2.2.2.2.2.2.2.1.2.2.2.2.2.1
theorem sf_n7 {h : jH} (H : ShF h) : j_n h 7 = 25 := H.2.2.2.2.2.2.2.2.2.1.2.2.2.2.2.2.1
theorem sf_k8 {h : jH} (H : ShF h) : j_k h 8 = 0 := H.2.2.2.2.2.2.2.2.2.1.2.2.2.2.2.2.2.1
theorem sf_n8 {h : jH} (H : ShF h) : j_n h 8 = 4 := H.2.2.2.2.2.2.2.2.2.1.2.2.2.2.2.2.2.2.1
theorem sf_k9 {h : jH} (H : ShF h) : j_k h 9 = 0 := H.2.2.2.2.2.2.2.2.2.1.2.2.2.2.2.2.2.2.2
theorem sf_n9 {h : jH} (H : ShF h) : j_n h 9 = 4 := H.2.2.2.2.2.2.2.2.2.2.1.1
theorem sf_k10 {h : jH} (H : ShF h) : j_k h 10 = 0 := H.2.2.2.2.2.2.2.2.2.2.1.2.1
theorem sf_n10 {h : jH} (H : ShF h) : j_n h 10 = 4 := H.2.2.2.2.2.2.2.2.2.2.1.2.2.1
theorem sf_k11 {h : jH} (H : ShF h) : j_k h 11 = 0 := H.2.2.2.2.2.2.2.2.2.2.1.2.2.2.1
theorem sf_n11 {h : jH} (H : ShF h) : j_n h 11 = 4 := H.2.2.2.2.2.2.2.2.2.2.1.2.2.2.2.1
theorem sf_k12 {h : jH} (H : ShF h) : j_k h 12 = 1 := H.2.2.2.2.2.2.2.2.2.2.1.2.2.2.2.2.1
theorem sf_n12 {h : jH} (H : ShF h) : j_n h 12 = 4 := H.2.2.2.2.2.2.2.2.2.2.1.2.2.2.2.2.2.1
theorem sf_k13 {h : jH} (H : ShF h) : j_k h 13 = 0 := H.2.2.2.2.2.2.2.2.2.2.1.2.2.2.2.2.2.2.1
theorem sf_n13 {h : jH} (H : ShF h) : j_n h 13 = 6 := H.2.2.2.2.2.2.2.2.2.2.1.2.2.2.2.2.2.2.2.1
theorem sf_k14 {h : jH} (H : ShF h) : j_k h 14 = 0 := H.2.2.2.2.2.2.2.2.2.2.1.2.2.2.2.2.2.2.2.2
theorem sf_n14 {h : jH} (H : ShF h) : j_n h 14 = 6 := H.2.2.2.2.2.2.2.2.2.2.2.1.1
theorem sf_k15 {h : jH} (H : ShF h) : j_k h 15 = 0 := H.2.2.2.2.2.2.2.2.2.2.2.1.2.1
theorem sf_n15 {h : jH} (H : ShF h) : j_n h 15 = 3 := H.2.2.2.2.2.2.2.2.2.2.2.1.2.2.1
theorem sf_k16 {h : jH} (H : ShF h) : j_k h 16 = 4 := H.2.2.2.2.2.2.2.2.2.2.2.1.2.2.2.1
theorem sf_n16 {h : jH} (H : ShF h) : j_n h 16 = 6 := H.2.2.2.2.2.2.2.2.2.2.2.1.2.2.2.2.1
theorem sf_k18 {h : jH} (H : ShF h) : j_k h 18 = 0 := H.2.2.2.2.2.2.2.2.2.2.2.1.2.2.2.2.2.1
theorem sf_n18 {h : jH} (H : ShF h) : j_n h 18 = 25 := H.2.2.2.2.2.2.2.2.2.2.2.1.2.2.2.2.2.2.1
theorem sf_k19 {h : jH} (H : ShF h) : j_k h 19 = 0 := H.2.2.2.2.2.2.2.2.2.2.2.1.2.2.2.2.2.2.2.1
theorem sf_n19 {h : jH} (H : ShF h) : j_n h 19 = 25 := H.2.2.2.2.2.2.2.2.2.2.2.1.2.2.2.2.2.2.2.2.1
theorem sf_k20 {h : jH} (H : ShF h) : j_k h 20 = 0 := H.2.2.2.2.2.2.2.2.2.2.2.1.2.2.2.2.2.2.2.2.2
theorem sf_n20 {h : jH} (H : ShF h) : j_n h 20 = 4 := H.2.2.2.2.2.2.2.2.2.2.2.2.1.1
theorem sf_k21 {h : jH} (H : ShF h) : j_k h 21 = 0 := H.2.2.2.2.2.2.2.2.2.2.2.2.1.2.1
theorem sf_n21 {h : jH} (H : ShF h) : j_n h 21 = 4 := H.2.2.2.2.2.2.2.2.2.2.2.2.1.2.2.1
theorem sf_k22 {h : jH} (H : ShF h) : j_k h 22 = 0 := H.2.2.2.2.2.2.2.2.2.2.2.2.1.2.2.2.1
theorem sf_n22 {h : jH} (H : ShF h) : j_n h 22 = 4 := H.2.2.2.2.2.2.2.2.2.2.2.2.1.2.2.2.2.1
theorem sf_k23 {h : jH} (H : ShF h) : j_k h 23 = 0 := H.2.2.2.2.2.2.2.2.2.2.2.2.1.2.2.2.2.2.1
theorem sf_n23 {h : jH} (H : ShF h) : j_n h 23 = 4 := H.2.2.2.2.2.2.2.2.2.2.2.2.1.2.2.2.2.2.2.1
theorem sf_k24 {h : jH} (H : ShF h) : j_k h 24 = 1 := H.2.2.2.2.2.2.2.2.2.2.2.2.1.2.2.2.2.2.2.2.1
theorem sf_n24 {h : jH} (H : ShF h) : j_n h 24 = 4 := H.2.2.2.2.2.2.2.2.2.2.2.2.1.2.2.2.2.2.2.2.2.1
theorem sf_k25 {h : jH} (H : ShF h) : j_k h 25 = 0 := H.2.2.2.2.2.2.2.2.2.2.2.2.1.2.2.2.2.2.2.2.2.2
theorem sf_n25 {h : jH} (H : ShF h) : j_n h 25 = 6 := H.2.2.2.2.2.2.2.2.2.2.2.2.2.1.1
theorem sf_k26 {h : jH} (H : ShF h) : j_k h 26 = 0 := H.2.2.2.2.2.2.2.2.2.2.2.2.2.1.2.1
theorem sf_n26 {h : jH} (H : ShF h) : j_n h 26 = 6 := H.2.2.2.2.2.2.2.2.2.2.2.2.2.1.2.2.1
theorem sf_k27 {h : jH} (H : ShF h) : j_k h 27 = 0 := H.2.2.2.2.2.2.2.2.2.2.2.2.2.1.2.2.2.1
theorem sf_n27 {h : jH} (H : ShF h) : j_n h 27 = 3 := H.2.2.2.2.2.2.2.2.2.2.2.2.2.1.2.2.2.2.1
theorem sf_k28 {h : jH} (H : ShF h) : j_k h 28 = 4 := H.2.2.2.2.2.2.2.2.2.2.2.2.2.1.2.2.2.2.2.1
theorem sf_n28 {h : jH} (H : ShF h) : j_n h 28 = 6 := H.2.2.2.2.2.2.2.2.2.2.2.2.2.1.2.2.2.2.2.2.1
theorem sf_k30 {h : jH} (H : ShF h) : j_k h 30 = 0 := H.2.2.2.2.2.2.2.2.2.2.2.2.2.1.2.2.2.2.2.2.2.1
theorem sf_n30 {h : jH} (H : ShF h) : j_n h 30 = 25 := H.2.2.2.2.2.2.2.2.2.2.2.2.2.1.2.2.2.2.2.2.2.2.1
theorem sf_k31 {h : jH} (H : ShF h) : j_k h 31 = 0 := H.2.2.2.2.2.2.2.2.2.2.2.2.2.1.2.2.2.2.2.2.2.2.2
theorem sf_n31 {h : jH} (H : ShF h) : j_n h 31 = 25 := H.2.2.2.2.2.2.2.2.2.2.2.2.2.2.1.1
theorem sf_k32 {h : jH} (H : ShF h) : j_k h 32 = 0 := H.2.2.2.2.2.2.2.2.2.2.2.2.2.2.1.2.1
theorem sf_n32 {h : jH} (H : ShF h) : j_n h 32 = 4 := H.2.2.2.2.2.2.2.2.2.2.2.2.2.2.1.2.2.1
theorem sf_k33 {h : jH} (H : ShF h) : j_k h 33 = 0 := H.2.2.2.2.2.2.2.2.2.2.2.2.2.2.1.2.2.2.1
theorem sf_n33 {h : jH} (H : ShF h) : j_n h 33 = 4 := H.2.2.2.2.2.2.2.2.2.2.2.2.2.2.1.2.2.2.2.1
theorem sf_k34 {h : jH} (H : ShF h) : j_k h 34 = 0 := H.2.2.2.2.2.2.2.2.2.2.2.2.2.2.1.2.2.2.2.2.1
theorem sf_n34 {h : jH} (H : ShF h) : j_n h 34 = 4 := H.2.2.2.2.2.2.2.2.2.2.2.2.2.2.1.2.2.2.2.2.2.1
theorem sf_k35 {h : jH} (H : ShF h) : j_k h 35 = 0 := H.2.2.2.2.2.2.2.2.2.2.2.2.2.2.1.2.2.2.2.2.2.2.1
theorem sf_n35 {h : jH} (H : ShF h) : j_n h 35 = 4 := H.2.2.2.2.2.2.2.2.2.2.2.2.2.2.1.2.2.2.2.2.2.2.2.1
theorem sf_k36 {h : jH} (H : ShF h) : j_k h 36 = 1 := H.2.2.2.2.2.2.2.2.2.2.2.2.2.2.1.2.2.2.2.2.2.2.2.2
theorem sf_n36 {h : jH} (H : ShF h) : j_n h 36 = 4 := H.2.2.2.2.2.2.2.2.2.2.2.2.2.2.2.1.1
theorem sf_k37 {h : jH} (H : ShF h) : j_k h 37 = 0 := H.2.2.2.2.2.2.2.2.2.2.2.2.2.2.2.1.2.1
theorem sf_n37 {h : jH} (H : ShF h) : j_n h 37 = 6 := H.2.2.2.2.2.2.2.2.2.2.2.2.2.2.2.1.2.2.1
theorem sf_k38 {h : jH} (H : ShF h) : j_k h 38 = 0 := H.2.2.2.2.2.2.2.2.2.2.2.2.2.2.2.1.2.2.2.1
theorem sf_n38 {h : jH} (H : ShF h) : j_n h 38 = 6 := H.2.2.2.2.2.2.2.2.2.2.2.2.2.2.2.1.2.2.2.2.1
theorem sf_k39 {h : jH} (H : ShF h) : j_k h 39 = 0 := H.2.2.2.2.2.2.2.2.2.2.2.2.2.2.2.1.2.2.2.2.2.1
theorem sf_n39 {h : jH} (H : ShF h) : j_n h 39 = 3 := H.2.2.2.2.2.2.2.2.2.2.2.2.2.2.2.1.2.2.2.2.2.2.1
theorem sf_k40 {h : jH} (H : ShF h) : j_k h 40 = 4 := H.2.2.2.2.2.2.2.2.2.2.2.2.2.2.2.1.2.2.2.2.2.2.2.1
theorem sf_n40 {h : jH} (H : ShF h) : j_n h 40 = 6 := H.2.2.2.2.2.2.2.2.2.2.2.2.2.2.2.1.2.2.2.2.2.2.2.2.1
theorem sf_k43 {h : jH} (H : ShF h) : j_k h 43 = 0 := H.2.2.2.2.2.2.2.2.2.2.2.2.2.2.2.1.2.2.2.2.2.2.2.2.2
theorem sf_n43 {h : jH} (H : ShF h) : j_n h 43 = 16 := H.2.2.2.2.2.2.2.2.2.2.2.2.2.2.2.2.1.1
theorem sf_k44 {h : jH} (H : ShF h) : j_k h 44 = 0 := H.2.2.2.2.2.2.2.2.2.2.2.2.2.2.2.2.1.2.1
theorem sf_n44 {h : jH} (H : ShF h) : j_n h 44 = 16 := H.2.2.2.2.2.2.2.2.2.2.2.2.2.2.2.2.1.2.2.1
theorem sf_k45 {h : jH} (H : ShF h) : j_k h 45 = 0 := H.2.2.2.2.2.2.2.2.2.2.2.2.2.2.2.2.1.2.2.2.1
theorem sf_n45 {h : jH} (H : ShF h) : j_n h 45 = 16 := H.2.2.2.2.2.2.2.2.2.2.2.2.2.2.2.2.1.2.2.2.2.1
theorem sf_k46 {h : jH} (H : ShF h) : j_k h 46 = 0 := H.2.2.2.2.2.2.2.2.2.2.2.2.2.2.2.2.1.2.2.2.2.2.1
theorem sf_n46 {h : jH} (H : ShF h) : j_n h 46 = 16 := H.2.2.2.2.2.2.2.2.2.2.2.2.2.2.2.2.1.2.2.2.2.2.2.1
theorem sf_k47 {h : jH} (H : ShF h) : j_k h 47 = 1 := H.2.2.2.2.2.2.2.2.2.2.2.2.2.2.2.2.1.2.2.2.2.2.2.2.1
theorem sf_n47 {h : jH} (H : ShF h) : j_n h 47 = 16 := H.2.2.2.2.2.2.2.2.2.2.2.2.2.2.2.2.1.2.2.2.2.2.2.2.2.1
theorem sf_k48 {h : jH} (H : ShF h) : j_k h 48 = 0 := H.2.2.2.2.2.2.2.2.2.2.2.2.2.2.2.2.1.2.2.2.2.2.2.2.2.2
theorem sf_n48 {h : jH} (H : ShF h) : j_n h 48 = 16 := H.2.2.2.2.2.2.2.2.2.2.2.2.2.2.2.2.2.1.1
theorem sf_k49 {h : jH} (H : ShF h) : j_k h 49 = 0 := H.2.2.2.2.2.2.2.2.2.2.2.2.2.2.2.2.2.1.2.1
theorem sf_n49 {h : jH} (H : ShF h) : j_n h 49 = 16 := H.2.2.2.2.2.2.2.2.2.2.2.2.2.2.2.2.2.1.2.2.1
theorem sf_k50 {h : jH} (H : ShF h) : j_k h 50 = 1 := H.2.2.2.2.2.2.2.2.2.2.2.2.2.2.2.2.2.1.2.2.2.1
theorem sf_n50 {h : jH} (H : ShF h) : j_n h 50 = 16 := H.2.2.2.2.2.2.2.2.2.2.2.2.2.2.2.2.2.1.2.2.2.2.1
theorem sf_k52 {h : jH} (H : ShF h) : j_k h 52 = 0 := H.2.2.2.2.2.2.2.2.2.2.2.2.2.2.2.2.2.1.2.2.2.2.2.1
theorem sf_n52 {h : jH} (H : ShF h) : j_n h 52 = 16 := H.2.2.2.2.2.2.2.2.2.2.2.2.2.2.2.2.2.1.2.2.2.2.2.2.1
theorem sf_k53 {h : jH} (H : ShF h) : j_k h 53 = 0 := H.2.2.2.2.2.2.2.2.2.2.2.2.2.2.2.2.2.1.2.2.2.2.2.2.2.1
theorem sf_n53 {h : jH} (H : ShF h) : j_n h 53 = 16 := H.2.2.2.2.2.2.2.2.2.2.2.2.2.2.2.2.2.1.2.2.2.2.2.2.2.2.1
theorem sf_k54 {h : jH} (H : ShF h) : j_k h 54 = 0 := H.2.2.2.2.2.2.2.2.2.2.2.2.2.2.2.2.2.1.2.2.2.2.2.2.2.2.2
theorem sf_n54 {h : jH} (H : ShF h) : j_n h 54 = 16 := H.2.2.2.2.2.2.2.2.2.2.2.2.2.2.2.2.2.2.1.1
theorem sf_k55 {h : jH} (H : ShF h) : j_k h 55 = 0 := H.2.2.2.2.2.2.2.2.2.2.2.2.2.2.2.2.2.2.1.2.1
theorem sf_n55 {h : jH} (H : ShF h) : j_n h 55 = 16 := H.2.2.2.2.2.2.2.2.2.2.2.2.2.2.2.2.2.2.1.2.2.1
theorem sf_k56 {h : jH} (H : ShF h) : j_k h 56 = 1 := H.2.2.2.2.2.2.2.2.2.2.2.2.2.2.2.2.2.2.1.2.2.2.1
theorem sf_n56 {h : jH} (H : ShF h) : j_n h 56 = 16 := H.2.2.2.2.2.2.2.2.2.2.2.2.2.2.2.2.2.2.1.2.2.2.2.1
theorem sf_k57 {h : jH} (H : ShF h) : j_k h 57 = 0 := H.2.2.2.2.2.2.2.2.2.2.2.2.2.2.2.2.2.2.1.2.2.2.2.2.1
theorem sf_n57 {h : jH} (H : ShF h) : j_n h 57 = 16 := H.2.2.2.2.2.2.2.2.2.2.2.2.2.2.2.2.2.2.1.2.2.2.2.2.2.1
theorem sf_k58 {h : jH} (H : ShF h) : j_k h 58 = 0 := H.2.2.2.2.2.2.2.2.2.2.2.2.2.2.2.2.2.2.1.2.2.2.2.2.2.2.1
theorem sf_n58 {h : jH} (H : ShF h) : j_n h 58 = 16 := H.2.2.2.2.2.2.2.2.2.2.2.2.2.2.2.2.2.2.1.2.2.2.2.2.2.2.2.1
theorem sf_k59 {h : jH} (H : ShF h) : j_k h 59 = 1 := H.2.2.2.2.2.2.2.2.2.2.2.2.2.2.2.2.2.2.1.2.2.2.2.2.2.2.2.2
theorem sf_n59 {h : jH} (H : ShF h) : j_n h 59 = 16 := H.2.2.2.2.2.2.2.2.2.2.2.2.2.2.2.2.2.2.2.1.1
theorem sf_k61 {h : jH} (H : ShF h) : j_k h 61 = 0 := H.2.2.2.2.2.2.2.2.2.2.2.2.2.2.2.2.2.2.2.1.2.1
theorem sf_n61 {h : jH} (H : ShF h) : j_n h 61 = 400 := H.2.2.2.2.2.2.2.2.2.2.2.2.2.2.2.2.2.2.2.1.2.2.1
theorem sf_k62 {h : jH} (H : ShF h) : j_k h 62 = 15 := H.2.2.2.2.2.2.2.2.2.2.2.2.2.2.2.2.2.2.2.1.2.2.2.1
theorem sf_R62_0 {h : jH} (H : ShF h) : j_R h 62 0 = some 63 := H.2.2.2.2.2.2.2.2.2.2.2.2.2.2.2.2.2.2.2.1.2.2.2.2.1
theorem sf_v62_0 {h : jH} (H : ShF h) {h2 : jH} (e : sR h2 h) (f : Nat → Option jO) : j_rv (va_rf (j_R h2 62 0)) f = f 63 := rv_of (sf_R62_0 H) e f
theorem sf_R62_1 {h : jH} (H : ShF h) : j_R h 62 1 = some 64 := H.2.2.2.2.2.2.2.2.2.2.2.2.2.2.2.2.2.2.2.1.2.2.2.2.2.1
theorem sf_v62_1 {h : jH} (H : ShF h) {h2 : jH} (e : sR h2 h) (f : Nat → Option jO) : j_rv (va_rf (j_R h2 62 1)) f = f 64 := rv_of (sf_R62_1 H) e f
theorem sf_R62_2 {h : jH} (H : ShF h) : j_R h 62 2 = some 65 := H.2.2.2.2.2.2.2.2.2.2.2.2.2.2.2.2.2.2.2.1.2.2.2.2.2.2.1
theorem sf_v62_2 {h : jH} (H : ShF h) {h2 : jH} (e : sR h2 h) (f : Nat → Option jO) : j_rv (va_rf (j_R h2 62 2)) f = f 65 := rv_of (sf_R62_2 H) e f
theorem sf_R62_3 {h : jH} (H : ShF h) : j_R h 62 3 = some 66 := H.2.2.2.2.2.2.2.2.2.2.2.2.2.2.2.2.2.2.2.1.2.2.2.2.2.2.2.1
theorem sf_v62_3 {h : jH} (H : ShF h) {h2 : jH} (e : sR h2 h) (f : Nat → Option jO) : j_rv (va_rf (j_R h2 62 3)) f = f 66 := rv_of (sf_R62_3 H) e f
theorem sf_R62_4 {h : jH} (H : ShF h) : j_R h 62 4 = some 67 := H.2.2.2.2.2.2.2.2.2.2.2.2.2.2.2.2.2.2.2.1.2.2.2.2.2.2.2.2.1
theorem sf_v62_4 {h : jH} (H : ShF h) {h2 : jH} (e : sR h2 h) (f : Nat → Option jO) : j_rv (va_rf (j_R h2 62 4)) f = f 67 := rv_of (sf_R62_4 H) e f
theorem sf_R62_5 {h : jH} (H : ShF h) : j_R h 62 5 = some 68 := H.2.2.2.2.2.2.2.2.2.2.2.2.2.2.2.2.2.2.2.1.2.2.2.2.2.2.2.2.2
theorem sf_v62_5 {h : jH} (H : ShF h) {h2 : jH} (e : sR h2 h) (f : Nat → Option jO) : j_rv (va_rf (j_R h2 62 5)) f = f 68 := rv_of (sf_R62_5 H) e f
theorem sf_k69 {h : jH} (H : ShF h) : j_k h 69 = 0 := H.2.2.2.2.2.2.2.2.2.2.2.2.2.2.2.2.2.2.2.2.1.1
theorem sf_n69 {h : jH} (H : ShF h) : j_n h 69 = 401 := H.2.2.2.2.2.2.2.2.2.2.2.2.2.2.2.2.2.2.2.2.1.2.1
theorem sf_k70 {h : jH} (H : ShF h) : j_k h 70 = 0 := H.2.2.2.2.2.2.2.2.2.2.2.2.2.2.2.2.2.2.2.2.1.2.2.1
theorem sf_n70 {h : jH} (H : ShF h) : j_n h 70 = 401 := H.2.2.2.2.2.2.2.2.2.2.2.2.2.2.2.2.2.2.2.2.1.2.2.2.1
theorem sf_k71 {h : jH} (H : ShF h) : j_k h 71 = 0 := H.2.2.2.2.2.2.2.2.2.2.2.2.2.2.2.2.2.2.2.2.1.2.2.2.2.1
theorem sf_n71 {h : jH} (H : ShF h) : j_n h 71 = 401 := H.2.2.2.2.2.2.2.2.2.2.2.2.2.2.2.2.2.2.2.2.1.2.2.2.2.2.1
theorem sf_k73 {h : jH} (H : ShF h) : j_k h 73 = 1 := H.2.2.2.2.2.2.2.2.2.2.2.2.2.2.2.2.2.2.2.2.1.2.2.2.2.2.2.1
theorem sf_n73 {h : jH} (H : ShF h) : j_n h 73 = 8 := H.2.2.2.2.2.2.2.2.2.2.2.2.2.2.2.2.2.2.2.2.1.2.2.2.2.2.2.2.1
theorem sf_k74 {h : jH} (H : ShF h) : j_k h 74 = 1 := H.2.2.2.2.2.2.2.2.2.2.2.2.2.2.2.2.2.2.2.2.1.2.2.2.2.2.2.2.2.1
theorem sf_n74 {h : jH} (H : ShF h) : j_n h 74 = 48 := H.2.2.2.2.2.2.2.2.2.2.2.2.2.2.2.2.2.2.2.2.1.2.2.2.2.2.2.2.2.2
theorem sf_k76 {h : jH} (H : ShF h) : j_k h 76 = 0 := H.2.2.2.2.2.2.2.2.2.2.2.2.2.2.2.2.2.2.2.2.2.1.1
theorem sf_n76 {h : jH} (H : ShF h) : j_n h 76 = 100 := H.2.2.2.2.2.2.2.2.2.2.2.2.2.2.2.2.2.2.2.2.2.1.2.1
theorem sf_k77 {h : jH} (H : ShF h) : j_k h 77 = 0 := H.2.2.2.2.2.2.2.2.2.2.2.2.2.2.2.2.2.2.2.2.2.1.2.2.1
theorem sf_n77 {h : jH} (H : ShF h) : j_n h 77 = 25 := H.2.2.2.2.2.2.2.2.2.2.2.2.2.2.2.2.2.2.2.2.2.1.2.2.2.1
theorem sf_k78 {h : jH} (H : ShF h) : j_k h 78 = 0 := H.2.2.2.2.2.2.2.2.2.2.2.2.2.2.2.2.2.2.2.2.2.1.2.2.2.2.1
theorem sf_n78 {h : jH} (H : ShF h) : j_n h 78 = 25 := H.2.2.2.2.2.2.2.2.2.2.2.2.2.2.2.2.2.2.2.2.2.1.2.2.2.2.2.1
theorem sf_k79 {h : jH} (H : ShF h) : j_k h 79 = 0 := H.2.2.2.2.2.2.2.2.2.2.2.2.2.2.2.2.2.2.2.2.2.1.2.2.2.2.2.2.1
theorem sf_n79 {h : jH} (H : ShF h) : j_n h 79 = 25 := H.2.2.2.2.2.2.2.2.2.2.2.2.2.2.2.2.2.2.2.2.2.1.2.2.2.2.2.2.2.1
theorem sf_k80 {h : jH} (H : ShF h) : j_k h 80 = 0 := H.2.2.2.2.2.2.2.2.2.2.2.2.2.2.2.2.2.2.2.2.2.1.2.2.2.2.2.2.2.2.1
theorem sf_n80 {h : jH} (H : ShF h) : j_n h 80 = 1600 := H.2.2.2.2.2.2.2.2.2.2.2.2.2.2.2.2.2.2.2.2.2.1.2.2.2.2.2.2.2.2.2
theorem sf_k63 {h : jH} (H : ShF h) : j_k h 63 = 0 := H.2.2.2.2.2.2.2.2.2.2.2.2.2.2.2.2.2.2.2.2.2.2.1.1
theorem sf_n63 {h : jH} (H : ShF h) : j_n h 63 = 480 := H.2.2.2.2.2.2.2.2.2.2.2.2.2.2.2.2.2.2.2.2.2.2.1.2.1
theorem sf_k64 {h : jH} (H : ShF h) : j_k h 64 = 0 := H.2.2.2.2.2.2.2.2.2.2.2.2.2.2.2.2.2.2.2.2.2.2.1.2.2.1
theorem sf_n64 {h : jH} (H : ShF h) : j_n h 64 = 12 := H.2.2.2.2.2.2.2.2.2.2.2.2.2.2.2.2.2.2.2.2.2.2.1.2.2.2.1
theorem sf_k65 {h : jH} (H : ShF h) : j_k h 65 = 0 := H.2.2.2.2.2.2.2.2.2.2.2.2.2.2.2.2.2.2.2.2.2.2.1.2.2.2.2.1
theorem sf_n65 {h : jH} (H : ShF h) : j_n h 65 = 12 := H.2.2.2.2.2.2.2.2.2.2.2.2.2.2.2.2.2.2.2.2.2.2.1.2.2.2.2.2.1
theorem sf_k66 {h : jH} (H : ShF h) : j_k h 66 = 0 := H.2.2.2.2.2.2.2.2.2.2.2.2.2.2.2.2.2.2.2.2.2.2.1.2.2.2.2.2.2.1
theorem sf_n66 {h : jH} (H : ShF h) : j_n h 66 = 12 := H.2.2.2.2.2.2.2.2.2.2.2.2.2.2.2.2.2.2.2.2.2.2.1.2.2.2.2.2.2.2.1
theorem sf_k67 {h : jH} (H : ShF h) : j_k h 67 = 0 := H.2.2.2.2.2.2.2.2.2.2.2.2.2.2.2.2.2.2.2.2.2.2.1.2.2.2.2.2.2.2.2.1
theorem sf_n67 {h : jH} (H : ShF h) : j_n h 67 = 12 := H.2.2.2.2.2.2.2.2.2.2.2.2.2.2.2.2.2.2.2.2.2.2.1.2.2.2.2.2.2.2.2.2
theorem sf_k68 {h : jH} (H : ShF h) : j_k h 68 = 0 := H.2.2.2.2.2.2.2.2.2.2.2.2.2.2.2.2.2.2.2.2.2.2.2.1
theorem sf_n68 {h : jH} (H : ShF h) : j_n h 68 = 12 := H.2.2.2.2.2.2.2.2.2.2.2.2.2.2.2.2.2.2.2.2.2.2.2.2
