def r_M_new_1052 (g : Nat → Nat → jH → Option jO) : jL → List Value → jH → Option jO := fun L S h => match L, S with
  | [some (.ref v0)], [.ref s0] => g v0 s0 h
  | _, _ => none
def r_M_new_1015 (g : Nat → Nat → Nat → jH → Option jO) : jL → List Value → jH → Option jO := fun L S h => match L, S with
  | [some (.ref v0)], [.ref s0, .ref s1] => g v0 s0 s1 h
  | _, _ => none
def r_M_new_975 (g : Nat → Nat → Nat → jH → Option jO) : jL → List Value → jH → Option jO := fun L S h => match L, S with
  | [some (.ref v0)], [.ref s0, .ref s1] => g v0 s0 s1 h
  | _, _ => none
def r_M_new_933 (g : Nat → Nat → Nat → jH → Option jO) : jL → List Value → jH → Option jO := fun L S h => match L, S with
  | [some (.ref v0)], [.ref s0, .ref s1] => g v0 s0 s1 h
  | _, _ => none
def r_M_new_891 (g : Nat → Int32 → Nat → jH → Option jO) : jL → List Value → jH → Option jO := fun L S h => match L, S with
  | [some (.ref v0)], [.int s0, .ref s1] => g v0 s0 s1 h
  | _, _ => none
def r_M_new_855 (g : Nat → Int32 → Int32 → Nat → Nat → Nat → jH → Option jO) : jL → List Value → jH → Option jO := fun L S h => match L, S with
  | [some (.ref v0)], [.int s0, .int s1, .ref s2, .ref s3, .ref s4] => g v0 s0 s1 s2 s3 s4 h
  | _, _ => none
def r_M_new_820 (g : Nat → Int32 → Int32 → Nat → Nat → Nat → jH → Option jO) : jL → List Value → jH → Option jO := fun L S h => match L, S with
  | [some (.ref v0)], [.int s0, .int s1, .ref s2, .ref s3, .ref s4] => g v0 s0 s1 s2 s3 s4 h
  | _, _ => none
def r_M_new_789 (g : Nat → Int32 → Int32 → Nat → Nat → Nat → jH → Option jO) : jL → List Value → jH → Option jO := fun L S h => match L, S with
  | [some (.ref v0)], [.int s0, .int s1, .ref s2, .ref s3, .ref s4] => g v0 s0 s1 s2 s3 s4 h
  | _, _ => none
def r_M_new_759 (g : Nat → Int32 → Int32 → Nat → Nat → Nat → jH → Option jO) : jL → List Value → jH → Option jO := fun L S h => match L, S with
  | [some (.ref v0)], [.int s0, .int s1, .ref s2, .ref s3, .ref s4] => g v0 s0 s1 s2 s3 s4 h
  | _, _ => none
def r_M_new_729 (g : Nat → Int32 → Int32 → Nat → Nat → Nat → jH → Option jO) : jL → List Value → jH → Option jO := fun L S h => match L, S with
  | [some (.ref v0)], [.int s0, .int s1, .ref s2, .ref s3, .ref s4] => g v0 s0 s1 s2 s3 s4 h
  | _, _ => none
def r_M_new_699 (g : Nat → Int32 → Int32 → Nat → Nat → Nat → jH → Option jO) : jL → List Value → jH → Option jO := fun L S h => match L, S with
  | [some (.ref v0)], [.int s0, .int s1, .ref s2, .ref s3, .ref s4] => g v0 s0 s1 s2 s3 s4 h
  | _, _ => none
def r_M_new_669 (g : Nat → Int32 → Int32 → Nat → Nat → Nat → jH → Option jO) : jL → List Value → jH → Option jO := fun L S h => match L, S with
  | [some (.ref v0)], [.int s0, .int s1, .ref s2, .ref s3, .ref s4] => g v0 s0 s1 s2 s3 s4 h
  | _, _ => none
def r_M_new_639 (g : Nat → Int32 → Int32 → Nat → Nat → Nat → jH → Option jO) : jL → List Value → jH → Option jO := fun L S h => match L, S with
  | [some (.ref v0)], [.int s0, .int s1, .ref s2, .ref s3, .ref s4] => g v0 s0 s1 s2 s3 s4 h
  | _, _ => none
def r_M_new_609 (g : Nat → Int32 → Int32 → Nat → Nat → Nat → jH → Option jO) : jL → List Value → jH → Option jO := fun L S h => match L, S with
  | [some (.ref v0)], [.int s0, .int s1, .ref s2, .ref s3, .ref s4] => g v0 s0 s1 s2 s3 s4 h
  | _, _ => none
def r_M_new_579 (g : Nat → Int32 → Int32 → Nat → Nat → Nat → jH → Option jO) : jL → List Value → jH → Option jO := fun L S h => match L, S with
  | [some (.ref v0)], [.int s0, .int s1, .ref s2, .ref s3, .ref s4] => g v0 s0 s1 s2 s3 s4 h
  | _, _ => none
def r_M_new_549 (g : Nat → Int32 → Int32 → Nat → Nat → Nat → jH → Option jO) : jL → List Value → jH → Option jO := fun L S h => match L, S with
  | [some (.ref v0)], [.int s0, .int s1, .ref s2, .ref s3, .ref s4] => g v0 s0 s1 s2 s3 s4 h
  | _, _ => none
def r_M_new_519 (g : Nat → Int32 → Int32 → Nat → Nat → Nat → jH → Option jO) : jL → List Value → jH → Option jO := fun L S h => match L, S with
  | [some (.ref v0)], [.int s0, .int s1, .ref s2, .ref s3, .ref s4] => g v0 s0 s1 s2 s3 s4 h
  | _, _ => none
def r_M_new_489 (g : Nat → Int32 → Int32 → Nat → Nat → Nat → jH → Option jO) : jL → List Value → jH → Option jO := fun L S h => match L, S with
  | [some (.ref v0)], [.int s0, .int s1, .ref s2, .ref s3, .ref s4] => g v0 s0 s1 s2 s3 s4 h
  | _, _ => none
def r_M_new_459 (g : Nat → Int32 → Int32 → Nat → Nat → Nat → jH → Option jO) : jL → List Value → jH → Option jO := fun L S h => match L, S with
  | [some (.ref v0)], [.int s0, .int s1, .ref s2, .ref s3, .ref s4] => g v0 s0 s1 s2 s3 s4 h
  | _, _ => none
def r_M_new_429 (g : Nat → Int32 → Int32 → Nat → Nat → Nat → jH → Option jO) : jL → List Value → jH → Option jO := fun L S h => match L, S with
  | [some (.ref v0)], [.int s0, .int s1, .ref s2, .ref s3, .ref s4] => g v0 s0 s1 s2 s3 s4 h
  | _, _ => none
def r_M_new_399 (g : Nat → Int32 → Int32 → Nat → Nat → Nat → jH → Option jO) : jL → List Value → jH → Option jO := fun L S h => match L, S with
  | [some (.ref v0)], [.int s0, .int s1, .ref s2, .ref s3, .ref s4] => g v0 s0 s1 s2 s3 s4 h
  | _, _ => none
def r_M_new_369 (g : Nat → Int32 → Int32 → Nat → Nat → Nat → jH → Option jO) : jL → List Value → jH → Option jO := fun L S h => match L, S with
  | [some (.ref v0)], [.int s0, .int s1, .ref s2, .ref s3, .ref s4] => g v0 s0 s1 s2 s3 s4 h
  | _, _ => none
def r_M_new_339 (g : Nat → Int32 → Int32 → Nat → Nat → Nat → jH → Option jO) : jL → List Value → jH → Option jO := fun L S h => match L, S with
  | [some (.ref v0)], [.int s0, .int s1, .ref s2, .ref s3, .ref s4] => g v0 s0 s1 s2 s3 s4 h
  | _, _ => none
def r_M_new_309 (g : Nat → Int32 → Int32 → Nat → Nat → Nat → jH → Option jO) : jL → List Value → jH → Option jO := fun L S h => match L, S with
  | [some (.ref v0)], [.int s0, .int s1, .ref s2, .ref s3, .ref s4] => g v0 s0 s1 s2 s3 s4 h
  | _, _ => none
def r_M_new_279 (g : Nat → Int32 → Int32 → Nat → Nat → Nat → jH → Option jO) : jL → List Value → jH → Option jO := fun L S h => match L, S with
  | [some (.ref v0)], [.int s0, .int s1, .ref s2, .ref s3, .ref s4] => g v0 s0 s1 s2 s3 s4 h
  | _, _ => none
def r_M_new_249 (g : Nat → Int32 → Int32 → Nat → Nat → Nat → jH → Option jO) : jL → List Value → jH → Option jO := fun L S h => match L, S with
  | [some (.ref v0)], [.int s0, .int s1, .ref s2, .ref s3, .ref s4] => g v0 s0 s1 s2 s3 s4 h
  | _, _ => none
def r_M_new_219 (g : Nat → Int32 → Int32 → Nat → Nat → Nat → jH → Option jO) : jL → List Value → jH → Option jO := fun L S h => match L, S with
  | [some (.ref v0)], [.int s0, .int s1, .ref s2, .ref s3, .ref s4] => g v0 s0 s1 s2 s3 s4 h
  | _, _ => none
def r_M_new_189 (g : Nat → Int32 → Int32 → Nat → Nat → Nat → jH → Option jO) : jL → List Value → jH → Option jO := fun L S h => match L, S with
  | [some (.ref v0)], [.int s0, .int s1, .ref s2, .ref s3, .ref s4] => g v0 s0 s1 s2 s3 s4 h
  | _, _ => none
def r_M_new_159 (g : Nat → Int32 → Int32 → Nat → Nat → Nat → jH → Option jO) : jL → List Value → jH → Option jO := fun L S h => match L, S with
  | [some (.ref v0)], [.int s0, .int s1, .ref s2, .ref s3, .ref s4] => g v0 s0 s1 s2 s3 s4 h
  | _, _ => none
def r_M_new_129 (g : Nat → Int32 → Int32 → Nat → Nat → Nat → jH → Option jO) : jL → List Value → jH → Option jO := fun L S h => match L, S with
  | [some (.ref v0)], [.int s0, .int s1, .ref s2, .ref s3, .ref s4] => g v0 s0 s1 s2 s3 s4 h
  | _, _ => none
def r_M_new_99 (g : Nat → Int32 → Int32 → Nat → Nat → Nat → jH → Option jO) : jL → List Value → jH → Option jO := fun L S h => match L, S with
  | [some (.ref v0)], [.int s0, .int s1, .ref s2, .ref s3, .ref s4] => g v0 s0 s1 s2 s3 s4 h
  | _, _ => none
def r_M_new_71 (g : Nat → Int32 → Int32 → Nat → Nat → Nat → jH → Option jO) : jL → List Value → jH → Option jO := fun L S h => match L, S with
  | [some (.ref v0)], [.int s0, .int s1, .ref s2, .ref s3, .ref s4] => g v0 s0 s1 s2 s3 s4 h
  | _, _ => none
def r_M_new_41 (g : Nat → Int32 → Nat → jH → Option jO) : jL → List Value → jH → Option jO := fun L S h => match L, S with
  | [some (.ref v0)], [.int s0, .ref s1] => g v0 s0 s1 h
  | _, _ => none
def c_M_new (F : Nat × Nat) : jc1 := fun args h k => match args with
  | [w0] => j_rv w0 fun a0 => jbV (m_M_new F a0 h) fun h => k none h
  | _ => none
set_option maxRecDepth 100000 in
theorem e_M_new_1052 (F : Nat × Nat) (v0 : Nat) (s0 : Nat) (h : jH) : m_M_new_1052 F v0 s0 h = jst (j_C []) 4 (cd_M_new 1052) [some (.ref v0)] [.ref s0] h (jrun (j_C []) 4 cd_M_new (j_T []) 675) := rfl
set_option maxRecDepth 100000 in
theorem e_M_new_1015 (F : Nat × Nat) (v0 : Nat) (s0 : Nat) (s1 : Nat) (h : jH) : m_M_new_1015 F v0 s0 s1 h = jst (j_C []) 4 (cd_M_new 1015) [some (.ref v0)] [.ref s0, .ref s1] h (jrun (j_C []) 4 cd_M_new (j_T [(1052, r_M_new_1052 (m_M_new_1052 F))]) 675) := rfl
set_option maxRecDepth 100000 in
theorem e_M_new_975 (F : Nat × Nat) (v0 : Nat) (s0 : Nat) (s1 : Nat) (h : jH) : m_M_new_975 F v0 s0 s1 h = jst (j_C []) 4 (cd_M_new 975) [some (.ref v0)] [.ref s0, .ref s1] h (jrun (j_C []) 4 cd_M_new (j_T [(1015, r_M_new_1015 (m_M_new_1015 F))]) 675) := rfl
set_option maxRecDepth 100000 in
theorem e_M_new_933 (F : Nat × Nat) (v0 : Nat) (s0 : Nat) (s1 : Nat) (h : jH) : m_M_new_933 F v0 s0 s1 h = jst (j_C []) 4 (cd_M_new 933) [some (.ref v0)] [.ref s0, .ref s1] h (jrun (j_C []) 4 cd_M_new (j_T [(975, r_M_new_975 (m_M_new_975 F))]) 675) := rfl
set_option maxRecDepth 100000 in
theorem e_M_new_891 (F : Nat × Nat) (v0 : Nat) (s0 : Int32) (s1 : Nat) (h : jH) : m_M_new_891 F v0 s0 s1 h = jst (j_C []) 4 (cd_M_new 891) [some (.ref v0)] [.int s0, .ref s1] h (jrun (j_C []) 4 cd_M_new (j_T [(933, r_M_new_933 (m_M_new_933 F))]) 675) := rfl
set_option maxRecDepth 100000 in
theorem e_M_new_855 (F : Nat × Nat) (v0 : Nat) (s0 : Int32) (s1 : Int32) (s2 : Nat) (s3 : Nat) (s4 : Nat) (h : jH) : m_M_new_855 F v0 s0 s1 s2 s3 s4 h = jst (j_C []) 4 (cd_M_new 855) [some (.ref v0)] [.int s0, .int s1, .ref s2, .ref s3, .ref s4] h (jrun (j_C []) 4 cd_M_new (j_T [(891, r_M_new_891 (m_M_new_891 F))]) 675) := rfl
set_option maxRecDepth 100000 in
theorem e_M_new_820 (F : Nat × Nat) (v0 : Nat) (s0 : Int32) (s1 : Int32) (s2 : Nat) (s3 : Nat) (s4 : Nat) (h : jH) : m_M_new_820 F v0 s0 s1 s2 s3 s4 h = jst (j_C []) 4 (cd_M_new 820) [some (.ref v0)] [.int s0, .int s1, .ref s2, .ref s3, .ref s4] h (jrun (j_C []) 4 cd_M_new (j_T [(855, r_M_new_855 (m_M_new_855 F))]) 675) := rfl
set_option maxRecDepth 100000 in
theorem e_M_new_789 (F : Nat × Nat) (v0 : Nat) (s0 : Int32) (s1 : Int32) (s2 : Nat) (s3 : Nat) (s4 : Nat) (h : jH) : m_M_new_789 F v0 s0 s1 s2 s3 s4 h = jst (j_C []) 4 (cd_M_new 789) [some (.ref v0)] [.int s0, .int s1, .ref s2, .ref s3, .ref s4] h (jrun (j_C []) 4 cd_M_new (j_T [(820, r_M_new_820 (m_M_new_820 F))]) 675) := rfl
set_option maxRecDepth 100000 in
theorem e_M_new_759 (F : Nat × Nat) (v0 : Nat) (s0 : Int32) (s1 : Int32) (s2 : Nat) (s3 : Nat) (s4 : Nat) (h : jH) : m_M_new_759 F v0 s0 s1 s2 s3 s4 h = jst (j_C []) 4 (cd_M_new 759) [some (.ref v0)] [.int s0, .int s1, .ref s2, .ref s3, .ref s4] h (jrun (j_C []) 4 cd_M_new (j_T [(789, r_M_new_789 (m_M_new_789 F))]) 675) := rfl
set_option maxRecDepth 100000 in
theorem e_M_new_729 (F : Nat × Nat) (v0 : Nat) (s0 : Int32) (s1 : Int32) (s2 : Nat) (s3 : Nat) (s4 : Nat) (h : jH) : m_M_new_729 F v0 s0 s1 s2 s3 s4 h = jst (j_C []) 4 (cd_M_new 729) [some (.ref v0)] [.int s0, .int s1, .ref s2, .ref s3, .ref s4] h (jrun (j_C []) 4 cd_M_new (j_T [(759, r_M_new_759 (m_M_new_759 F))]) 675) := rfl
set_option maxRecDepth 100000 in
theorem e_M_new_699 (F : Nat × Nat) (v0 : Nat) (s0 : Int32) (s1 : Int32) (s2 : Nat) (s3 : Nat) (s4 : Nat) (h : jH) : m_M_new_699 F v0 s0 s1 s2 s3 s4 h = jst (j_C []) 4 (cd_M_new 699) [some (.ref v0)] [.int s0, .int s1, .ref s2, .ref s3, .ref s4] h (jrun (j_C []) 4 cd_M_new (j_T [(729, r_M_new_729 (m_M_new_729 F))]) 675) := rfl
set_option maxRecDepth 100000 in
theorem e_M_new_669 (F : Nat × Nat) (v0 : Nat) (s0 : Int32) (s1 : Int32) (s2 : Nat) (s3 : Nat) (s4 : Nat) (h : jH) : m_M_new_669 F v0 s0 s1 s2 s3 s4 h = jst (j_C []) 4 (cd_M_new 669) [some (.ref v0)] [.int s0, .int s1, .ref s2, .ref s3, .ref s4] h (jrun (j_C []) 4 cd_M_new (j_T [(699, r_M_new_699 (m_M_new_699 F))]) 675) := rfl
set_option maxRecDepth 100000 in
theorem e_M_new_639 (F : Nat × Nat) (v0 : Nat) (s0 : Int32) (s1 : Int32) (s2 : Nat) (s3 : Nat) (s4 : Nat) (h : jH) : m_M_new_639 F v0 s0 s1 s2 s3 s4 h = jst (j_C []) 4 (cd_M_new 639) [some (.ref v0)] [.int s0, .int s1, .ref s2, .ref s3, .ref s4] h (jrun (j_C []) 4 cd_M_new (j_T [(669, r_M_new_669 (m_M_new_669 F))]) 675) := rfl
set_option maxRecDepth 100000 in
theorem e_M_new_609 (F : Nat × Nat) (v0 : Nat) (s0 : Int32) (s1 : Int32) (s2 : Nat) (s3 : Nat) (s4 : Nat) (h : jH) : m_M_new_609 F v0 s0 s1 s2 s3 s4 h = jst (j_C []) 4 (cd_M_new 609) [some (.ref v0)] [.int s0, .int s1, .ref s2, .ref s3, .ref s4] h (jrun (j_C []) 4 cd_M_new (j_T [(639, r_M_new_639 (m_M_new_639 F))]) 675) := rfl
set_option maxRecDepth 100000 in
theorem e_M_new_579 (F : Nat × Nat) (v0 : Nat) (s0 : Int32) (s1 : Int32) (s2 : Nat) (s3 : Nat) (s4 : Nat) (h : jH) : m_M_new_579 F v0 s0 s1 s2 s3 s4 h = jst (j_C []) 4 (cd_M_new 579) [some (.ref v0)] [.int s0, .int s1, .ref s2, .ref s3, .ref s4] h (jrun (j_C []) 4 cd_M_new (j_T [(609, r_M_new_609 (m_M_new_609 F))]) 675) := rfl
set_option maxRecDepth 100000 in
theorem e_M_new_549 (F : Nat × Nat) (v0 : Nat) (s0 : Int32) (s1 : Int32) (s2 : Nat) (s3 : Nat) (s4 : Nat) (h : jH) : m_M_new_549 F v0 s0 s1 s2 s3 s4 h = jst (j_C []) 4 (cd_M_new 549) [some (.ref v0)] [.int s0, .int s1, .ref s2, .ref s3, .ref s4] h (jrun (j_C []) 4 cd_M_new (j_T [(579, r_M_new_579 (m_M_new_579 F))]) 675) := rfl
set_option maxRecDepth 100000 in
theorem e_M_new_519 (F : Nat × Nat) (v0 : Nat) (s0 : Int32) (s1 : Int32) (s2 : Nat) (s3 : Nat) (s4 : Nat) (h : jH) : m_M_new_519 F v0 s0 s1 s2 s3 s4 h = jst (j_C []) 4 (cd_M_new 519) [some (.ref v0)] [.int s0, .int s1, .ref s2, .ref s3, .ref s4] h (jrun (j_C []) 4 cd_M_new (j_T [(549, r_M_new_549 (m_M_new_549 F))]) 675) := rfl
set_option maxRecDepth 100000 in
theorem e_M_new_489 (F : Nat × Nat) (v0 : Nat) (s0 : Int32) (s1 : Int32) (s2 : Nat) (s3 : Nat) (s4 : Nat) (h : jH) : m_M_new_489 F v0 s0 s1 s2 s3 s4 h = jst (j_C []) 4 (cd_M_new 489) [some (.ref v0)] [.int s0, .int s1, .ref s2, .ref s3, .ref s4] h (jrun (j_C []) 4 cd_M_new (j_T [(519, r_M_new_519 (m_M_new_519 F))]) 675) := rfl
set_option maxRecDepth 100000 in
theorem e_M_new_459 (F : Nat × Nat) (v0 : Nat) (s0 : Int32) (s1 : Int32) (s2 : Nat) (s3 : Nat) (s4 : Nat) (h : jH) : m_M_new_459 F v0 s0 s1 s2 s3 s4 h = jst (j_C []) 4 (cd_M_new 459) [some (.ref v0)] [.int s0, .int s1, .ref s2, .ref s3, .ref s4] h (jrun (j_C []) 4 cd_M_new (j_T [(489, r_M_new_489 (m_M_new_489 F))]) 675) := rfl
set_option maxRecDepth 100000 in
theorem e_M_new_429 (F : Nat × Nat) (v0 : Nat) (s0 : Int32) (s1 : Int32) (s2 : Nat) (s3 : Nat) (s4 : Nat) (h : jH) : m_M_new_429 F v0 s0 s1 s2 s3 s4 h = jst (j_C []) 4 (cd_M_new 429) [some (.ref v0)] [.int s0, .int s1, .ref s2, .ref s3, .ref s4] h (jrun (j_C []) 4 cd_M_new (j_T [(459, r_M_new_459 (m_M_new_459 F))]) 675) := rfl
set_option maxRecDepth 100000 in
theorem e_M_new_399 (F : Nat × Nat) (v0 : Nat) (s0 : Int32) (s1 : Int32) (s2 : Nat) (s3 : Nat) (s4 : Nat) (h : jH) : m_M_new_399 F v0 s0 s1 s2 s3 s4 h = jst (j_C []) 4 (cd_M_new 399) [some (.ref v0)] [.int s0, .int s1, .ref s2, .ref s3, .ref s4] h (jrun (j_C []) 4 cd_M_new (j_T [(429, r_M_new_429 (m_M_new_429 F))]) 675) := rfl
set_option maxRecDepth 100000 in
theorem e_M_new_369 (F : Nat × Nat) (v0 : Nat) (s0 : Int32) (s1 : Int32) (s2 : Nat) (s3 : Nat) (s4 : Nat) (h : jH) : m_M_new_369 F v0 s0 s1 s2 s3 s4 h = jst (j_C []) 4 (cd_M_new 369) [some (.ref v0)] [.int s0, .int s1, .ref s2, .ref s3, .ref s4] h (jrun (j_C []) 4 cd_M_new (j_T [(399, r_M_new_399 (m_M_new_399 F))]) 675) := rfl
set_option maxRecDepth 100000 in
theorem e_M_new_339 (F : Nat × Nat) (v0 : Nat) (s0 : Int32) (s1 : Int32) (s2 : Nat) (s3 : Nat) (s4 : Nat) (h : jH) : m_M_new_339 F v0 s0 s1 s2 s3 s4 h = jst (j_C []) 4 (cd_M_new 339) [some (.ref v0)] [.int s0, .int s1, .ref s2, .ref s3, .ref s4] h (jrun (j_C []) 4 cd_M_new (j_T [(369, r_M_new_369 (m_M_new_369 F))]) 675) := rfl
set_option maxRecDepth 100000 in
theorem e_M_new_309 (F : Nat × Nat) (v0 : Nat) (s0 : Int32) (s1 : Int32) (s2 : Nat) (s3 : Nat) (s4 : Nat) (h : jH) : m_M_new_309 F v0 s0 s1 s2 s3 s4 h = jst (j_C []) 4 (cd_M_new 309) [some (.ref v0)] [.int s0, .int s1, .ref s2, .ref s3, .ref s4] h (jrun (j_C []) 4 cd_M_new (j_T [(339, r_M_new_339 (m_M_new_339 F))]) 675) := rfl
set_option maxRecDepth 100000 in
theorem e_M_new_279 (F : Nat × Nat) (v0 : Nat) (s0 : Int32) (s1 : Int32) (s2 : Nat) (s3 : Nat) (s4 : Nat) (h : jH) : m_M_new_279 F v0 s0 s1 s2 s3 s4 h = jst (j_C []) 4 (cd_M_new 279) [some (.ref v0)] [.int s0, .int s1, .ref s2, .ref s3, .ref s4] h (jrun (j_C []) 4 cd_M_new (j_T [(309, r_M_new_309 (m_M_new_309 F))]) 675) := rfl
set_option maxRecDepth 100000 in
theorem e_M_new_249 (F : Nat × Nat) (v0 : Nat) (s0 : Int32) (s1 : Int32) (s2 : Nat) (s3 : Nat) (s4 : Nat) (h : jH) : m_M_new_249 F v0 s0 s1 s2 s3 s4 h = jst (j_C []) 4 (cd_M_new 249) [some (.ref v0)] [.int s0, .int s1, .ref s2, .ref s3, .ref s4] h (jrun (j_C []) 4 cd_M_new (j_T [(279, r_M_new_279 (m_M_new_279 F))]) 675) := rfl
set_option maxRecDepth 100000 in
theorem e_M_new_219 (F : Nat × Nat) (v0 : Nat) (s0 : Int32) (s1 : Int32) (s2 : Nat) (s3 : Nat) (s4 : Nat) (h : jH) : m_M_new_219 F v0 s0 s1 s2 s3 s4 h = jst (j_C []) 4 (cd_M_new 219) [some (.ref v0)] [.int s0, .int s1, .ref s2, .ref s3, .ref s4] h (jrun (j_C []) 4 cd_M_new (j_T [(249, r_M_new_249 (m_M_new_249 F))]) 675) := rfl
set_option maxRecDepth 100000 in
theorem e_M_new_189 (F : Nat × Nat) (v0 : Nat) (s0 : Int32) (s1 : Int32) (s2 : Nat) (s3 : Nat) (s4 : Nat) (h : jH) : m_M_new_189 F v0 s0 s1 s2 s3 s4 h = jst (j_C []) 4 (cd_M_new 189) [some (.ref v0)] [.int s0, .int s1, .ref s2, .ref s3, .ref s4] h (jrun (j_C []) 4 cd_M_new (j_T [(219, r_M_new_219 (m_M_new_219 F))]) 675) := rfl
set_option maxRecDepth 100000 in
theorem e_M_new_159 (F : Nat × Nat) (v0 : Nat) (s0 : Int32) (s1 : Int32) (s2 : Nat) (s3 : Nat) (s4 : Nat) (h : jH) : m_M_new_159 F v0 s0 s1 s2 s3 s4 h = jst (j_C []) 4 (cd_M_new 159) [some (.ref v0)] [.int s0, .int s1, .ref s2, .ref s3, .ref s4] h (jrun (j_C []) 4 cd_M_new (j_T [(189, r_M_new_189 (m_M_new_189 F))]) 675) := rfl
set_option maxRecDepth 100000 in
theorem e_M_new_129 (F : Nat × Nat) (v0 : Nat) (s0 : Int32) (s1 : Int32) (s2 : Nat) (s3 : Nat) (s4 : Nat) (h : jH) : m_M_new_129 F v0 s0 s1 s2 s3 s4 h = jst (j_C []) 4 (cd_M_new 129) [some (.ref v0)] [.int s0, .int s1, .ref s2, .ref s3, .ref s4] h (jrun (j_C []) 4 cd_M_new (j_T [(159, r_M_new_159 (m_M_new_159 F))]) 675) := rfl
set_option maxRecDepth 100000 in
theorem e_M_new_99 (F : Nat × Nat) (v0 : Nat) (s0 : Int32) (s1 : Int32) (s2 : Nat) (s3 : Nat) (s4 : Nat) (h : jH) : m_M_new_99 F v0 s0 s1 s2 s3 s4 h = jst (j_C []) 4 (cd_M_new 99) [some (.ref v0)] [.int s0, .int s1, .ref s2, .ref s3, .ref s4] h (jrun (j_C []) 4 cd_M_new (j_T [(129, r_M_new_129 (m_M_new_129 F))]) 675) := rfl
set_option maxRecDepth 100000 in
theorem e_M_new_71 (F : Nat × Nat) (v0 : Nat) (s0 : Int32) (s1 : Int32) (s2 : Nat) (s3 : Nat) (s4 : Nat) (h : jH) : m_M_new_71 F v0 s0 s1 s2 s3 s4 h = jst (j_C []) 4 (cd_M_new 71) [some (.ref v0)] [.int s0, .int s1, .ref s2, .ref s3, .ref s4] h (jrun (j_C []) 4 cd_M_new (j_T [(99, r_M_new_99 (m_M_new_99 F))]) 675) := rfl
set_option maxRecDepth 100000 in
theorem e_M_new_41 (F : Nat × Nat) (v0 : Nat) (s0 : Int32) (s1 : Nat) (h : jH) : m_M_new_41 F v0 s0 s1 h = jst (j_C []) 4 (cd_M_new 41) [some (.ref v0)] [.int s0, .ref s1] h (jrun (j_C []) 4 cd_M_new (j_T [(71, r_M_new_71 (m_M_new_71 F))]) 675) := rfl
set_option maxRecDepth 100000 in
theorem e_M_new (F : Nat × Nat) (o : Nat) (h : jH) : m_M_new F o h = jrun (j_C []) 4 cd_M_new (j_T [(41, r_M_new_41 (m_M_new_41 F))]) 675 0 [some (.ref o)] [] h := rfl
theorem hc_M_new (F : Nat × Nat) : jCok (0 + 0 * F.2) (j_C []) := jC_ok (fun _ h => absurd h List.not_mem_nil)
theorem g_M_new_1052 (F : Nat × Nat) : jG M_M_new (0 + 0 * F.2) 1052 (r_M_new_1052 (m_M_new_1052 F)) := (jst_ok ok_M_new (hc_M_new F) (jrun_ok ok_M_new (hc_M_new F) (jT_ok (fun _ h => absurd h List.not_mem_nil)) 675) 1052).of (fun L S h out e => by unfold r_M_new_1052 at e; split at e; exact (e_M_new_1052 F _ _ _).symm.trans e; cases e)
theorem g_M_new_1015 (F : Nat × Nat) : jG M_M_new (0 + 0 * F.2) 1015 (r_M_new_1015 (m_M_new_1015 F)) := (jst_ok ok_M_new (hc_M_new F) (jrun_ok ok_M_new (hc_M_new F) (jT_ok (List.forall_mem_cons.mpr ⟨g_M_new_1052 F, fun _ h => absurd h List.not_mem_nil⟩)) 675) 1015).of (fun L S h out e => by unfold r_M_new_1015 at e; split at e; exact (e_M_new_1015 F _ _ _ _).symm.trans e; cases e)
theorem g_M_new_975 (F : Nat × Nat) : jG M_M_new (0 + 0 * F.2) 975 (r_M_new_975 (m_M_new_975 F)) := (jst_ok ok_M_new (hc_M_new F) (jrun_ok ok_M_new (hc_M_new F) (jT_ok (List.forall_mem_cons.mpr ⟨g_M_new_1015 F, fun _ h => absurd h List.not_mem_nil⟩)) 675) 975).of (fun L S h out e => by unfold r_M_new_975 at e; split at e; exact (e_M_new_975 F _ _ _ _).symm.trans e; cases e)
theorem g_M_new_933 (F : Nat × Nat) : jG M_M_new (0 + 0 * F.2) 933 (r_M_new_933 (m_M_new_933 F)) := (jst_ok ok_M_new (hc_M_new F) (jrun_ok ok_M_new (hc_M_new F) (jT_ok (List.forall_mem_cons.mpr ⟨g_M_new_975 F, fun _ h => absurd h List.not_mem_nil⟩)) 675) 933).of (fun L S h out e => by unfold r_M_new_933 at e; split at e; exact (e_M_new_933 F _ _ _ _).symm.trans e; cases e)
theorem g_M_new_891 (F : Nat × Nat) : jG M_M_new (0 + 0 * F.2) 891 (r_M_new_891 (m_M_new_891 F)) := (jst_ok ok_M_new (hc_M_new F) (jrun_ok ok_M_new (hc_M_new F) (jT_ok (List.forall_mem_cons.mpr ⟨g_M_new_933 F, fun _ h => absurd h List.not_mem_nil⟩)) 675) 891).of (fun L S h out e => by unfold r_M_new_891 at e; split at e; exact (e_M_new_891 F _ _ _ _).symm.trans e; cases e)
theorem g_M_new_855 (F : Nat × Nat) : jG M_M_new (0 + 0 * F.2) 855 (r_M_new_855 (m_M_new_855 F)) := (jst_ok ok_M_new (hc_M_new F) (jrun_ok ok_M_new (hc_M_new F) (jT_ok (List.forall_mem_cons.mpr ⟨g_M_new_891 F, fun _ h => absurd h List.not_mem_nil⟩)) 675) 855).of (fun L S h out e => by unfold r_M_new_855 at e; split at e; exact (e_M_new_855 F _ _ _ _ _ _ _).symm.trans e; cases e)
theorem g_M_new_820 (F : Nat × Nat) : jG M_M_new (0 + 0 * F.2) 820 (r_M_new_820 (m_M_new_820 F)) := (jst_ok ok_M_new (hc_M_new F) (jrun_ok ok_M_new (hc_M_new F) (jT_ok (List.forall_mem_cons.mpr ⟨g_M_new_855 F, fun _ h => absurd h List.not_mem_nil⟩)) 675) 820).of (fun L S h out e => by unfold r_M_new_820 at e; split at e; exact (e_M_new_820 F _ _ _ _ _ _ _).symm.trans e; cases e)
theorem g_M_new_789 (F : Nat × Nat) : jG M_M_new (0 + 0 * F.2) 789 (r_M_new_789 (m_M_new_789 F)) := (jst_ok ok_M_new (hc_M_new F) (jrun_ok ok_M_new (hc_M_new F) (jT_ok (List.forall_mem_cons.mpr ⟨g_M_new_820 F, fun _ h => absurd h List.not_mem_nil⟩)) 675) 789).of (fun L S h out e => by unfold r_M_new_789 at e; split at e; exact (e_M_new_789 F _ _ _ _ _ _ _).symm.trans e; cases e)
theorem g_M_new_759 (F : Nat × Nat) : jG M_M_new (0 + 0 * F.2) 759 (r_M_new_759 (m_M_new_759 F)) := (jst_ok ok_M_new (hc_M_new F) (jrun_ok ok_M_new (hc_M_new F) (jT_ok (List.forall_mem_cons.mpr ⟨g_M_new_789 F, fun _ h => absurd h List.not_mem_nil⟩)) 675) 759).of (fun L S h out e => by unfold r_M_new_759 at e; split at e; exact (e_M_new_759 F _ _ _ _ _ _ _).symm.trans e; cases e)
theorem g_M_new_729 (F : Nat × Nat) : jG M_M_new (0 + 0 * F.2) 729 (r_M_new_729 (m_M_new_729 F)) := (jst_ok ok_M_new (hc_M_new F) (jrun_ok ok_M_new (hc_M_new F) (jT_ok (List.forall_mem_cons.mpr ⟨g_M_new_759 F, fun _ h => absurd h List.not_mem_nil⟩)) 675) 729).of (fun L S h out e => by unfold r_M_new_729 at e; split at e; exact (e_M_new_729 F _ _ _ _ _ _ _).symm.trans e; cases e)
theorem g_M_new_699 (F : Nat × Nat) : jG M_M_new (0 + 0 * F.2) 699 (r_M_new_699 (m_M_new_699 F)) := (jst_ok ok_M_new (hc_M_new F) (jrun_ok ok_M_new (hc_M_new F) (jT_ok (List.forall_mem_cons.mpr ⟨g_M_new_729 F, fun _ h => absurd h List.not_mem_nil⟩)) 675) 699).of (fun L S h out e => by unfold r_M_new_699 at e; split at e; exact (e_M_new_699 F _ _ _ _ _ _ _).symm.trans e; cases e)
theorem g_M_new_669 (F : Nat × Nat) : jG M_M_new (0 + 0 * F.2) 669 (r_M_new_669 (m_M_new_669 F)) := (jst_ok ok_M_new (hc_M_new F) (jrun_ok ok_M_new (hc_M_new F) (jT_ok (List.forall_mem_cons.mpr ⟨g_M_new_699 F, fun _ h => absurd h List.not_mem_nil⟩)) 675) 669).of (fun L S h out e => by unfold r_M_new_669 at e; split at e; exact (e_M_new_669 F _ _ _ _ _ _ _).symm.trans e; cases e)
theorem g_M_new_639 (F : Nat × Nat) : jG M_M_new (0 + 0 * F.2) 639 (r_M_new_639 (m_M_new_639 F)) := (jst_ok ok_M_new (hc_M_new F) (jrun_ok ok_M_new (hc_M_new F) (jT_ok (List.forall_mem_cons.mpr ⟨g_M_new_669 F, fun _ h => absurd h List.not_mem_nil⟩)) 675) 639).of (fun L S h out e => by unfold r_M_new_639 at e; split at e; exact (e_M_new_639 F _ _ _ _ _ _ _).symm.trans e; cases e)
theorem g_M_new_609 (F : Nat × Nat) : jG M_M_new (0 + 0 * F.2) 609 (r_M_new_609 (m_M_new_609 F)) := (jst_ok ok_M_new (hc_M_new F) (jrun_ok ok_M_new (hc_M_new F) (jT_ok (List.forall_mem_cons.mpr ⟨g_M_new_639 F, fun _ h => absurd h List.not_mem_nil⟩)) 675) 609).of (fun L S h out e => by unfold r_M_new_609 at e; split at e; exact (e_M_new_609 F _ _ _ _ _ _ _).symm.trans e; cases e)
theorem g_M_new_579 (F : Nat × Nat) : jG M_M_new (0 + 0 * F.2) 579 (r_M_new_579 (m_M_new_579 F)) := (jst_ok ok_M_new (hc_M_new F) (jrun_ok ok_M_new (hc_M_new F) (jT_ok (List.forall_mem_cons.mpr ⟨g_M_new_609 F, fun _ h => absurd h List.not_mem_nil⟩)) 675) 579).of (fun L S h out e => by unfold r_M_new_579 at e; split at e; exact (e_M_new_579 F _ _ _ _ _ _ _).symm.trans e; cases e)
theorem g_M_new_549 (F : Nat × Nat) : jG M_M_new (0 + 0 * F.2) 549 (r_M_new_549 (m_M_new_549 F)) := (jst_ok ok_M_new (hc_M_new F) (jrun_ok ok_M_new (hc_M_new F) (jT_ok (List.forall_mem_cons.mpr ⟨g_M_new_579 F, fun _ h => absurd h List.not_mem_nil⟩)) 675) 549).of (fun L S h out e => by unfold r_M_new_549 at e; split at e; exact (e_M_new_549 F _ _ _ _ _ _ _).symm.trans e; cases e)
theorem g_M_new_519 (F : Nat × Nat) : jG M_M_new (0 + 0 * F.2) 519 (r_M_new_519 (m_M_new_519 F)) := (jst_ok ok_M_new (hc_M_new F) (jrun_ok ok_M_new (hc_M_new F) (jT_ok (List.forall_mem_cons.mpr ⟨g_M_new_549 F, fun _ h => absurd h List.not_mem_nil⟩)) 675) 519).of (fun L S h out e => by unfold r_M_new_519 at e; split at e; exact (e_M_new_519 F _ _ _ _ _ _ _).symm.trans e; cases e)
theorem g_M_new_489 (F : Nat × Nat) : jG M_M_new (0 + 0 * F.2) 489 (r_M_new_489 (m_M_new_489 F)) := (jst_ok ok_M_new (hc_M_new F) (jrun_ok ok_M_new (hc_M_new F) (jT_ok (List.forall_mem_cons.mpr ⟨g_M_new_519 F, fun _ h => absurd h List.not_mem_nil⟩)) 675) 489).of (fun L S h out e => by unfold r_M_new_489 at e; split at e; exact (e_M_new_489 F _ _ _ _ _ _ _).symm.trans e; cases e)
theorem g_M_new_459 (F : Nat × Nat) : jG M_M_new (0 + 0 * F.2) 459 (r_M_new_459 (m_M_new_459 F)) := (jst_ok ok_M_new (hc_M_new F) (jrun_ok ok_M_new (hc_M_new F) (jT_ok (List.forall_mem_cons.mpr ⟨g_M_new_489 F, fun _ h => absurd h List.not_mem_nil⟩)) 675) 459).of (fun L S h out e => by unfold r_M_new_459 at e; split at e; exact (e_M_new_459 F _ _ _ _ _ _ _).symm.trans e; cases e)
theorem g_M_new_429 (F : Nat × Nat) : jG M_M_new (0 + 0 * F.2) 429 (r_M_new_429 (m_M_new_429 F)) := (jst_ok ok_M_new (hc_M_new F) (jrun_ok ok_M_new (hc_M_new F) (jT_ok (List.forall_mem_cons.mpr ⟨g_M_new_459 F, fun _ h => absurd h List.not_mem_nil⟩)) 675) 429).of (fun L S h out e => by unfold r_M_new_429 at e; split at e; exact (e_M_new_429 F _ _ _ _ _ _ _).symm.trans e; cases e)
theorem g_M_new_399 (F : Nat × Nat) : jG M_M_new (0 + 0 * F.2) 399 (r_M_new_399 (m_M_new_399 F)) := (jst_ok ok_M_new (hc_M_new F) (jrun_ok ok_M_new (hc_M_new F) (jT_ok (List.forall_mem_cons.mpr ⟨g_M_new_429 F, fun _ h => absurd h List.not_mem_nil⟩)) 675) 399).of (fun L S h out e => by unfold r_M_new_399 at e; split at e; exact (e_M_new_399 F _ _ _ _ _ _ _).symm.trans e; cases e)
theorem g_M_new_369 (F : Nat × Nat) : jG M_M_new (0 + 0 * F.2) 369 (r_M_new_369 (m_M_new_369 F)) := (jst_ok ok_M_new (hc_M_new F) (jrun_ok ok_M_new (hc_M_new F) (jT_ok (List.forall_mem_cons.mpr ⟨g_M_new_399 F, fun _ h => absurd h List.not_mem_nil⟩)) 675) 369).of (fun L S h out e => by unfold r_M_new_369 at e; split at e; exact (e_M_new_369 F _ _ _ _ _ _ _).symm.trans e; cases e)
theorem g_M_new_339 (F : Nat × Nat) : jG M_M_new (0 + 0 * F.2) 339 (r_M_new_339 (m_M_new_339 F)) := (jst_ok ok_M_new (hc_M_new F) (jrun_ok ok_M_new (hc_M_new F) (jT_ok (List.forall_mem_cons.mpr ⟨g_M_new_369 F, fun _ h => absurd h List.not_mem_nil⟩)) 675) 339).of (fun L S h out e => by unfold r_M_new_339 at e; split at e; exact (e_M_new_339 F _ _ _ _ _ _ _).symm.trans e; cases e)
theorem g_M_new_309 (F : Nat × Nat) : jG M_M_new (0 + 0 * F.2) 309 (r_M_new_309 (m_M_new_309 F)) := (jst_ok ok_M_new (hc_M_new F) (jrun_ok ok_M_new (hc_M_new F) (jT_ok (List.forall_mem_cons.mpr ⟨g_M_new_339 F, fun _ h => absurd h List.not_mem_nil⟩)) 675) 309).of (fun L S h out e => by unfold r_M_new_309 at e; split at e; exact (e_M_new_309 F _ _ _ _ _ _ _).symm.trans e; cases e)
theorem g_M_new_279 (F : Nat × Nat) : jG M_M_new (0 + 0 * F.2) 279 (r_M_new_279 (m_M_new_279 F)) := (jst_ok ok_M_new (hc_M_new F) (jrun_ok ok_M_new (hc_M_new F) (jT_ok (List.forall_mem_cons.mpr ⟨g_M_new_309 F, fun _ h => absurd h List.not_mem_nil⟩)) 675) 279).of (fun L S h out e => by unfold r_M_new_279 at e; split at e; exact (e_M_new_279 F _ _ _ _ _ _ _).symm.trans e; cases e)
theorem g_M_new_249 (F : Nat × Nat) : jG M_M_new (0 + 0 * F.2) 249 (r_M_new_249 (m_M_new_249 F)) := (jst_ok ok_M_new (hc_M_new F) (jrun_ok ok_M_new (hc_M_new F) (jT_ok (List.forall_mem_cons.mpr ⟨g_M_new_279 F, fun _ h => absurd h List.not_mem_nil⟩)) 675) 249).of (fun L S h out e => by unfold r_M_new_249 at e; split at e; exact (e_M_new_249 F _ _ _ _ _ _ _).symm.trans e; cases e)
theorem g_M_new_219 (F : Nat × Nat) : jG M_M_new (0 + 0 * F.2) 219 (r_M_new_219 (m_M_new_219 F)) := (jst_ok ok_M_new (hc_M_new F) (jrun_ok ok_M_new (hc_M_new F) (jT_ok (List.forall_mem_cons.mpr ⟨g_M_new_249 F, fun _ h => absurd h List.not_mem_nil⟩)) 675) 219).of (fun L S h out e => by unfold r_M_new_219 at e; split at e; exact (e_M_new_219 F _ _ _ _ _ _ _).symm.trans e; cases e)
theorem g_M_new_189 (F : Nat × Nat) : jG M_M_new (0 + 0 * F.2) 189 (r_M_new_189 (m_M_new_189 F)) := (jst_ok ok_M_new (hc_M_new F) (jrun_ok ok_M_new (hc_M_new F) (jT_ok (List.forall_mem_cons.mpr ⟨g_M_new_219 F, fun _ h => absurd h List.not_mem_nil⟩)) 675) 189).of (fun L S h out e => by unfold r_M_new_189 at e; split at e; exact (e_M_new_189 F _ _ _ _ _ _ _).symm.trans e; cases e)
theorem g_M_new_159 (F : Nat × Nat) : jG M_M_new (0 + 0 * F.2) 159 (r_M_new_159 (m_M_new_159 F)) := (jst_ok ok_M_new (hc_M_new F) (jrun_ok ok_M_new (hc_M_new F) (jT_ok (List.forall_mem_cons.mpr ⟨g_M_new_189 F, fun _ h => absurd h List.not_mem_nil⟩)) 675) 159).of (fun L S h out e => by unfold r_M_new_159 at e; split at e; exact (e_M_new_159 F _ _ _ _ _ _ _).symm.trans e; cases e)
theorem g_M_new_129 (F : Nat × Nat) : jG M_M_new (0 + 0 * F.2) 129 (r_M_new_129 (m_M_new_129 F)) := (jst_ok ok_M_new (hc_M_new F) (jrun_ok ok_M_new (hc_M_new F) (jT_ok (List.forall_mem_cons.mpr ⟨g_M_new_159 F, fun _ h => absurd h List.not_mem_nil⟩)) 675) 129).of (fun L S h out e => by unfold r_M_new_129 at e; split at e; exact (e_M_new_129 F _ _ _ _ _ _ _).symm.trans e; cases e)
theorem g_M_new_99 (F : Nat × Nat) : jG M_M_new (0 + 0 * F.2) 99 (r_M_new_99 (m_M_new_99 F)) := (jst_ok ok_M_new (hc_M_new F) (jrun_ok ok_M_new (hc_M_new F) (jT_ok (List.forall_mem_cons.mpr ⟨g_M_new_129 F, fun _ h => absurd h List.not_mem_nil⟩)) 675) 99).of (fun L S h out e => by unfold r_M_new_99 at e; split at e; exact (e_M_new_99 F _ _ _ _ _ _ _).symm.trans e; cases e)
theorem g_M_new_71 (F : Nat × Nat) : jG M_M_new (0 + 0 * F.2) 71 (r_M_new_71 (m_M_new_71 F)) := (jst_ok ok_M_new (hc_M_new F) (jrun_ok ok_M_new (hc_M_new F) (jT_ok (List.forall_mem_cons.mpr ⟨g_M_new_99 F, fun _ h => absurd h List.not_mem_nil⟩)) 675) 71).of (fun L S h out e => by unfold r_M_new_71 at e; split at e; exact (e_M_new_71 F _ _ _ _ _ _ _).symm.trans e; cases e)
theorem g_M_new_41 (F : Nat × Nat) : jG M_M_new (0 + 0 * F.2) 41 (r_M_new_41 (m_M_new_41 F)) := (jst_ok ok_M_new (hc_M_new F) (jrun_ok ok_M_new (hc_M_new F) (jT_ok (List.forall_mem_cons.mpr ⟨g_M_new_71 F, fun _ h => absurd h List.not_mem_nil⟩)) 675) 41).of (fun L S h out e => by unfold r_M_new_41 at e; split at e; exact (e_M_new_41 F _ _ _ _).symm.trans e; cases e)
theorem k_M_new (F : Nat × Nat) (o : Nat) (h : jH) (r : Option Value) (h1 : jH) (e : m_M_new F o h = some (r, h1)) : jM1 (0 + 0 * F.2) 155 [.ref o] h r h1 := jM_of (M := M_M_new) mok_M_new (by decide +kernel) (by decide +kernel) (Or.inr (Or.inr (Or.inr (Or.inr ⟨rfl, rfl⟩)))) (fun _ => by decide +kernel) (jrun_ok ok_M_new (hc_M_new F) (jT_ok (List.forall_mem_cons.mpr ⟨g_M_new_41 F, fun _ h => absurd h List.not_mem_nil⟩)) 675 0) (List.all_eq_true.mp rfl) (Nat.le_of_ble_eq_true rfl) (fun E => Nat.le_of_ble_eq_true rfl) ((e_M_new F o h).symm.trans e)
theorem co_M_new (F : Nat × Nat) : jc_ok (0 + 0 * F.2 + 1) 155 (c_M_new F) := by
  intro as h k out e
  unfold c_M_new at e
  split at e
  · obtain ⟨a0, rfl, e1⟩ := js_rv e
    obtain ⟨h1, hm, e2⟩ := js_jbV e1
    exact ⟨_, _, _, Nat.le_refl _, k_M_new F _ _ _ _ hm, ⟨fun q => absurd q (by decide +kernel), fun _ => ⟨_, _, rfl⟩⟩, e2⟩
  · cases e
