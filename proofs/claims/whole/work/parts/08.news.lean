/-! NEW CELLS, COPIES -/
theorem e_ad_c {E : jEv} {h : jH} {H : Heap} (w : jWd E h H) : e_ad E (j_c h) = H.size := by
  obtain ⟨w1, w2, -⟩ := w
  unfold e_ad
  rw [if_neg (by omega), w2]
theorem jc_new (h : jH) (q n : Nat) : j_c (j_new h q n) = j_c h + 1 := rfl
theorem jz_new (h : jH) (q n : Nat) : j_z (j_new h q n) = j_z h + n := rfl
theorem jk_new (h : jH) (q n : Nat) : j_k (j_new h q n) (j_c h) = q := by show (va_up h.1 (j_c h) (q, n) (j_c h)).1 = q; rw [va_up_s]
theorem jn_new (h : jH) (q n : Nat) : j_n (j_new h q n) (j_c h) = n := by show (va_up h.1 (j_c h) (q, n) (j_c h)).2 = n; rw [va_up_s]
theorem jI_new (h : jH) (q n k : Nat) : j_I (j_new h q n) (j_c h) k = 0 := by show va_up h.2.1 (j_c h) (fun _ => 0) (j_c h) k = 0; rw [va_up_s]
theorem jJ_new (h : jH) (q n k : Nat) : j_J (j_new h q n) (j_c h) k = 0 := by show va_up h.2.2.1 (j_c h) (fun _ => 0) (j_c h) k = 0; rw [va_up_s]
theorem jR_new (h : jH) (q n k : Nat) : j_R (j_new h q n) (j_c h) k = none := by show va_up h.2.2.2.1 (j_c h) (fun _ => none) (j_c h) k = none; rw [va_up_s]
theorem jo_new (h : jH) (q n b : Nat) (hb : b ≠ j_c h) : (j_new h q n).1 b = h.1 b ∧ (j_new h q n).2.1 b = h.2.1 b ∧ (j_new h q n).2.2.1 b = h.2.2.1 b ∧ (j_new h q n).2.2.2.1 b = h.2.2.2.1 b := ⟨va_up_n _ _ hb, va_up_n _ _ hb, va_up_n _ _ hb, va_up_n _ _ hb⟩
theorem jo_cl (h : jH) (a b : Nat) (hb : b ≠ j_c h) : (j_cl h a).1 b = h.1 b ∧ (j_cl h a).2.1 b = h.2.1 b ∧ (j_cl h a).2.2.1 b = h.2.2.1 b ∧ (j_cl h a).2.2.2.1 b = h.2.2.2.1 b := ⟨va_up_n _ _ hb, va_up_n _ _ hb, va_up_n _ _ hb, va_up_n _ _ hb⟩
section JN
variable {p : Program} {l : Launch} {e0 : Env} {R : Room} {s : State} {m : MethodId} {args : Array Value} {below : List Frame} {meth : Method} {c : Code} {Q : State → Prop} {E : jEv} {cc : ByteArray} {own : String} {nL n0 z0 : Nat} {out : jO}
variable {k : jK} {pc nx : Nat} {L : jL} {S : List Value} {h : jH}
theorem va_S.mk {A : Nat → Prop} {H0 H H1 : Heap} {locs : List Loc} (w : va_S A H0 H locs) (z : H1.size = H.size + 1) (o : ∀ q, q < H.size → H1[q]? = H[q]?) : va_S A H0 H1 locs :=
  ⟨Nat.le_trans w.1 (by omega), fun x h1 h2 => (o x (Nat.lt_of_lt_of_le h1 w.1)).trans (w.2.1 x h1 h2), w.2.2⟩
theorem js_new (hk : jHk p l e0 R s m args below meth c Q E nL n0 z0 out k) (hx : p.tables.exec = Jvm.exec) (hb : c.code = cc) (hown : s.vm.findClass own = some m.cls) (hts : ∀ w ∈ jgw, w.before args s = true) (hK : jKn E s) (hRc : j_c out.2 - n0 ≤ R.cells) (hRs : j_z out.2 - z0 ≤ R.slots) {idx x u : Nat} (hu : 10 ≤ u ∧ u < 18) (hxn : x = jNf (u - 10)) (hl : Cond.classLink own idx (jRf (u - 10)) ∈ jgw) (hdg : decode cc pc = .ok (.new idx, 3))
    (e : k (pc + 3) L (.ref (j_c h) :: S) (j_new h u x) = some out) : jG1 p l e0 R s m args below meth c Q E nL n0 z0 out pc L S h := by
  have hci : u - 10 < 8 := by omega
  obtain ⟨mo, w⟩ := hk _ _ _ _ e
  rw [jc_new, jz_new] at mo
  refine ⟨by omega, fun a1 b1 H locs ls g1 g2 g3 g4 => ?_⟩
  have hKn := hK.1 (u - 10) hci
  have hin := jf_in (u - 10) hci
  subst hxn
  refine W.newcK hx hb hown (hts _ hl) (hts _ (jw_of hin.1)) (hts _ (jw_of hin.2)) rfl hdg (by omega) (by omega) hKn.2.1 rfl fun H1 kC hkC e1 z1 o1 => ?_
  have hb := u_born (jty (u - 10)) hts (jf_inw hci) hKn hkC e1 (jf_ty (u - 10) hci)
  have hW : jWd E (j_new h u (jNf (u - 10))) H1 := by
    refine g1.make rfl (fun b hb => jo_new h u _ b hb) z1 o1 (Or.inr ?_)
    rw [jk_new]
    refine ⟨hu.1, hu.2, ?_⟩
    rw [e_ad_c g1]
    refine hb.to (fun q hq => ?_)
    obtain ⟨j1, j2, j3, j4⟩ := jfv_c E (j_new h u (jNf (u - 10))) (u - 10) (j_c h) q
    rcases jf_tc (u - 10) hci q hq with ⟨h0, hty⟩ | ⟨h0, hty⟩ | ⟨h0, hty⟩ | ⟨h0, -, -, hty⟩
    · rw [j1 h0, hty, jI_new]; rfl
    · rw [j2 h0, hty, jI_new]; rfl
    · rw [j3 h0, hty, jJ_new]; rfl
    · rw [j4 h0, hty, jR_new]; rfl
  have w' := w (by rw [jc_new]; omega) (by rw [jz_new]; omega) H1 locs ls hW (g2.make g1 (by rw [jk_new]; omega) (fun b hb => ⟨(jo_new h u _ b hb).1, (jo_new h u _ b hb).2.1⟩)) (g3.mk z1 o1) g4
  rw [List.map_cons, cv_r, e_ad_c g1] at w'
  exact W.cs (by rw [jc_new]; omega) (by rw [jz_new]; omega) w'
/-- an array of kind q is made -/
theorem js_mkA {q N : Nat} (hq : q < 6) {H H1 : Heap} (g1 : jWd E h H) (z1 : H1.size = H.size + 1) (o1 : ∀ q, q < H.size → H1[q]? = H[q]?) (e1 : H1[H.size]? = some (arrV (E.2.2.1 q) N (fun _ => defaultValue (j_ety q)))) : jWd E (j_new h q N) H1 := by
  refine g1.make rfl (fun b hb => jo_new h q _ b hb) z1 o1 (Or.inl ?_)
  rw [jk_new]
  refine ⟨hq, ?_⟩
  rw [e_ad_c g1, e1]
  have hI : j_I (j_new h q N) (j_c h) = fun _ => 0 := funext fun z => jI_new h q N z
  have hJ : j_J (j_new h q N) (j_c h) = fun _ => 0 := funext fun z => jJ_new h q N z
  have hR : j_R (j_new h q N) (j_c h) = fun _ => none := funext fun z => jR_new h q N z
  have hq6 : q = 0 ∨ q = 1 ∨ q = 2 ∨ q = 3 ∨ q = 4 ∨ q = 5 := by omega
  unfold jAr
  rw [jn_new, hI, hJ, hR]
  rcases hq6 with rfl | rfl | rfl | rfl | rfl | rfl <;> rfl
theorem js_newa (hk : jHk p l e0 R s m args below meth c Q E nL n0 z0 out k) (hx : p.tables.exec = Jvm.exec) (hb : c.code = cc) (hts : ∀ w ∈ jgw, w.before args s = true) (hK : jKn E s) (hRc : j_c out.2 - n0 ≤ R.cells) (hRs : j_z out.2 - z0 ≤ R.slots) {at_ : ArrayType} {u : Nat} (hu : u < 4) (hty : newarray.typeOf at_ = j_ety u) (hl : Cond.arrayClass (newarray.typeOf at_) ∈ jgw) (hdg : decode cc pc = .ok (.newarray at_, 2))
    (e : (j_i1 S fun n S => if ¬ n < 0 ∧ n.toNatClampNeg ≤ 50000 then k (pc + 2) L (.ref (j_c h) :: S) (j_new h u n.toNatClampNeg) else none) = some out) : jG1 p l e0 R s m args below meth c Q E nL n0 z0 out pc L S h := by
  obtain ⟨n, S', rfl, e⟩ := js_i1' e
  obtain ⟨⟨hn, hN⟩, e⟩ := js_if e
  obtain ⟨mo, w⟩ := hk _ _ _ _ e
  rw [jc_new, jz_new] at mo
  refine ⟨by omega, fun a1 b1 H locs ls g1 g2 g3 g4 => ?_⟩
  have hcb : componentBytes (newarray.typeOf at_) ≤ 8 := by cases at_ <;> decide
  refine va_newaK hx hb (hts _ hl) rfl hdg rfl hn rfl (Nat.le_trans (Nat.mul_le_mul hN hcb) (by decide)) (by omega) (by omega) rfl fun H1 cA e1 z1 o1 hAr hNm => ?_
  have hcA : cA = E.2.2.1 u := by
    have h2 := (hK.2.1 u (by omega)).2
    rw [hty] at hNm
    have hu4 : u = 0 ∨ u = 1 ∨ u = 2 ∨ u = 3 := by omega
    rcases hu4 with rfl | rfl | rfl | rfl <;> exact Option.some.inj (hNm.symm.trans h2)
  subst hcA
  rw [hty] at e1
  have hW := js_mkA (by omega) g1 z1 o1 e1
  have w' := w (by rw [jc_new]; omega) (by rw [jz_new]; omega) H1 locs ls hW (g2.make g1 (by rw [jk_new]; omega) (fun b hb => ⟨(jo_new h u _ b hb).1, (jo_new h u _ b hb).2.1⟩)) (g3.mk z1 o1) g4
  rw [List.map_cons, cv_r, e_ad_c g1] at w'
  exact W.cs (by rw [jc_new]; omega) (by rw [jz_new]; omega) w'
theorem js_anew (hk : jHk p l e0 R s m args below meth c Q E nL n0 z0 out k) (hx : p.tables.exec = Jvm.exec) (hb : c.code = cc) (hown : s.vm.findClass own = some m.cls) (hts : ∀ w ∈ jgw, w.before args s = true) (hK : jKn E s) (hRc : j_c out.2 - n0 ≤ R.cells) (hRs : j_z out.2 - z0 ≤ R.slots) {idx u : Nat} {C : String} (hu : (u = 4 ∧ C = "FootMaps$Text") ∨ (u = 5 ∧ C = "FootMaps$Land")) (hl : Cond.classLink own idx C ∈ jgw) (hdg : decode cc pc = .ok (.anewarray idx, 3))
    (e : (j_i1 S fun n S => if ¬ n < 0 ∧ n.toNatClampNeg ≤ 50000 then k (pc + 3) L (.ref (j_c h) :: S) (j_new h u n.toNatClampNeg) else none) = some out) : jG1 p l e0 R s m args below meth c Q E nL n0 z0 out pc L S h := by
  obtain ⟨n, S', rfl, e⟩ := js_i1' e
  obtain ⟨⟨hn, hN⟩, e⟩ := js_if e
  obtain ⟨mo, w⟩ := hk _ _ _ _ e
  rw [jc_new, jz_new] at mo
  have hov : va_AO C s := by rcases hu with ⟨-, rfl⟩ | ⟨-, rfl⟩; exact hK.2.2.2.1; exact hK.2.2.2.2.1
  refine ⟨by omega, fun a1 b1 H locs ls g1 g2 g3 g4 => ?_⟩
  refine W.anew hx hb hown (hts _ hl) (va_AO.use hov) rfl hdg rfl hn (by omega) (by omega) (by omega) fun cA kA comp f1 f2 f3 f4 => ?_
  have hcA : cA = E.2.2.1 u ∧ j_ety u = .object C ∧ u < 6 := by
    rcases hu with ⟨rfl, rfl⟩ | ⟨rfl, rfl⟩
    · obtain ⟨_, _, _, _, _, h4⟩ := (hK.2.1 4 (by omega)).2
      exact ⟨Option.some.inj (f1.symm.trans h4), rfl, by omega⟩
    · obtain ⟨_, _, _, _, _, h4⟩ := (hK.2.1 5 (by omega)).2
      exact ⟨Option.some.inj (f1.symm.trans h4), rfl, by omega⟩
  obtain ⟨rfl, hty, hu6⟩ := hcA
  generalize hH1 : H.push ({ cls := E.2.2.1 u, slots := Array.replicate n.toNatClampNeg .null, vm := .none } : Cell) = H1
  have z1 : H1.size = H.size + 1 := by rw [← hH1, Array.size_push]
  have e1 : H1[H.size]? = some (arrV (E.2.2.1 u) n.toNatClampNeg (fun _ => defaultValue (j_ety u))) := by rw [← hH1, Array.getElem?_push_size, hty]; exact congrArg some (arrV_new _ _ _)
  have o1 : ∀ q : Nat, q < H.size → H1[q]? = H[q]? := fun q hq => by rw [← hH1, Array.getElem?_push, if_neg (Nat.ne_of_lt hq)]
  have hW := js_mkA hu6 g1 z1 o1 e1
  have w' := w (by rw [jc_new]; omega) (by rw [jz_new]; omega) H1 locs ls hW (g2.make g1 (by rw [jk_new]; omega) (fun b hb => ⟨(jo_new h u _ b hb).1, (jo_new h u _ b hb).2.1⟩)) (g3.mk z1 o1) g4
  rw [List.map_cons, cv_r, e_ad_c g1] at w'
  exact W.cs (by rw [jc_new]; omega) (by rw [jz_new]; omega) w'
theorem js_aast (hk : jHk p l e0 R s m args below meth c Q E nL n0 z0 out k) (hx : p.tables.exec = Jvm.exec) (hb : c.code = cc) (hK : jKn E s) (hdg : decode cc pc = .ok (.aastore, 1)) (e : (match S with
      | v :: .int i :: va :: S => j_rv va fun a => cond (j_isr v) (if ((j_k h a = 4 ∧ (j_ov v).all (fun y => j_k h y == 15)) ∨ (j_k h a = 5 ∧ (j_ov v).all (fun y => j_k h y == 12))) ∧ j_in h a i then k (pc + 1) L S (j_sR h a i.toNatClampNeg (j_ov v)) else none) none
      | _ => none) = some out) : jG1 p l e0 R s m args below meth c Q E nL n0 z0 out pc L S h := by
  split at e
  · rename_i v i va0 S'
    obtain ⟨a, rfl, e⟩ := js_rv e
    cases v with
    | null =>
      obtain ⟨⟨hka, hin⟩, e⟩ := js_if (show (if ((j_k h a = 4 ∧ _) ∨ (j_k h a = 5 ∧ _)) ∧ j_in h a i then k (pc + 1) L S' (j_sR h a i.toNatClampNeg none) else none) = some out from e)
      obtain ⟨mo, w⟩ := hk _ _ _ _ e
      refine ⟨mo, fun a1 b1 H locs ls g1 g2 g3 g4 => ?_⟩
      obtain ⟨q, C, hkq, hq, hty⟩ : ∃ (q : Nat) (C : String), j_k h a = q ∧ (q = 4 ∨ q = 5) ∧ j_ety q = .object C := by
        rcases hka with ⟨h1, -⟩ | ⟨h1, -⟩
        · exact ⟨4, _, h1, Or.inl rfl, rfl⟩
        · exact ⟨5, _, h1, Or.inr rfl, rfl⟩
      obtain ⟨ha, -, hc⟩ := g1.arr hkq (by omega)
      have hAr := (hK.2.1 q (by omega)).1
      rw [hty] at hAr
      have hcA : jAr E h q a = arrV (E.2.2.1 q) (j_n h a) (fun j => va_rf ((j_R h a j).map (e_ad E))) := by rcases hq with rfl | rfl <;> rfl
      rw [hcA] at hc
      refine va_WaastN (C := C) hx hb hc (hAr _ _) (fun z => by cases z) (by show ¬ (i < 0 ∨ (arrV _ _ _).slots.size ≤ _); rw [arrV_size]; exact vin_of hin) rfl rfl hdg fun H1 e1 z1 o1 => ?_
      rw [← hcA] at e1
      exact w a1 b1 H1 _ ls (g1.sR hkq hq e1 z1 o1) (g2.put (h := h) (a := a) (by omega) rfl (fun b hb => rfl)) (g3.put z1 o1 (e_ad_ge ha)) g4
    | ref y =>
      obtain ⟨⟨hka, hin⟩, e⟩ := js_if (show (if ((j_k h a = 4 ∧ (j_k h y == 15) = true) ∨ (j_k h a = 5 ∧ (j_k h y == 12) = true)) ∧ j_in h a i then k (pc + 1) L S' (j_sR h a i.toNatClampNeg (some y)) else none) = some out from e)
      obtain ⟨mo, w⟩ := hk _ _ _ _ e
      refine ⟨mo, fun a1 b1 H locs ls g1 g2 g3 g4 => ?_⟩
      obtain ⟨q, ci, hkq, hq, hky, hci, hty⟩ : ∃ (q ci : Nat), j_k h a = q ∧ (q = 4 ∨ q = 5) ∧ j_k h y = 10 + ci ∧ ci < 8 ∧ j_ety q = .object (jRf ci) := by
        rcases hka with ⟨h1, h2⟩ | ⟨h1, h2⟩
        · exact ⟨4, 5, h1, Or.inl rfl, by simpa using h2, by omega, by decide +kernel⟩
        · exact ⟨5, 2, h1, Or.inr rfl, by simpa using h2, by omega, by decide +kernel⟩
      obtain ⟨ha, -, hc⟩ := g1.arr hkq (by omega)
      obtain ⟨-, -, hv⟩ := g1.obj hky (by omega)
      rw [show 10 + ci - 10 = ci by omega] at hv
      obtain ⟨cellV, v1, v2, v3, -⟩ := hv
      have hRA := (hK.2.1 q (by omega)).2
      rw [hty] at hRA
      obtain ⟨kA, comp, k1, k2, k3, -⟩ := hRA
      have hcls := (hK.1 ci hci).2
      have hcomp : comp = E.2.2.2.1 ci := Option.some.inj (k3.symm.trans hcls.1)
      subst hcomp
      obtain ⟨kC, hkC, -⟩ := id hcls.2
      have hcA : jAr E h q a = arrV (E.2.2.1 q) (j_n h a) (fun j => va_rf ((j_R h a j).map (e_ad E))) := by rcases hq with rfl | rfl <;> rfl
      rw [hcA] at hc
      refine W.aast hx hb hc (fun q h => by cases h) (fun h => by cases h) k1 k2 rfl hkC ⟨hin.1, by show _ < (arrV _ _ _).slots.size; rw [arrV_size]; exact hin.2⟩ v1 (fun q h => by rw [v3] at h; cases h) (by rw [v2]; exact hkC) (by rw [v2]; exact va_assign hcls) rfl rfl hdg fun H1 e1 z1 o1 => ?_
      rw [← hcA] at e1
      exact w a1 b1 H1 _ ls (g1.sR hkq hq e1 z1 o1) (g2.put (h := h) (a := a) (by omega) rfl (fun b hb => rfl)) (g3.put z1 o1 (e_ad_ge ha)) g4
    | _ => cases e
  · cases e
end JN
