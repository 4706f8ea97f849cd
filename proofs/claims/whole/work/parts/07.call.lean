/-! THE SMALL LOGIC, part five: what is made, calls, returns. -/
/-- a memory with one cell more: nothing in it -/
def gnw (f : Int → Int → Int) (a x : Int) : Int → Int → Int := fun a' k' => if a' = a then x else f a' k'
theorem gnw_s {f : Int → Int → Int} {a x k : Int} : gnw f a x a k = x := by
  unfold gnw
  rw [if_pos rfl]
theorem gnw_o {f : Int → Int → Int} {a x a' k : Int} (h : a' ≠ a) : gnw f a x a' k = f a' k := by
  unfold gnw
  rw [if_neg h]
def gadd (m : gM) (k : gK) : gM := (m.1 ++ [k], gnw m.2.1 m.1.length (-1), gnw m.2.2 m.1.length 0)
theorem gcell_nw {E : gE} {m : gM} {i : Nat} (k k' : gK) (hi : i < m.1.length) : gcell E (gadd m k) i k' = gcell E m i k' := by
  have e1 : ∀ j : Int, (gadd m k).2.1 i j = m.2.1 i j := fun j => gnw_o (by omega)
  have e2 : ∀ j : Int, (gadd m k).2.2 i j = m.2.2 i j := fun j => gnw_o (by omega)
  rcases k' with ci | ⟨t, n⟩
  · rw [gcell_obj, gcell_obj]
    congr 3
    funext j
    unfold gfv
    simp only [e1, e2]
  · by_cases ht : t < 2
    · rw [gcell_i _ _ _ ht, gcell_i _ _ _ ht]
      simp only [e2]
    · rw [gcell_q _ _ _ ht, gcell_q _ _ _ ht]
      simp only [e1]
theorem gws_add (E : gE) (m : gM) (k : gK) : gws E (gadd m k) = gws E m ++ [(gB E + m.1.length, gcell E (gadd m k) m.1.length k)] := by
  have hm : (gadd m k).1 = m.1 ++ [k] := rfl
  have hl : (gws E m).length = m.1.length := by unfold gws; rw [List.length_mapIdx]
  apply List.ext_getElem?
  intro i
  by_cases hi : i < m.1.length
  · rw [List.getElem?_append_left (by rw [hl]; exact hi)]
    unfold gws
    rw [List.getElem?_mapIdx, List.getElem?_mapIdx, hm, List.getElem?_append_left hi]
    cases hz : m.1[i]? with
    | none => rfl
    | some z =>
      simp only [Option.map_some]
      rw [gcell_nw k z hi]
  · rw [List.getElem?_append_right (by rw [hl]; omega), hl]
    by_cases hi2 : i = m.1.length
    · subst hi2
      unfold gws
      rw [List.getElem?_mapIdx, hm, List.getElem?_append_right (Nat.le_refl _)]
      simp
    · rw [List.getElem?_eq_none (by unfold gws; rw [List.length_mapIdx, hm, List.length_append]; simp; omega), List.getElem?_eq_none (by simp; omega)]
theorem gRg_add {m : gM} {k : gK} (h : gRg m) : gRg (gadd m k) := by
  intro a j
  by_cases ha : a = m.1.length
  · have e : (gadd m k).2.2 a j = 0 := by rw [ha]; exact gnw_s
    rw [e]
    split
    · exact ⟨by omega, by omega⟩
    · exact ⟨by omega, by omega⟩
  · have e : (gadd m k).2.2 a j = m.2.2 a j := gnw_o ha
    rw [e]
    have h1 := h a j
    by_cases h0 : a < 0
    · have e1 : gLg (gadd m k) a j = gLg m a j := by
        unfold gLg kd
        rw [if_pos h0, if_pos h0]
      rw [e1]
      exact h1
    · by_cases hl : a < m.1.length
      · have e0 : kd (gadd m k) a = kd m a := by
          unfold kd
          rw [if_neg h0, if_neg h0]
          exact List.getElem?_append_left (by omega)
        have e1 : gLg (gadd m k) a j = gLg m a j := by
          unfold gLg
          rw [e0]
        rw [e1]
        exact h1
      · have e1 : kd m a = none := by
          unfold kd
          rw [if_neg h0]
          exact List.getElem?_eq_none (by omega)
        have e2 : gLg m a j = false := by
          unfold gLg
          rw [e1]
        rw [if_neg (by rw [e2]; decide)] at h1
        split
        · exact in32_64 h1
        · exact h1
theorem gad_new {E : gE} {m : gM} (h : m.1.length < 1000000) : gad E (m.1.length : Int) = gB E + m.1.length := by
  unfold gad
  rw [if_pos (by omega), Int.toNat_natCast]
/-- the class that a constructor call makes -/
def gNew (own : String) (idx ci : Nat) : Prop := ∃ (C : String) (T : u_T) (N : Nat), gCl ci C T N ∧ Cond.classLink own idx C ∈ gWd ∧ Cond.instantiable C N ∈ gWd ∧ Cond.initialized C ∈ gWd ∧ ∀ k, k < N → gty ci k = .int ∨ gty ci k = .boolean ∨ gty ci k = .long ∨ gIsR (gty ci k) = true
section CALLS
variable {l : Launch} {E : gE} {F : gF} {pc : Nat} {ls : gL} {st : List gV} {bc bs : Nat} {m : gM}
theorem gX_new {idx ci : Nat} {a : Int} {m2 : gM} (hd : decode F.1.2.1 pc = .ok (.new idx, 3)) (hn : gNew F.1.1 idx ci) (hl : m.1.length + 1 < 1000000) (ha : a = m.1.length) (hm : m2 = gadd m (.inl ci)) (hb1 : 1 ≤ bc) (hb2 : gNn ci ≤ bs) (kk : gX l E F (pc + 3) ls (ga a :: st) m2 (bc - 1) (bs - gNn ci)) : gX l E F pc ls st m bc bs := by
  intro p e s mm args below meth c H locs lsM cells slots hc hH hS hL hst h1 h2
  subst ha
  subst hm
  obtain ⟨C, T, N, ⟨hcl, hin, hty, hnm, hN, hC⟩, w1, w2, w3, hks⟩ := hn
  have hK := hc.2.2.2.2.2.2.2.2.1.1
  have hKn := hK.1 ci _ hcl
  have hsz : H.size = gB E + m.1.length := hH.2.1
  rw [hN] at hb2
  refine W.newcK hc.1 hc.2.1 hc.2.2.2.2.1 (hc.2.2.2.2.2.1 _ w1) (hc.2.2.2.2.2.1 _ w2) (hc.2.2.2.2.2.1 _ w3) rfl hd (by omega) (by omega) hKn.2.1 hsz fun H1 kC hkC e1 z1 o1 => ?_
  have hk : ∀ (k : Nat) (x : Nat × va_E), (gws E m)[k]? = some x → H1[x.1]? = H[x.1]? := fun k x hx => o1 x.1 (by rw [← hsz]; exact (hH.1 k x hx).lt)
  have hP : va_P (E.1, E.2.1) vwCl (gws E (gadd m (.inl ci))) H1 := by
    rw [gws_add]
    refine (hH.1.kept hk).app (fun k x hx => ?_)
    have hz : k < 1 := (List.getElem?_eq_some_iff.mp hx).1
    rw [show k = 0 by omega] at hx
    cases hx
    rw [gcell_obj]
    refine ⟨_, hcl, (u_born (gty ci) hc.2.2.2.2.2.1 hin hKn hkC e1 hty).to fun j hj => ?_⟩
    have ef : vp_V ((List.range (gNn ci)).map fun j => gfv E (gadd m (.inl ci)) m.1.length j (gty ci j)) j = gfv E (gadd m (.inl ci)) m.1.length j (gty ci j) := by
      unfold vp_V
      rw [List.getD_eq_getElem?_getD, gfs_at E (gadd m (.inl ci)) m.1.length ci (by rw [hN]; exact hj)]
      rfl
    show defaultValue (gty ci j) = _
    rw [ef]
    have ev : (gadd m (.inl ci)).2.2 m.1.length j = 0 := gnw_s
    have er : (gadd m (.inl ci)).2.1 m.1.length j = -1 := gnw_s
    rcases hks j hj with h | h | h | h
    · rw [h]
      show _ = gv E (gi ((gadd m (.inl ci)).2.2 m.1.length j))
      rw [ev]; rfl
    · rw [h]
      show _ = gv E (gi ((gadd m (.inl ci)).2.2 m.1.length j))
      rw [ev]; rfl
    · rw [h]
      show _ = gv E (gl ((gadd m (.inl ci)).2.2 m.1.length j))
      rw [ev]; rfl
    · cases hg : gty ci j <;> rw [hg] at h <;> first | (show _ = gv E (ga ((gadd m (.inl ci)).2.1 m.1.length j)); rw [er, gv_n (by omega)]; rfl) | cases h
  have hkk := kk p e s mm args below meth c H1 locs lsM (cells + 1) (slots + N) hc ⟨hP, by rw [z1]; show _ = gB E + (m.1 ++ [_]).length; rw [List.length_append]; rfl, by show (m.1 ++ [_]).length < _; rw [List.length_append]; exact hl, gRg_add hH.2.2.2⟩ ⟨Nat.le_trans hS.1 (by omega), fun x g1 g2 => (o1 x (by rw [← hsz]; exact Nat.lt_of_lt_of_le g1 hS.1)).trans (hS.2.1 x g1 g2), hS.2.2⟩ hL (gst_cons (v := ga m.1.length) trivial hst) (by omega) (by omega)
  rw [List.map_cons, gv_a (by omega), gad_new (by omega)] at hkk
  exact hkk
/-- arrays of numbers: 0 int, 1 boolean -/
theorem gX_newa {atype : ArrayType} {t n : Nat} {x a : Int} {m2 : gM} (hd : decode F.1.2.1 pc = .ok (.newarray atype, 2)) (ht : (t = 0 ∧ newarray.typeOf atype = .int) ∨ (t = 1 ∧ newarray.typeOf atype = .boolean)) (hw : Cond.arrayClass (newarray.typeOf atype) ∈ gWd) (hl : m.1.length + 1 < 1000000) (hx : x = (n : Int)) (hn : n < 100000) (ha : a = m.1.length) (hm : m2 = gadd m (.inr (t, n))) (hb1 : 1 ≤ bc) (hb2 : n ≤ bs) (kk : gX l E F (pc + 2) ls (ga a :: st) m2 (bc - 1) (bs - n)) : gX l E F pc ls (gi x :: st) m bc bs := by
  intro p e s mm args below meth c H locs lsM cells slots hc hH hS hL hst h1 h2
  subst ha
  subst hm
  subst hx
  have hsz : H.size = gB E + m.1.length := hH.2.1
  have hK := hc.2.2.2.2.2.2.2.2.1.1
  have g32 : in32 (n : Int) := in32_ofNat (by omega)
  have hby : n * componentBytes (newarray.typeOf atype) ≤ 536870912 := by
    have : componentBytes (newarray.typeOf atype) ≤ 8 := by rcases ht with ⟨-, h⟩ | ⟨-, h⟩ <;> rw [h] <;> decide
    calc n * componentBytes (newarray.typeOf atype) ≤ 100000 * 8 := Nat.mul_le_mul (by omega) this
      _ ≤ _ := by decide
  refine va_newaK hc.1 hc.2.1 (hc.2.2.2.2.2.1 _ hw) rfl hd rfl (fun z => ?_) (N := n) (by rw [i32_clamp g32]; omega) hby (by omega) (by omega) hsz fun H1 cA e1 z1 o1 hAr hNm => ?_
  · rw [← i32_0, i32_lt g32 ⟨by omega, by omega⟩] at z
    omega
  have hk : ∀ (k : Nat) (y : Nat × va_E), (gws E m)[k]? = some y → H1[y.1]? = H[y.1]? := fun k y hy => o1 y.1 (by rw [← hsz]; exact (hH.1 k y hy).lt)
  have htl : t < 2 := by rcases ht with ⟨h, -⟩ | ⟨h, -⟩ <;> omega
  have hcA : cA = E.2.2.1 t := by
    rcases ht with ⟨rfl, h⟩ | ⟨rfl, h⟩
    · have h5 : s.vm.findClass ("[" ++ FieldType.int.toString) = some (E.2.2.1 0) := (hK.2 0 _ rfl).2
      rw [h] at hNm
      exact Option.some.inj (hNm.symm.trans h5)
    · have h5 : s.vm.findClass ("[" ++ FieldType.boolean.toString) = some (E.2.2.1 1) := (hK.2 1 _ rfl).2
      rw [h] at hNm
      exact Option.some.inj (hNm.symm.trans h5)
  have hP : va_P (E.1, E.2.1) vwCl (gws E (gadd m (.inr (t, n)))) H1 := by
    rw [gws_add]
    refine (hH.1.kept hk).app (fun k y hy => ?_)
    have hz : k < 1 := (List.getElem?_eq_some_iff.mp hy).1
    rw [show k = 0 by omega] at hy
    cases hy
    rw [gcell_i _ _ _ htl]
    show H1[gB E + m.1.length]? = some (vp_cell _ _)
    rw [e1, vp_cell_i, hcA]
    congr 2
    funext j
    have ev : (gadd m (.inr (t, n))).2.2 m.1.length j = 0 := gnw_s
    show defaultValue (newarray.typeOf atype) = Value.int (Int32.ofInt ((gadd m (.inr (t, n))).2.2 m.1.length j))
    rw [ev]
    rcases ht with ⟨-, h⟩ | ⟨-, h⟩ <;> rw [h] <;> rfl
  have hkk := kk p e s mm args below meth c H1 locs lsM (cells + 1) (slots + n) hc ⟨hP, by rw [z1]; show _ = gB E + (m.1 ++ [_]).length; rw [List.length_append]; rfl, by show (m.1 ++ [_]).length < _; rw [List.length_append]; exact hl, gRg_add hH.2.2.2⟩ ⟨Nat.le_trans hS.1 (by omega), fun x g1 g2 => (o1 x (by rw [← hsz]; exact Nat.lt_of_lt_of_le g1 hS.1)).trans (hS.2.1 x g1 g2), hS.2.2⟩ hL (gst_cons (v := ga m.1.length) trivial (gst_tl hst)) (by omega) (by omega)
  rw [List.map_cons, gv_a (by omega), gad_new (by omega)] at hkk
  exact hkk
theorem gX_newq {idx t n ci : Nat} {C : String} {x a : Int} {m2 : gM} (hd : decode F.1.2.1 pc = .ok (.anewarray idx, 3)) (ht : gAt t = some (C, ci)) (hw : Cond.classLink F.1.1 idx C ∈ gWd) (hl : m.1.length + 1 < 1000000) (hx : x = (n : Int)) (hn : n < 100000) (ha : a = m.1.length) (hm : m2 = gadd m (.inr (t, n))) (hb1 : 1 ≤ bc) (hb2 : n ≤ bs) (kk : gX l E F (pc + 3) ls (ga a :: st) m2 (bc - 1) (bs - n)) : gX l E F pc ls (gi x :: st) m bc bs := by
  intro p e s mm args below meth c H locs lsM cells slots hc hH hS hL hst h1 h2
  subst ha
  subst hm
  subst hx
  have hsz : H.size = gB E + m.1.length := hH.2.1
  have hK := hc.2.2.2.2.2.2.2.2.1.1
  have g32 : in32 (n : Int) := in32_ofNat (by omega)
  obtain ⟨ht2, hty, -⟩ := gAt_ty (E := E) ht
  have hov : va_AO C s := by
    match t, ht with
    | 2, ht => cases ht; exact hc.2.2.2.2.2.2.2.2.1.2.2.2.2.1
    | 3, ht => cases ht; exact hc.2.2.2.2.2.2.2.2.1.2.2.2.2.2.1
    | 4, ht => cases ht; exact hc.2.2.2.2.2.2.2.2.1.2.2.2.2.2.2
  refine W.anew hc.1 hc.2.1 hc.2.2.2.2.1 (hc.2.2.2.2.2.1 _ hw) (va_AO.use hov) rfl hd rfl (fun z => ?_) (by rw [i32_clamp g32]; omega) (by omega) (by rw [i32_clamp g32]; omega) fun cA kA comp f1 f2 f3 f4 => ?_
  · rw [← i32_0, i32_lt g32 ⟨by omega, by omega⟩] at z
    omega
  rw [i32_clamp g32, Int.toNat_natCast]
  generalize hH1 : H.push ({ cls := cA, slots := Array.replicate n .null, vm := .none } : Cell) = H1
  have z1 : H1.size = H.size + 1 := by rw [← hH1, Array.size_push]
  have e1 : H1[H.size]? = some (arrV cA n (fun _ => .null)) := by rw [← hH1, Array.getElem?_push_size, ← arrV_new]
  have o1 : ∀ q : Nat, q < H.size → H1[q]? = H[q]? := fun q hq => by rw [← hH1, Array.getElem?_push, if_neg (Nat.ne_of_lt hq)]
  have hk : ∀ (k : Nat) (y : Nat × va_E), (gws E m)[k]? = some y → H1[y.1]? = H[y.1]? := fun k y hy => o1 y.1 ((hH.1 k y hy).lt)
  have hcA : cA = E.2.2.1 t := by
    obtain ⟨kA', comp', -, -, -, k4⟩ := (hK.2 t _ hty).2
    exact Option.some.inj (f1.symm.trans k4)
  have hP : va_P (E.1, E.2.1) vwCl (gws E (gadd m (.inr (t, n)))) H1 := by
    rw [gws_add]
    refine (hH.1.kept hk).app (fun k y hy => ?_)
    have hz : k < 1 := (List.getElem?_eq_some_iff.mp hy).1
    rw [show k = 0 by omega] at hy
    cases hy
    rw [gcell_q _ _ _ ht2]
    show H1[gB E + m.1.length]? = some (vp_cell _ _)
    rw [← hsz, e1, vp_cell_q, hcA]
    congr 2
    funext j
    have er : (gadd m (.inr (t, n))).2.1 m.1.length j = -1 := gnw_s
    show Value.null = va_rf (gro E ((gadd m (.inr (t, n))).2.1 m.1.length j))
    rw [er]
    rfl
  have hkk := kk p e s mm args below meth c H1 locs lsM (cells + 1) (slots + n) hc ⟨hP, by rw [z1, hsz]; show _ = gB E + (m.1 ++ [_]).length; rw [List.length_append]; rfl, by show (m.1 ++ [_]).length < _; rw [List.length_append]; exact hl, gRg_add hH.2.2.2⟩ ⟨Nat.le_trans hS.1 (by omega), fun x g1 g2 => (o1 x (Nat.lt_of_lt_of_le g1 hS.1)).trans (hS.2.1 x g1 g2), hS.2.2⟩ hL (gst_cons (v := ga m.1.length) trivial (gst_tl hst)) (by omega) (by omega)
  rw [List.map_cons, gv_a (by omega), gad_new (by omega), ← hsz] at hkk
  exact hkk
theorem gX_objInit {idx : Nat} {a : Int} (hd : decode F.1.2.1 pc = .ok (.invokespecial idx, 3)) (hw : Cond.methodLink F.1.1 idx objectInit ∈ gWd ∧ Cond.instanceMethod objectInit ∈ gWd ∧ Cond.code objectInit ⟨#[0xb1]⟩ 1 none ∈ gWd) (ha : 0 ≤ a) (hs : (st.map gcat).sum ≤ 8) (hR : 1 ≤ F.2.1.frames ∧ 20 ≤ F.2.1.locals) (kk : gX l E F (pc + 3) ls st m bc bs) : gX l E F pc ls (ga a :: st) m bc bs := by
  intro p e s mm args below meth c H locs lsM cells slots hc hH hS hL hst h1 h2
  rw [List.map_cons, gv_a ha]
  have hsum : ((st.map (gv E)).map fun v => v.category).sum ≤ 8 := by
    rw [List.map_map]
    have : ((fun v : Value => v.category) ∘ gv E) = gcat := funext fun v => gv_cat E v
    rw [this]
    exact hs
  have hlr := lv_room (m := mm) (pc := pc) (ls := lsM) (rest := Value.ref (gad E a) :: st.map (gv E)) hsum
  exact W.objInit hc.1 hc.2.1 hc.2.2.2.2.1 (hc.2.2.2.2.2.1 _ hw.1) (hc.2.2.2.2.2.1 _ hw.2.1) (hc.2.2.2.2.2.1 _ hw.2.2) rfl (by rw [hc.2.2.2.1]; exact hL.2.1) rfl hd hR.1 (by omega) (kk p e s mm args below meth c H locs lsM cells slots hc hH hS hL (gst_tl hst) h1 h2)
/-! returns -/
variable {d : Nat} {I : gI} {Q : gQ}
theorem gX_iret {x : Int} (hd : decode (gFm E d I Q).1.2.1 pc = .ok (.ireturn, 1)) (hr : I.2.2.2.2.2.1 = some .int ∨ (I.2.2.2.2.2.1 = some .boolean ∧ (x = 0 ∨ x = 1))) (hQ : Q (some (gi x)) m) : gX l E (gFm E d I Q) pc ls [gi x] m bc bs := by
  intro p e s mm args below meth c H locs lsM cells slots hc hH hS hL hst h1 h2
  refine W.widen (k := I.2.1.1) (n := I.2.1.2) (by have : cells + bc ≤ I.2.1.1 := h1; omega) (by have : slots + bs ≤ I.2.1.2 := h2; omega) ?_
  have hret : meth.sig.returnType = I.2.2.2.2.2.1 := hc.2.2.1
  have hq : ∀ t : State, t.heap = H → s.WarmedH t.vm → gQc E Q args s (.returned (some (.int (Int32.ofInt x)))) t := fun t ht hW => ⟨some (gi x), m, rfl, fun v hv => by cases hv; exact gst_hd hst, hQ, by rw [ht]; exact hH, hS.F ht⟩
  rcases hr with hr | ⟨hr, hx⟩
  · exact W.iret (Qc := gQc E Q) hc.1 hc.2.1 (hret.trans hr) hq hS.2.2 hd hc.2.2.2.2.2.2.1
  · exact W.zret (Qc := gQc E Q) hc.1 hc.2.1 (hret.trans hr) (by rcases hx with rfl | rfl <;> rfl) hq hS.2.2 hd hc.2.2.2.2.2.2.1
theorem gX_lret {x : Int} (hd : decode (gFm E d I Q).1.2.1 pc = .ok (.lreturn, 1)) (hr : I.2.2.2.2.2.1 = some .long) (hQ : Q (some (gl x)) m) : gX l E (gFm E d I Q) pc ls [gl x] m bc bs := by
  intro p e s mm args below meth c H locs lsM cells slots hc hH hS hL hst h1 h2
  refine W.widen (k := I.2.1.1) (n := I.2.1.2) (by have : cells + bc ≤ I.2.1.1 := h1; omega) (by have : slots + bs ≤ I.2.1.2 := h2; omega) ?_
  have hret : meth.sig.returnType = I.2.2.2.2.2.1 := hc.2.2.1
  exact W.lret (Qc := gQc E Q) hc.1 hc.2.1 (hret.trans hr) (fun t ht hW => ⟨some (gl x), m, rfl, fun v hv => by cases hv; exact gst_hd hst, hQ, by rw [ht]; exact hH, hS.F ht⟩) hS.2.2 hd hc.2.2.2.2.2.2.1
theorem gX_vret (hd : decode (gFm E d I Q).1.2.1 pc = .ok (.return_, 1)) (hr : I.2.2.2.2.2.1 = none) (hQ : Q none m) : gX l E (gFm E d I Q) pc ls [] m bc bs := by
  intro p e s mm args below meth c H locs lsM cells slots hc hH hS hL hst h1 h2
  refine W.widen (k := I.2.1.1) (n := I.2.1.2) (by have : cells + bc ≤ I.2.1.1 := h1; omega) (by have : slots + bs ≤ I.2.1.2 := h2; omega) ?_
  have hret : meth.sig.returnType = I.2.2.2.2.2.1 := hc.2.2.1
  exact W.vret (Qc := gQc E Q) hc.1 hc.2.1 (hret.trans hr) (fun t ht hW => ⟨none, m, rfl, (fun v hv => by cases hv), hQ, by rw [ht]; exact hH, hS.F ht⟩) hS.2.2 hd hc.2.2.2.2.2.2.1
theorem gX_aret {a : Int} {rt : FieldType} (hd : decode (gFm E d I Q).1.2.1 pc = .ok (.areturn, 1)) (hr : I.2.2.2.2.2.1 = some rt) (hrt : gIsR rt = true) (hQ : Q (some (ga a)) m) : gX l E (gFm E d I Q) pc ls [ga a] m bc bs := by
  intro p e s mm args below meth c H locs lsM cells slots hc hH hS hL hst h1 h2
  refine W.widen (k := I.2.1.1) (n := I.2.1.2) (by have : cells + bc ≤ I.2.1.1 := h1; omega) (by have : slots + bs ≤ I.2.1.2 := h2; omega) ?_
  have hret : meth.sig.returnType = I.2.2.2.2.2.1 := hc.2.2.1
  exact W.aret (Qc := gQc E Q) (v := gv E (ga a)) hc.1 hc.2.1 (hret.trans hr) (by cases rt <;> first | exact Or.inl ⟨_, rfl⟩ | exact Or.inr ⟨_, rfl⟩ | cases hrt) (by rcases gv_ref_cat (E := E) (a := a) with ⟨q, h⟩ | h; exact Or.inr ⟨q, h⟩; exact Or.inl h) (fun t ht hW => ⟨some (ga a), m, rfl, fun v hv => by cases hv; trivial, hQ, by rw [ht]; exact hH, hS.F ht⟩) hS.2.2 hd hc.2.2.2.2.2.2.1
/-! calls -/
def gLk (own : String) (idx : Nat) (y : MethodName) : Prop := Cond.methodLink own idx y ∈ gWd ∨ ∃ host : String, Cond.methodLinkNest own idx y host ∈ lw_tbl
def gVi (I : gI) : Prop := Cond.instanceMethod I.1 ∈ gWd ∧ Cond.selects I.1.cls I.1 I.1 ∈ gWd
def gFit (F : gF) (d : Nat) (I : gI) : Prop := d + 1 ≤ F.2.1.frames ∧ 8 + (I.2.2.2.2.1 + 11) + (60 * d + 20) ≤ F.2.1.locals
theorem gFit_m {E : gE} {d : Nat} {J I : gI} {Q : gQ} (h : I.2.2.2.2.1 ≤ 41) : gFit (gFm E (d + 1) J Q) d I := ⟨Nat.le_refl _, by show _ ≤ 60 * (d + 1) + 20; omega⟩
theorem gPc_blind (E : gE) (args : List gV) (m : gM) : FrameBlind (gPc E args m) := by
  intro a U g mk h
  exact ⟨h.1, h.2.1.same rfl rfl, h.2.2.1, h.2.2.2⟩
/-- behind a call: the run of the callee, and what follows -/
theorem gX_run {p : Program} {e : Env} {s : State} {mm : MethodId} {args : Array Value} {below : List Frame} {meth : Method} {c : Code} {H : Heap} {locs : List Loc} {lsM : Array Slot} {cells slots mc ms : Nat} {rest st0 : List Value} {aa : Array Value} (hrest : rest = st.map (gv E))
    (hr : va_Run p l e F.2.1 s mm args below meth c H locs cells slots mc ms (F0 mm pc lsM st0) rest (gQc E (gNx l E F (pc + 3) ls st (bc - mc) (bs - ms)) aa) (gA E))
    (hc : gCx E F p s mm args meth c) (hS : va_S (gA E) s.heap H locs) (hL : gLR E ls lsM F.1.2.2.1) (hst : ∀ v ∈ st, gok v) (h1 : cells + bc ≤ F.2.1.cells) (h2 : slots + bs ≤ F.2.1.slots) (hb1 : mc ≤ bc) (hb2 : ms ≤ bs) :
    W p l e F.2.1 s mm args below meth c H locs cells slots (F.2.2.1 below args s) (F0 mm pc lsM st0) := by
  intro T hT X
  obtain ⟨v, st₀, t, T', L, h0, X', hLf, e1, e2, ⟨r, m', q1, q2, q3, q4, q5⟩, stp⟩ := hr T hT X
  have hv : v = r.map (gv E) := by
    simp only [Outcome.returned.injEq] at q1
    exact q1
  have hz : H.size ≤ t.heap.size := by rw [← h0]; exact q5.1
  have hkp : ∀ q : Nat, q < H.size → ¬ gA E q → t.heap[q]? = H[q]? := fun q g1 g2 => by rw [q5.2 q (by rw [h0]; exact g1) g2, h0]
  have hS' : va_S (gA E) s.heap T'.heap (locs ++ L) := by
    refine ⟨by rw [e1]; exact Nat.le_trans hS.1 hz, fun q g1 g2 => ?_, fun q hq => ?_⟩
    · rw [e1, hkp q (Nat.lt_of_lt_of_le g1 hS.1) g2]
      exact hS.2.1 q g1 g2
    · rcases List.mem_append.mp hq with g | g
      · exact hS.2.2 q g
      · exact hLf q g
  have hW : W p l e F.2.1 s mm args below meth c T'.heap (locs ++ L) (cells + mc) (slots + ms) (F.2.2.1 below args s) (F0 mm (pc + 3) lsM (v.toList ++ rest)) := by
    rw [hv, hrest]
    cases r with
    | none => exact q3 p e s mm args below meth c T'.heap (locs ++ L) lsM (cells + mc) (slots + ms) hc (by rw [e1]; exact q4) hS' hL hst (by omega) (by omega)
    | some w => exact q3 p e s mm args below meth c T'.heap (locs ++ L) lsM (cells + mc) (slots + ms) hc (by rw [e1]; exact q4) hS' hL (gst_cons (q2 w rfl) hst) (by omega) (by omega)
  obtain ⟨t2, a1, b1⟩ := hW T' rfl X'
  exact ⟨t2, stp t2 a1, b1⟩
theorem gsum {E : gE} {st : List gV} (hs : (st.map gcat).sum ≤ 8) : ((st.map (gv E)).map fun v => v.category).sum ≤ 8 := by
  rw [List.map_map]
  have : ((fun v : Value => v.category) ∘ gv E) = gcat := funext fun v => gv_cat E v
  rw [this]
  exact hs
theorem gws_words {s : State} {args : Array Value} {I : gI} {n : Nat} (hts : ∀ w ∈ gWd, w.before args s = true) (hI : gIok I n) : ∀ w ∈ (Cond.code I.1 I.2.2.2.1 I.2.2.2.2.1 I.2.2.2.2.2.1 :: gWd), ∀ (a' : Array Value) (U : State), s.WarmedH U.vm → w.before a' U = true := by
  intro w hw a' U hW
  have hw' : w ∈ gWd := by
    rcases List.mem_cons.mp hw with rfl | h
    · exact hI.2.1
    · exact h
  exact word_at hW (gWd_good hw').2 (hts w hw')
theorem gparm {I : gI} {n : Nat} (hI : gIok I n) : ∀ sig, parseMethodDescriptor I.1.desc = some sig → n = sig.parameters.length := by
  intro sig h
  have h2 := hI.2.2.2.2.1
  rw [h] at h2
  exact (Option.some.inj h2).symm
theorem gX_virt {idx n ci d' : Nat} {J : gI} {av : List gV} {a : Int} {stk : List gV} (hd : decode F.1.2.1 pc = .ok (.invokevirtual idx, 3)) (hlk : gLk F.1.1 idx J.1) (hI : gIok J n) (hvi : gVi J) (hfit : gFit F d' J) (hk : kd m a = some (.inl ci)) (hcn : (vwCl[ci]?).map (fun q => q.1) = some J.1.cls) (hn : av.length = n) (hs : (st.map gcat).sum ≤ 8) (hb1 : J.2.1.1 ≤ bc) (hb2 : J.2.1.2 ≤ bs) (hstk : stk = av.reverse ++ ga a :: st)
    (kk : gC l E d' J (ga a :: av) m (gNx l E F (pc + 3) ls st (bc - J.2.1.1) (bs - J.2.1.2))) : gX l E F pc ls stk m bc bs := by
  intro p e s mm args below meth c H locs lsM cells slots hc hH hS hL hst h1 h2
  subst hstk
  have hstT : ∀ v ∈ st, gok v := fun v hv => hst v (List.mem_append_right _ (List.mem_cons_of_mem _ hv))
  have hok : ∀ v ∈ ga a :: av, gok v := by
    intro v hv
    rcases List.mem_cons.mp hv with rfl | h
    · trivial
    · exact hst v (List.mem_append_left _ (List.mem_reverse.mpr h))
  have he := gws_get (E := E) hk hH.2.2.1
  rw [gcell_obj] at he
  obtain ⟨q, hq1, hq2⟩ : ∃ q, vwCl[ci]? = some q ∧ q.1 = J.1.cls := by
    cases hz : vwCl[ci]? with
    | none => rw [hz] at hcn; cases hcn
    | some q => rw [hz] at hcn; exact ⟨q, rfl, Option.some.inj hcn⟩
  have hrecv := va_recv hc.2.2.2.2.2.2.2.2.1.1 hH.1 hq1 he
  rw [hq2] at hrecv
  have hts := hc.2.2.2.2.2.1
  have hmap : (av.reverse ++ ga a :: st).map (gv E) = (av.map (gv E)).reverse ++ .ref (gad E a) :: st.map (gv E) := by
    rw [List.map_append, List.map_cons, List.map_reverse, gv_a (kd_pos hk)]
  rw [hmap]
  have hav : (Value.ref (gad E a) :: av.map (gv E)) = (ga a :: av).map (gv E) := by rw [List.map_cons, gv_a (kd_pos hk)]
  have hpre : ∀ U : State, U.heap = H → s.WarmedH U.vm → gPc E (ga a :: av) m (Value.ref (gad E a) :: av.map (gv E)).toArray U := fun U hU hW => ⟨by rw [hav], hc.2.2.2.2.2.2.2.2.1.warm hS hU hW, by rw [hU]; exact hH, hok⟩
  have hf : cells + J.2.1.1 ≤ F.2.1.cells ∧ slots + J.2.1.2 ≤ F.2.1.slots := ⟨by omega, by omega⟩
  rcases hlk with hlk | ⟨host, hlk⟩
  · refine gX_run rfl (va_runV (As := av.map (gv E)) (rest := st.map (gv E)) (b := gad E a) (C := J.1.cls) (n := n) (Ts := gWd) ⟨hc.1, hc.2.1, hc.2.2.2.1, hc.2.2.2.2.1, hts⟩ kk ⟨⟨rfl, rfl, hfit.1, hfit.2, gws_words hts hI, List.mem_cons_self, hts _ hI.2.1, hts _ hI.2.2.1, hI.2.2.2.1, gparm hI, hts _ hlk⟩, hts _ hvi.1, hts _ hvi.2⟩ ⟨gPc_blind E _ m, hrecv, hpre⟩ rfl (by rw [List.length_map]; exact hn) hL.2.1 rfl (lv_room (gsum hs)) hd hf) hc hS hL hstT h1 h2 hb1 hb2
  · refine gX_run rfl (va_runVN (As := av.map (gv E)) (rest := st.map (gv E)) (b := gad E a) (C := J.1.cls) (host := host) (n := n) (Ts := gWd) ⟨hc.1, hc.2.1, hc.2.2.2.1, hc.2.2.2.2.1, hts⟩ kk ⟨⟨⟨rfl, rfl, hfit.1, hfit.2, gws_words hts hI, List.mem_cons_self⟩, hts _ hI.2.1, hts _ hI.2.2.1, hI.2.2.2.1, gparm hI, va_Nw.use rfl (hc.2.2.2.2.2.2.2.2.1.2.2.2.1 _ hlk rfl)⟩, hts _ hvi.1, hts _ hvi.2⟩ ⟨gPc_blind E _ m, hrecv, hpre⟩ rfl (by rw [List.length_map]; exact hn) hL.2.1 rfl (lv_room (gsum hs)) hd hf) hc hS hL hstT h1 h2 hb1 hb2
theorem gX_stat {idx n d' : Nat} {J : gI} {av stk : List gV} (hd : decode F.1.2.1 pc = .ok (.invokestatic idx, 3)) (hlk : gLk F.1.1 idx J.1) (hI : gIok J n) (hst0 : Cond.static J.1 ∈ gWd) (hfit : gFit F d' J) (hn : av.length = n) (hs : (st.map gcat).sum ≤ 8) (hb1 : J.2.1.1 ≤ bc) (hb2 : J.2.1.2 ≤ bs) (hstk : stk = av.reverse ++ st)
    (kk : gC l E d' J av m (gNx l E F (pc + 3) ls st (bc - J.2.1.1) (bs - J.2.1.2))) : gX l E F pc ls stk m bc bs := by
  intro p e s mm args below meth c H locs lsM cells slots hc hH hS hL hst h1 h2
  subst hstk
  have hstT : ∀ v ∈ st, gok v := fun v hv => hst v (List.mem_append_right _ hv)
  have hok : ∀ v ∈ av, gok v := fun v hv => hst v (List.mem_append_left _ (List.mem_reverse.mpr hv))
  have hts := hc.2.2.2.2.2.1
  have hmap : (av.reverse ++ st).map (gv E) = (av.map (gv E)).reverse ++ st.map (gv E) := by
    rw [List.map_append, List.map_reverse]
  rw [hmap]
  have hpre : ∀ U : State, U.heap = H → s.WarmedH U.vm → gPc E av m (av.map (gv E)).toArray U := fun U hU hW => ⟨rfl, hc.2.2.2.2.2.2.2.2.1.warm hS hU hW, by rw [hU]; exact hH, hok⟩
  have hf : cells + J.2.1.1 ≤ F.2.1.cells ∧ slots + J.2.1.2 ≤ F.2.1.slots := ⟨by omega, by omega⟩
  rcases hlk with hlk | ⟨host, hlk⟩
  · refine gX_run rfl (va_runS (As := av.map (gv E)) (rest := st.map (gv E)) (n := n) (Ts := gWd) ⟨hc.1, hc.2.1, hc.2.2.2.1, hc.2.2.2.2.1, hts⟩ kk ⟨⟨rfl, rfl, hfit.1, hfit.2, gws_words hts hI, List.mem_cons_self, hts _ hI.2.1, hts _ hI.2.2.1, hI.2.2.2.1, gparm hI, hts _ hlk⟩, hts _ hst0⟩ ⟨gPc_blind E _ m, hpre⟩ rfl (by rw [List.length_map]; exact hn) hL.2.1 rfl (lv_room (gsum hs)) hd hf) hc hS hL hstT h1 h2 hb1 hb2
  · refine gX_run rfl (va_runSN (As := av.map (gv E)) (rest := st.map (gv E)) (host := host) (n := n) (Ts := gWd) ⟨hc.1, hc.2.1, hc.2.2.2.1, hc.2.2.2.2.1, hts⟩ kk ⟨⟨⟨rfl, rfl, hfit.1, hfit.2, gws_words hts hI, List.mem_cons_self⟩, hts _ hI.2.1, hts _ hI.2.2.1, hI.2.2.2.1, gparm hI, va_Nw.use rfl (hc.2.2.2.2.2.2.2.2.1.2.2.2.1 _ hlk rfl)⟩, hts _ hst0, trivial⟩ ⟨gPc_blind E _ m, hpre⟩ rfl (by rw [List.length_map]; exact hn) hL.2.1 rfl (lv_room (gsum hs)) hd hf) hc hS hL hstT h1 h2 hb1 hb2
theorem gX_init {idx n d' : Nat} {J : gI} {av : List gV} {a : Int} {stk : List gV} (hd : decode F.1.2.1 pc = .ok (.invokespecial idx, 3)) (hlk : gLk F.1.1 idx J.1) (hI : gIok J n) (hnm : J.1.name = "<init>") (hr0 : J.2.2.2.2.2.1 = none) (hin : Cond.instanceMethod J.1 ∈ gWd) (hfit : gFit F d' J) (ha : 0 ≤ a) (hn : av.length = n) (hs : (st.map gcat).sum ≤ 8) (hb1 : J.2.1.1 ≤ bc) (hb2 : J.2.1.2 ≤ bs) (hstk : stk = av.reverse ++ ga a :: st)
    (kk : gC l E d' J (ga a :: av) m (gNx l E F (pc + 3) ls st (bc - J.2.1.1) (bs - J.2.1.2))) : gX l E F pc ls stk m bc bs := by
  intro p e s mm args below meth c H locs lsM cells slots hc hH hS hL hst h1 h2
  subst hstk
  obtain ⟨y, ⟨mc, ms⟩, own, cc, nL, ret, ini⟩ := J
  cases hr0
  have hstT : ∀ v ∈ st, gok v := fun v hv => hst v (List.mem_append_right _ (List.mem_cons_of_mem _ hv))
  have hok : ∀ v ∈ ga a :: av, gok v := by
    intro v hv
    rcases List.mem_cons.mp hv with rfl | h
    · trivial
    · exact hst v (List.mem_append_left _ (List.mem_reverse.mpr h))
  have hts := hc.2.2.2.2.2.1
  have hmap : (av.reverse ++ ga a :: st).map (gv E) = (av.map (gv E)).reverse ++ .ref (gad E a) :: st.map (gv E) := by
    rw [List.map_append, List.map_cons, List.map_reverse, gv_a ha]
  rw [hmap]
  have hav : (Value.ref (gad E a) :: av.map (gv E)) = (ga a :: av).map (gv E) := by rw [List.map_cons, gv_a ha]
  have hpre : ∀ U : State, U.heap = H → s.WarmedH U.vm → gPc E (ga a :: av) m (Value.ref (gad E a) :: av.map (gv E)).toArray U := fun U hU hW => ⟨by rw [hav], hc.2.2.2.2.2.2.2.2.1.warm hS hU hW, by rw [hU]; exact hH, hok⟩
  have hf : cells + mc ≤ F.2.1.cells ∧ slots + ms ≤ F.2.1.slots := ⟨Nat.le_trans (Nat.add_le_add_left hb1 _) h1, Nat.le_trans (Nat.add_le_add_left hb2 _) h2⟩
  rcases hlk with hlk | ⟨host, hlk⟩
  · refine gX_run rfl (va_runI (As := av.map (gv E)) (rest := st.map (gv E)) (b := gad E a) (n := n) (Ts := gWd) ⟨hc.1, hc.2.1, hc.2.2.2.1, hc.2.2.2.2.1, hts⟩ kk ⟨⟨rfl, rfl, hfit.1, hfit.2, gws_words hts hI, List.mem_cons_self, hts _ hI.2.1, hts _ hI.2.2.1, hI.2.2.2.1, gparm hI, hts _ hlk⟩, hnm, hts _ hin⟩ ⟨gPc_blind E _ m, hpre⟩ rfl (by rw [List.length_map]; exact hn) hL.2.1 rfl (lv_room (gsum hs)) hd hf) hc hS hL hstT h1 h2 hb1 hb2
  · refine gX_run rfl (va_runIN (As := av.map (gv E)) (rest := st.map (gv E)) (b := gad E a) (host := host) (n := n) (Ts := gWd) ⟨hc.1, hc.2.1, hc.2.2.2.1, hc.2.2.2.2.1, hts⟩ kk ⟨⟨⟨rfl, rfl, hfit.1, hfit.2, gws_words hts hI, List.mem_cons_self⟩, hts _ hI.2.1, hts _ hI.2.2.1, hI.2.2.2.1, gparm hI, va_Nw.use rfl (hc.2.2.2.2.2.2.2.2.1.2.2.2.1 _ hlk rfl)⟩, hnm, hts _ hin⟩ ⟨gPc_blind E _ m, hpre⟩ rfl (by rw [List.length_map]; exact hn) hL.2.1 rfl (lv_room (gsum hs)) hd hf) hc hS hL hstT h1 h2 hb1 hb2
end CALLS
