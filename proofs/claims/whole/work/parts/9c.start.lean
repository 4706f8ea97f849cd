/-! The law's start. Written by wip/whole/tools/mk_start.py. -/
def stT (i : Nat) : Term := .string RX5 (gLits.getD i (0, "")).1
def flG : List Cond := flatC (Jvm.Cond.and given_1 narrow_1)
theorem st_ex : ∀ i : Fin 9, Cond.exactly (stT i) "java/lang/String" ∈ flG := by decide +kernel
theorem st_co : ∀ i : Fin 9, Cond.eq (.field (stT i) "java/lang/String" "coder" "B") (.int 0) ∈ flG := by decide +kernel
theorem st_ar : ∀ i : Fin 9, Cond.arrayOf (.field (stT i) "java/lang/String" "value" "[B") .byte ∈ flG := by decide +kernel
theorem st_le : ∀ i : Fin 9, Cond.eq (.length (.field (stT i) "java/lang/String" "value" "[B")) (.int (Int32.ofNat (gLen.getD i 0))) ∈ flG := by decide +kernel
theorem st_el : ∀ i : Fin 9, ∀ j : Fin 7, (j : Nat) < gLen.getD i 0 → Cond.eq (.elem (.field (stT i) "java/lang/String" "value" "[B") (.int (Int32.ofNat j))) (.int ((gByt.getD i []).getD j 0)) ∈ flG := by decide +kernel
theorem st_ne : ∀ i j : Fin 9, i ≠ j → Cond.not (Cond.eq (stT i) (stT j)) ∈ flG ∨ Cond.not (Cond.eq (stT j) (stT i)) ∈ flG := by decide +kernel
theorem st_n7 : ∀ i : Fin 9, gLen.getD i 0 ≤ 7 := by decide +kernel
theorem st_rf : ∀ i : Fin 9, Cond.stringRef RX5 (gLits.getD i (0, "")).1 (gLits.getD i (0, "")).2 ∈ lw_tbl := by decide +kernel
theorem st_cs : Cond.eq (.static "java/lang/String" "COMPACT_STRINGS" "Z") (.int 1) ∈ flG := by decide +kernel
theorem st_fm : Cond.isRef (.static "jdk/internal/util/Preconditions" "SIOOBE_FORMATTER" "Ljava/util/function/BiFunction;") ∈ flG := by decide +kernel
theorem st_nest : ∀ w ∈ lw_tbl, gNest w = true → w.onTables = true := by
  intro w _ h
  cases w <;> first | rfl | exact absurd h Bool.false_ne_true
/-- a class of the law's -/
theorem st_cl {s : State} {args : Array Value} {ci N : Nat} {C : String} {T : u_T} (h : gCl ci C T N) (hW : ∀ w ∈ gWd, w.before args s = true) (hi : (Cond.instantiable C N).before args s = true) : ∃ (cC : ClassId) (iS : Nat → Nat), u_Kn s C T N cC iS := u_known hW h.2.1 hi
theorem st_arr {s : State} {args : Array Value} {ty : FieldType} (hty : ty = .int ∨ ty = .boolean) (h : (Cond.arrayClass ty).before args s = true) : ∃ cA : ClassId, ArrOfT s cA ty ∧ va_RA s cA ty := by
  obtain ⟨cA, kA, comp, h1, h2, h3⟩ := Cond.arrayClass_spec h
  refine ⟨cA, fun n z => ⟨fun k h => (by cases h), kA, h2, comp, h3⟩, ?_⟩
  rcases hty with rfl | rfl
  · exact h1
  · exact h1
theorem st_aro {s : State} {args : Array Value} {C : String} (h : (Cond.arrayOver (.object C)).before args s = true) : ∃ cA : ClassId, ArrOfT s cA (.object C) ∧ va_RA s cA (.object C) := by
  obtain ⟨comp, cA, kA, h1, h2, h3, h4, h5⟩ := Cond.arrayOver_spec h
  exact ⟨cA, fun n z => ⟨fun k h => (by cases h), kA, h3, comp, h4⟩, kA, comp, h3, h4, h1, h5⟩
theorem st_k {s : State} {b : Nat} (hts : ∀ w ∈ lw_tbl, w.before #[Value.ref b] s = true) : ∃ (dC : Nat → ClassId) (dI : Nat → Nat → Nat), ∀ (k : Nat) (q : vw_C), vwCl[k]? = some q → u_Kn s q.1 q.2.1 q.2.2 (dC k) (dI k) := by
  have hW : ∀ w ∈ gWd, w.before #[Value.ref b] s = true := fun w hw => hts w (gWd_good hw).1
  obtain ⟨c0, i0, h0⟩ := st_cl (args := #[Value.ref b]) gcl_0 hW (hts (.instantiable RX0 3) (by decide +kernel))
  obtain ⟨c1, i1, h1⟩ := st_cl (args := #[Value.ref b]) gcl_1 hW (hts (.instantiable RX1 8) (by decide +kernel))
  obtain ⟨c2, i2, h2⟩ := st_cl (args := #[Value.ref b]) gcl_2 hW (hts (.instantiable RX2 3) (by decide +kernel))
  obtain ⟨c3, i3, h3⟩ := st_cl (args := #[Value.ref b]) gcl_3 hW (hts (.instantiable RX3 6) (by decide +kernel))
  obtain ⟨c4, i4, h4⟩ := st_cl (args := #[Value.ref b]) gcl_4 hW (hts (.instantiable RX4 6) (by decide +kernel))
  obtain ⟨c5, i5, h5⟩ := st_cl (args := #[Value.ref b]) gcl_5 hW (hts (.instantiable RX6 2) (by decide +kernel))
  obtain ⟨c6, i6, h6⟩ := st_cl (args := #[Value.ref b]) gcl_6 hW (hts (.instantiable RX7 1) (by decide +kernel))
  obtain ⟨c7, i7, h7⟩ := st_cl (args := #[Value.ref b]) gcl_7 hW (hts (.instantiable RX8 5) (by decide +kernel))
  obtain ⟨c8, i8, h8⟩ := st_cl (args := #[Value.ref b]) gcl_8 hW (hts (.instantiable RX9 3) (by decide +kernel))
  obtain ⟨c9, i9, h9⟩ := st_cl (args := #[Value.ref b]) gcl_9 hW (hts (.instantiable RX10 6) (by decide +kernel))
  obtain ⟨c10, i10, h10⟩ := st_cl (args := #[Value.ref b]) gcl_10 hW (hts (.instantiable RX11 12) (by decide +kernel))
  obtain ⟨c11, i11, h11⟩ := st_cl (args := #[Value.ref b]) gcl_11 hW (hts (.instantiable RX12 65) (by decide +kernel))
  refine ⟨fun k => if k = 0 then c0 else if k = 1 then c1 else if k = 2 then c2 else if k = 3 then c3 else if k = 4 then c4 else if k = 5 then c5 else if k = 6 then c6 else if k = 7 then c7 else if k = 8 then c8 else if k = 9 then c9 else if k = 10 then c10 else c11, fun k => if k = 0 then i0 else if k = 1 then i1 else if k = 2 then i2 else if k = 3 then i3 else if k = 4 then i4 else if k = 5 then i5 else if k = 6 then i6 else if k = 7 then i7 else if k = 8 then i8 else if k = 9 then i9 else if k = 10 then i10 else i11, ?_⟩
  intro k q hq
  match k, hq with
  | 0, hq => cases hq; exact h0
  | 1, hq => cases hq; exact h1
  | 2, hq => cases hq; exact h2
  | 3, hq => cases hq; exact h3
  | 4, hq => cases hq; exact h4
  | 5, hq => cases hq; exact h5
  | 6, hq => cases hq; exact h6
  | 7, hq => cases hq; exact h7
  | 8, hq => cases hq; exact h8
  | 9, hq => cases hq; exact h9
  | 10, hq => cases hq; exact h10
  | 11, hq => cases hq; exact h11
  | k + 12, hq => exact absurd (List.getElem?_eq_some_iff.mp hq).1 (by simp [vwCl])
theorem st_a {s : State} {b : Nat} (hts : ∀ w ∈ lw_tbl, w.before #[Value.ref b] s = true) : ∃ aC : Nat → ClassId, (ArrOfT s (aC 0) .int ∧ va_RA s (aC 0) .int) ∧ (ArrOfT s (aC 1) .boolean ∧ va_RA s (aC 1) .boolean) ∧ (ArrOfT s (aC 2) (.object RX1) ∧ va_RA s (aC 2) (.object RX1)) ∧ (ArrOfT s (aC 3) (.object RX4) ∧ va_RA s (aC 3) (.object RX4)) ∧ (ArrOfT s (aC 4) (.object RX3) ∧ va_RA s (aC 4) (.object RX3)) := by
  obtain ⟨a0, h0⟩ := st_arr (args := #[Value.ref b]) (ty := .int) (Or.inl rfl) (hts _ (by decide +kernel))
  obtain ⟨a1, h1⟩ := st_arr (args := #[Value.ref b]) (ty := .boolean) (Or.inr rfl) (hts _ (by decide +kernel))
  obtain ⟨a2, h2⟩ := st_aro (args := #[Value.ref b]) (C := RX1) (hts _ (by decide +kernel))
  obtain ⟨a3, h3⟩ := st_aro (args := #[Value.ref b]) (C := RX4) (hts _ (by decide +kernel))
  obtain ⟨a4, h4⟩ := st_aro (args := #[Value.ref b]) (C := RX3) (hts _ (by decide +kernel))
  exact ⟨fun k => if k = 0 then a0 else if k = 1 then a1 else if k = 2 then a2 else if k = 3 then a3 else a4, h0, h1, h2, h3, h4⟩
theorem st_s {s : State} {b : Nat} {A : Nat → Prop} (hgv : (Jvm.Cond.and given_1 narrow_1).before #[Value.ref b] s = true) (hA : ∀ a : Nat, a < s.heap.size → ¬ A a) : ∃ adK adV : Nat → Nat, vk_S 9 gLen gByt adK adV A s s.heap ∧ ∀ i : Nat, i < 9 → (stT i).eval #[Value.ref b] s none [] s = some (.ref (adK i)) := by
  have hf : ∀ c ∈ flG, c.before #[Value.ref b] s = true := flat_of_before _ hgv
  refine vk_Sof (tm := stT) (fun i hi => ?_) (fun i hi => hf _ (st_ex ⟨i, hi⟩)) (fun i hi => hf _ (st_co ⟨i, hi⟩)) (fun i hi => hf _ (st_ar ⟨i, hi⟩)) (fun i hi => hf _ (st_le ⟨i, hi⟩)) (fun i hi j hj => ?_) (fun i j hi hj hne => ?_) hA
  · have := st_n7 ⟨i, hi⟩
    exact Nat.lt_of_le_of_lt this (by decide)
  · have h7 := st_n7 ⟨i, hi⟩
    exact hf _ (st_el ⟨i, hi⟩ ⟨j, Nat.lt_of_lt_of_le hj h7⟩ hj)
  · rcases st_ne ⟨i, hi⟩ ⟨j, hj⟩ (fun z => hne (congrArg Fin.val z)) with z | z
    · exact Or.inl (hf _ z)
    · exact Or.inr (hf _ z)
/-- from the entry, for every script of at most 2560 ints, the law comes to its end with true -/
theorem whole_start {p : Program} {e : Env} {s : State} {m : MethodId} {below : List Frame} {meth : Method} {c : Code} (l : Launch) {b L : Nat} {xs : Nat → Int32} (hL : L ≤ 2560) (C0 : lw_At p s m meth c b L xs) : W p l e room_1 s m #[Value.ref b] below meth c s.heap [] 0 0 (lw_Z below #[Value.ref b] s) (entryFrame m ([Value.ref b] : List Value).toArray 4) := by
  obtain ⟨hx, hb, hr, hml, hown, hts, hX, hbl, hlocks, hgv⟩ := C0
  have hf : ∀ c ∈ flG, c.before #[Value.ref b] s = true := flat_of_before _ hgv
  have hA : ∀ a : Nat, a < s.heap.size → ¬ (s.heap.size ≤ a) := fun a h => Nat.not_le.mpr h
  obtain ⟨dC, dI, hK⟩ := st_k hts
  obtain ⟨aC, k0, k1, k2, k3, k4⟩ := st_a hts
  obtain ⟨adK, adV, hS, hT⟩ := st_s (A := fun q => s.heap.size ≤ q) hgv hA
  have hZ := va_Zof (A := fun q => s.heap.size ≤ q) (hts (.laysStatic "java/lang/String" "COMPACT_STRINGS" "Z") (by decide +kernel)) (hts (.initialized "java/lang/String") (by decide +kernel)) (va_eqi (hf _ st_cs)) hA
  have hQ := va_Zqof (A := fun q => s.heap.size ≤ q) (hts (.laysStatic "jdk/internal/util/Preconditions" "SIOOBE_FORMATTER" "Ljava/util/function/BiFunction;") (by decide +kernel)) (hts (.initialized "jdk/internal/util/Preconditions") (by decide +kernel)) (hf _ st_fm) hA
  obtain ⟨fm, hfm⟩ : ∃ fm : Nat, va_Z "jdk/internal/util/Preconditions" "SIOOBE_FORMATTER" "Ljava/util/function/BiFunction;" .null (fun q => s.heap.size ≤ q) s s.heap ∨ va_Z "jdk/internal/util/Preconditions" "SIOOBE_FORMATTER" "Ljava/util/function/BiFunction;" (.ref fm) (fun q => s.heap.size ≤ q) s s.heap := by
    rcases hQ with z | ⟨t, z⟩
    · exact ⟨0, Or.inl z⟩
    · exact ⟨t, Or.inr z⟩
  let adW : Nat → Nat := fun j => if j = 9 then fm else if j = 10 then b else adV j
  let E : gE := (dC, dI, aC, s.heap.size, adK, adW)
  have eW : ∀ j : Nat, j < 9 → adW j = adV j := fun j hj => by
    show (if j = 9 then fm else if j = 10 then b else adV j) = adV j
    rw [if_neg (by omega), if_neg (by omega)]
  have hStr : gStr E s := by
    refine ⟨⟨fun i hi => ?_, hS.2⟩, fun i k tx hi => ?_, hZ, hfm⟩
    · have z := hS.1 i hi
      rw [← eW i hi] at z
      exact z
    · have h9 : i < 9 := (List.getElem?_eq_some_iff.mp hi).1
      have eg : gLits.getD i (0, "") = (k, tx) := by rw [List.getD_eq_getElem?_getD, hi]; rfl
      have r1 := hts _ (st_rf ⟨i, h9⟩)
      have r2 := hT i h9
      unfold stT at r2
      have r1 : (Cond.stringRef RX5 (gLits.getD i (0, "")).1 (gLits.getD i (0, "")).2).before #[Value.ref b] s = true := r1
      rw [eg] at r1 r2
      exact vk_R.of r1 r2
  have hR : gRs E s := by
    refine ⟨⟨hK, fun k q hq => ?_⟩, Nat.le_refl _, hStr, fun w hw hn => va_Nw.of (st_nest w hw hn) (hts w hw), va_AO.of (hts (.arrayOver (.object RX1)) (by decide +kernel)), va_AO.of (hts (.arrayOver (.object RX4)) (by decide +kernel)), va_AO.of (hts (.arrayOver (.object RX3)) (by decide +kernel))⟩
    match k, hq with
    | 0, hq => cases hq; exact k0
    | 1, hq => cases hq; exact k1
    | 2, hq => cases hq; exact k2
    | 3, hq => cases hq; exact k3
    | 4, hq => cases hq; exact k4
    | k + 5, hq => exact absurd (List.getElem?_eq_some_iff.mp hq).1 (by simp [gtys])
  have hEb : lwE E b := ⟨rfl, hbl⟩
  have hg := lw_gx (l := l) (xs := xs) (R0 := fun _ _ => 0) (V0 := fun _ _ => 0) hEb hL
  rw [lg_entry_eq]
  have hsl : (lg_sl [Value.ref b]).length ≤ 4 := Nat.le_of_ble_eq_true rfl
  have hle := lv_entry [Value.ref b] (n := 4) hsl
  refine hg p e s m #[Value.ref b] below meth c s.heap [] _ 0 0 ⟨hx, hb, hr, hml, hown, fun w hw => hts w (gWd_good hw).1, hlocks, fun h => (by cases h), hR, hX, Nat.le_refl _, hbl⟩ ⟨fun k q h => (by cases h), rfl, by decide, fun a k => ?_⟩ va_S.rf ⟨rfl, hle.1, hle.2.1, fun i v hi => ?_⟩ (fun v h => by cases h) (show 0 + 600000 ≤ 600000 from Nat.le_refl _) (show 0 + 7302250 ≤ 7302250 from Nat.le_refl _)
  · by_cases z : gLg (([], fun _ _ => 0, fun _ _ => 0) : gM) a k = true
    · rw [if_pos z]; show in64 0; exact ⟨by decide, by decide⟩
    · rw [if_neg z]; show in32 0; exact ⟨by decide, by decide⟩
  · match i, hi with
    | 0, hi =>
      cases hi
      refine ⟨?_, trivial⟩
      rw [hEb.ad]
      exact hle.2.2 (0, Value.ref b) (by simp [lv_args])
    | 1, hi => cases hi
    | 2, hi => cases hi
    | 3, hi => cases hi
    | k + 4, hi => exact absurd (List.getElem?_eq_some_iff.mp hi).1 (by simp)
set_option maxHeartbeats 4000000 in
theorem lw_walk (l : Launch) (b : Addr) (xs : List Int32) : MetFree l x (headSpec (Jvm.Cond.code x code maxLocals ret :: tables_1) room_1) (lw_P b xs) (fun _ _ _ _ _ => True) lw_Q := by
  refine MetFree.of_bodyS (code := code) (maxLocals := maxLocals) (ret := ret) (by decide) ?_ ?_
  · intro args s m h hn
    obtain ⟨meth, c, h1, h2, h3, h4, h5, h6, -, -⟩ := Cond.code_spec hn (atoms_spec (ws := Jvm.Cond.code x code maxLocals ret :: tables_1) h _ List.mem_cons_self)
    exact ⟨meth, c, h1, h2, h3, h4, h5, h6⟩
  · intro p e s m args below meth c s₁ B hml0 hP _
    obtain ⟨rfl, hx, hbd, hgv⟩ := hP
    obtain ⟨scr, harrAt, hlist, hof, hsmall⟩ := hx
    obtain ⟨hcb, hkn, -, -⟩ := State.arrayAt?_spec harrAt
    have hown : s.vm.findClass R_law = some m.cls := findClass_of_methodNamed B.named
    have hts0 : ∀ c ∈ (Jvm.Cond.code x code maxLocals ret :: tables_1), c.before #[Value.ref b] s = true := atoms_spec (ws := Jvm.Cond.code x code maxLocals ret :: tables_1) B.pre
    have hts : ∀ w ∈ lw_tbl, w.before #[Value.ref b] s = true := k2_hts_sels lw_privs (fun w hw => hts0 w (List.mem_cons_of_mem _ hw)) lw_privs_ok
    have hml : c.maxLocals = 4 := B.maxLocals_eq (hts0 _ List.mem_cons_self)
    have X₀ : Stand p l e room_1 s m #[Value.ref b] below meth c s₁ [] 0 0 := Stand.of_body B
    have hh0 : s₁.heap = s.heap := by rw [B.state]; rfl
    have hsz : scr.slots.size = xs.length := by rw [← Array.length_toList, hlist, List.length_map]
    have hval : ∀ j : Nat, j < xs.length → scr.slots[j]? = some (.int (xs.getD j 0)) := fun j hj => by
      rw [← Array.getElem?_toList, hlist]
      simp [hj]
    have hbl : b < s.heap.size := (Array.getElem?_eq_some_iff.mp hcb).1
    have hX : va_X b xs.length (fun j => xs.getD j 0) s s.heap := ⟨scr, hcb, hof, hkn, hsz, hval⟩
    have K : W p l e room_1 s m #[Value.ref b] below meth c s₁.heap [] 0 0 (lw_Z below #[Value.ref b] s) (entryFrame m ([Value.ref b] : List Value).toArray 4) := by
      rw [hh0]
      exact whole_start l hbd ⟨B.exec, B.bytes, B.returns, hml, hown, hts, hX, hbl, B.notSynchronized, hgv⟩
    obtain ⟨t, a1, o, b1, b2, b3⟩ := K s₁ rfl X₀
    exact ⟨t, o, a1, b1, b2, b3⟩
theorem lw_pre_spec {args : Array Value} {s : State} (h : (Jvm.Cond.and given_1 narrow_1).before args s = true) (hr : rest_1_c.before args s = true) : ∃ (b : Addr) (xs : List Int32), lw_P b xs args s := by
  have hs := flat_of_before _ h
  have hq := flat_of_before _ hr
  have hc : (Cond.count 1).before args s = true := hs _ (by decide +kernel)
  have harr : (Cond.arrayOf (.arg 0) .int).before args s = true := hs _ (by decide +kernel)
  have hle : (Cond.le (.length (.arg 0)) (.int 2560)).before args s = true := hs _ (by decide +kernel)
  have hlen : (Cond.isInt (.length (.arg 0))).before args s = true := hq _ (by decide +kernel)
  have hall : (Cond.all (.arg 0) (.isInt (.elem (.arg 0) (.index 0)))).before args s = true := hq _ (by decide +kernel)
  obtain ⟨b, xs, hb, hx⟩ := State.ints_of_pre rfl harr hlen hall
  have hsm : xs.length < 2 ^ 31 := hx.choose_spec.2.2.2
  have hev : (Term.length (.arg 0)).eval args s none [] s = some (.int xs.length.toInt32) := hx.length_eval hb
  have hv := Cond.le_ints hev (show (Term.int 2560).eval args s none [] s = some (.int 2560) from rfl)
  have hd : xs.length.toInt32 ≤ 2560 := by
    simpa [Cond.before, Cond.holds, hv] using hle
  have hN : xs.length ≤ 2560 := (Int32.ofNat_le_ofNat hsm (by decide)).mp (show Int32.ofNat xs.length ≤ Int32.ofNat 2560 from hd)
  exact ⟨b, xs, Cond.one_arg hc (show args[0]? = some (.ref b) from hb), hx, hN, h⟩
theorem lw_comes (l : Launch) : Comes l x (Jvm.Cond.code x code maxLocals ret :: tables_1) room_1 (fun tb e args s => Calls_1 tb e args s ∧ rest_1 tb e args s ∧ Pre_1 tb e args s)
    (fun _ _ args s o t => lw_Q args s o t) := by
  intro p e ha hc hk s m args below hf hfit hheap happ hpre
  obtain ⟨b, xs, hP⟩ := lw_pre_spec hpre.2.2 hpre.2.1
  obtain ⟨k, o, h1, h2, h3, hQ⟩ := lw_walk l b xs p e ha hc hk s m args below hf ((Spec.applies_iff_loose hf).mp happ).1 hP trivial
  exact ⟨k, o, h1, h2, h3, hQ⟩
theorem lw_frame {s t : State} {o : Outcome} {args : Array Value} (h : Framed s o t [] 600000 7302250) :
    Framed s o t (fieldLocs frame_1_writes args s ++ arrayLocs frame_1_arrays args s ++ staticLocs frame_1_statics s) 600000 7302250 := h
theorem lw_limb (L : Cond) (hL : ∀ (args : Array Value) (s t : State), L.after args s (.returned (some (.int 1))) t = true) :
    ArmFor flags0 classFile x code maxLocals ret World_1 tables_1 room_1 Calls_1 rest_1 Pre_1
      (fun tb e a s o t => postC L tb e a s o t ∧ Framed s o t (fieldLocs frame_1_writes a s ++ arrayLocs frame_1_arrays a s ++ staticLocs frame_1_statics s) 600000 7302250) := by
  intro l _ _ _ p e ha hc hk s m args below hf hfit hheap happ hpre
  obtain ⟨k, o, h1, h2, h3, rfl, hF⟩ := lw_comes l p e ha hc hk s m args below hf hfit hheap happ hpre
  exact ⟨k, _, h1, h2, h3, hL args s _, lw_frame hF⟩
theorem i_vc : Claimed_1_1 ∧ Claimed_1_2 := ⟨lw_limb limb_1_1 (fun args s t => by simp [limb_1_1, Cond.after, Cond.holds, Cond.value]), lw_limb limb_1_2 (fun args s t => Cond.after_iff.mpr (by
  first | (rw [show limb_1_2 = Cond.eq .result (.int 1) from rfl, Cond.eq_ints (x := 1) (y := 1) rfl rfl]; simp; done) | (simp [limb_1_2, Cond.value, Term.eval]; done)))⟩
