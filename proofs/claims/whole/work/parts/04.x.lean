/-! THE SMALL LOGIC, part two: the judgement gX (from here on, with these locals, this stack, this memory, the frame comes to its end as it should) and gC (a method's contract). -/
def gtys (E : gE) : List (ClassId × FieldType) := [(E.2.2.1 0, .int), (E.2.2.1 1, .boolean), (E.2.2.1 2, .object RX1), (E.2.2.1 3, .object RX4), (E.2.2.1 4, .object RX3)]
def gLits : List (Nat × String) := [(66, "for"), (68, "skip"), (70, "turn"), (72, "into"), (74, "drop"), (76, "move"), (120, "ahead"), (122, "behind"), (124, "instead")]
def gLen : List Nat := [3, 4, 4, 4, 4, 4, 5, 6, 7]
def gByt : List (List Int32) := [[102, 111, 114], [115, 107, 105, 112], [116, 117, 114, 110], [105, 110, 116, 111], [100, 114, 111, 112], [109, 111, 118, 101], [97, 104, 101, 97, 100], [98, 101, 104, 105, 110, 100], [105, 110, 115, 116, 101, 97, 100]]
def gFmt (E : gE) (s : State) : Prop := va_Z "jdk/internal/util/Preconditions" "SIOOBE_FORMATTER" "Ljava/util/function/BiFunction;" .null (gA E) s s.heap ∨ va_Z "jdk/internal/util/Preconditions" "SIOOBE_FORMATTER" "Ljava/util/function/BiFunction;" (.ref (E.2.2.2.2.2 9)) (gA E) s s.heap
def gStr (E : gE) (s : State) : Prop := vk_S 9 gLen gByt E.2.2.2.2.1 E.2.2.2.2.2 (gA E) s s.heap ∧ (∀ (i k : Nat) (tx : String), gLits[i]? = some (k, tx) → vk_R RX5 k tx (E.2.2.2.2.1 i) s) ∧ va_Z "java/lang/String" "COMPACT_STRINGS" "Z" (.int 1) (gA E) s s.heap ∧ gFmt E s
def gNest : Cond → Bool
  | .fieldLinkNest .. => true
  | .methodLinkNest .. => true
  | _ => false
def gRs (E : gE) (s : State) : Prop := va_K (E.1, E.2.1) vwCl (gtys E) s ∧ gB E ≤ s.heap.size ∧ gStr E s ∧ (∀ w ∈ lw_tbl, gNest w = true → va_Nw w s) ∧ va_AO RX1 s ∧ va_AO RX4 s ∧ va_AO RX3 s
theorem gNs_warm {s U : State} (hW : s.WarmedH U.vm) (h : ∀ w ∈ lw_tbl, gNest w = true → va_Nw w s) : ∀ w ∈ lw_tbl, gNest w = true → va_Nw w U := by
  intro w hw hg
  have h1 := h w hw hg
  cases w <;> first | exact absurd hg Bool.false_ne_true | exact va_Nw.warmF hW h1 | exact va_Nw.warmM hW h1
theorem gNs_same {s U : State} (hv : s.vm = U.vm) (h : ∀ w ∈ lw_tbl, gNest w = true → va_Nw w s) : ∀ w ∈ lw_tbl, gNest w = true → va_Nw w U := by
  intro w hw hg
  have h1 := h w hw hg
  cases w <;> first | exact absurd hg Bool.false_ne_true | exact va_Nw.same rfl hv h1
theorem gRs.warm {E : gE} {s U : State} {H : Heap} {locs : List Loc} (h : gRs E s) (hS : va_S (gA E) s.heap H locs) (hU : U.heap = H) (hW : s.WarmedH U.vm) : gRs E U := by
  obtain ⟨h1, h2, ⟨h3, h4, h5, h10⟩, h6, h7, h8, h9⟩ := h
  subst hU
  exact ⟨va_K.moved hW.alike h1, Nat.le_trans h2 hS.1, ⟨(h3.kept hS.2.1).moved hW.alike, fun i k tx hi => vk_R.warm hW (h4 i k tx hi), (h5.kept hS.2.1).moved hW.alike, h10.imp (fun z => (z.kept hS.2.1).moved hW.alike) (fun z => (z.kept hS.2.1).moved hW.alike)⟩, gNs_warm hW h6, h7.moved hW.alike, h8.moved hW.alike, h9.moved hW.alike⟩
theorem gRs.same {E : gE} {u U : State} (h : gRs E u) (hv : U.vm = u.vm) (hh : U.heap = u.heap) : gRs E U := by
  obtain ⟨h1, h2, ⟨h3, h4, h5, h10⟩, h6, h7, h8, h9⟩ := h
  have ha : u.vm.Alike U.vm := by rw [hv]; exact Vm.Alike.refl _
  refine ⟨va_K.moved ha h1, by rw [hh]; exact h2, ⟨?_, fun i k tx hi => vk_R.same hv (h4 i k tx hi), ?_, ?_⟩, gNs_same hv.symm h6, h7.moved ha, h8.moved ha, h9.moved ha⟩
  · rw [hh]; exact h3.moved ha
  · rw [hh]; exact h5.moved ha
  · unfold gFmt; rw [hh]; exact h10.imp (fun z => z.moved ha) (fun z => z.moved ha)
-- frames
/-- the class, the code, its locals, what it returns, is it a constructor -/
abbrev gJ : Type := String × ByteArray × Nat × Option FieldType × Bool
abbrev gF : Type := gJ × Room × (List Frame → Array Value → State → State → Prop) × (State → Prop)
abbrev gQ : Type := Option gV → gM → Prop
/-- a method: its name, how many cells and fields it makes, its frame -/
abbrev gI : Type := MethodName × (Nat × Nat) × gJ
def gCx (E : gE) (F : gF) (p : Program) (s : State) (mm : MethodId) (args : Array Value) (meth : Method) (c : Code) : Prop :=
  p.tables.exec = Jvm.exec ∧ c.code = F.1.2.1 ∧ meth.sig.returnType = F.1.2.2.2.1 ∧ c.maxLocals = F.1.2.2.1 ∧ s.vm.findClass F.1.1 = some mm.cls ∧ (∀ w ∈ gWd, w.before args s = true) ∧ meth.locks = false ∧ (F.1.2.2.2.2 = true → meth.name = "<init>") ∧ gRs E s ∧ F.2.2.2 s
def gLR (E : gE) (ls : gL) (lsM : Array Slot) (nL : Nat) : Prop := ls.length = nL ∧ lsM.size = nL ∧ lv_wf lsM ∧ ∀ (i : Nat) (v : gV), ls[i]? = some (some v) → lsM[i]? = some (.val (gv E v)) ∧ gok v
def gX (l : Launch) (E : gE) (F : gF) (pc : Nat) (ls : gL) (st : List gV) (m : gM) (bc bs : Nat) : Prop :=
  ∀ (p : Program) (e : Env) (s : State) (mm : MethodId) (args : Array Value) (below : List Frame) (meth : Method) (c : Code) (H : Heap) (locs : List Loc) (lsM : Array Slot) (cells slots : Nat),
    gCx E F p s mm args meth c → gH E m H → va_S (gA E) s.heap H locs → gLR E ls lsM F.1.2.2.1 → (∀ v ∈ st, gok v) → cells + bc ≤ F.2.1.cells → slots + bs ≤ F.2.1.slots →
    W p l e F.2.1 s mm args below meth c H locs cells slots (F.2.2.1 below args s) (F0 mm pc lsM (st.map (gv E)))
/-- behind a call -/
def gNx (l : Launch) (E : gE) (F : gF) (pc : Nat) (ls : gL) (st : List gV) (bc bs : Nat) : gQ := fun r m => match r with
  | some v => gX l E F pc ls (v :: st) m bc bs
  | none => gX l E F pc ls st m bc bs
def gRm (d mc ms : Nat) : Room := { frames := d, cells := mc, slots := ms, locals := 60 * d + 20 }
def gPc (E : gE) (args : List gV) (m : gM) : Array Value → State → Prop := fun a U => a = (args.map (gv E)).toArray ∧ gRs E U ∧ gH E m U.heap ∧ ∀ v ∈ args, gok v
def gQc (E : gE) (Q : gQ) : Array Value → State → Outcome → State → Prop := fun _ st o t => ∃ (r : Option gV) (m : gM), o = .returned (r.map (gv E)) ∧ (∀ v, r = some v → gok v) ∧ Q r m ∧ gH E m t.heap ∧ va_F (gA E) st t
def gC (l : Launch) (E : gE) (d : Nat) (I : gI) (args : List gV) (m : gM) (Q : gQ) : Prop :=
  Met l I.1 (Cond.code I.1 I.2.2.2.1 I.2.2.2.2.1 I.2.2.2.2.2.1 :: gWd) (gRm d I.2.1.1 I.2.1.2) (gPc E args m) (gQc E Q) I.2.1.1 I.2.1.2 (gA E)
def gFm (E : gE) (d : Nat) (I : gI) (Q : gQ) : gF := (I.2.2, gRm d I.2.1.1 I.2.1.2, fun below args s => MQ below (gQc E Q) args s I.2.1.1 I.2.1.2 (gA E), fun _ => True)
/-- locals at a method's start -/
def gEn : List gV → gL
  | [] => []
  | .inr (.inl x) :: vs => some (.inr (.inl x)) :: none :: gEn vs
  | v :: vs => some v :: gEn vs
theorem gEn_at (E : gE) : ∀ (vs : List gV) (i : Nat) (v : gV) (o : Nat), (gEn vs)[i]? = some (some v) → (o + i, gv E v) ∈ lv_args o (vs.map (gv E)) ∧ v ∈ vs := by
  intro vs
  induction vs with
  | nil => intro i v o h; simp [gEn] at h
  | cons a vs ih =>
    intro i v o h
    rcases a with x | x | x
    · cases i with
      | zero =>
        simp only [gEn, List.getElem?_cons_zero, Option.some.injEq] at h
        subst h
        exact ⟨by simp [lv_args], List.mem_cons_self⟩
      | succ i =>
        simp only [gEn, List.getElem?_cons_succ] at h
        obtain ⟨h1, h2⟩ := ih i v (o + 1) h
        refine ⟨?_, List.mem_cons_of_mem _ h2⟩
        simp only [List.map_cons, lv_args]
        have hc : ¬ (gv E (Sum.inl x)).category = 2 := by rw [gv_cat]; show ¬ 1 = 2; decide
        rw [if_neg hc, show o + (i + 1) = o + 1 + i by omega]
        exact List.mem_cons_of_mem _ h1
    · cases i with
      | zero =>
        simp only [gEn, List.getElem?_cons_zero, Option.some.injEq] at h
        subst h
        exact ⟨by simp [lv_args], List.mem_cons_self⟩
      | succ i =>
        cases i with
        | zero => simp [gEn] at h
        | succ i =>
          simp only [gEn, List.getElem?_cons_succ] at h
          obtain ⟨h1, h2⟩ := ih i v (o + 2) h
          refine ⟨?_, List.mem_cons_of_mem _ h2⟩
          simp only [List.map_cons, lv_args]
          have hc : (gv E (Sum.inr (Sum.inl x))).category = 2 := by rw [gv_cat]; rfl
          rw [if_pos hc, show o + (i + 1 + 1) = o + 2 + i by omega]
          exact List.mem_cons_of_mem _ h1
    · cases i with
      | zero =>
        simp only [gEn, List.getElem?_cons_zero, Option.some.injEq] at h
        subst h
        exact ⟨by simp [lv_args], List.mem_cons_self⟩
      | succ i =>
        simp only [gEn, List.getElem?_cons_succ] at h
        obtain ⟨h1, h2⟩ := ih i v (o + 1) h
        refine ⟨?_, List.mem_cons_of_mem _ h2⟩
        simp only [List.map_cons, lv_args]
        have hc : ¬ (gv E (Sum.inr (Sum.inr x))).category = 2 := by rw [gv_cat]; show ¬ 1 = 2; decide
        rw [if_neg hc, show o + (i + 1) = o + 1 + i by omega]
        exact List.mem_cons_of_mem _ h1
theorem gEn_len (E : gE) : ∀ vs : List gV, (lg_sl (vs.map (gv E))).length = (gEn vs).length := by
  intro vs
  induction vs with
  | nil => rfl
  | cons a vs ih =>
    have e : lg_sl ((a :: vs).map (gv E)) = (if (gv E a).category = 2 then [Slot.val (gv E a), Slot.second] else [Slot.val (gv E a)]) ++ lg_sl (vs.map (gv E)) := by
      simp [lg_sl]
    rw [e, List.length_append, ih, gv_cat]
    rcases a with x | x | x
    · show 1 + _ = (gEn vs).length + 1; omega
    · show 2 + _ = (gEn vs).length + 1 + 1; omega
    · show 1 + _ = (gEn vs).length + 1; omega
/-- the facts of a method that its calls need -/
def gIok (I : gI) (n : Nat) : Prop := plainName I.1.cls = true ∧ Cond.code I.1 I.2.2.2.1 I.2.2.2.2.1 I.2.2.2.2.2.1 ∈ gWd ∧ Cond.initialized I.1.cls ∈ gWd ∧ (I.1.cls ≠ "java/lang/invoke/MethodHandle" ∧ I.1.cls ≠ "java/lang/invoke/VarHandle") ∧ (parseMethodDescriptor I.1.desc).map (fun d => d.parameters.length) = some n ∧ I.2.2.1 = I.1.cls ∧ (I.2.2.2.2.2.2 = true → I.1.name = "<init>")
theorem gC_of {l : Launch} {E : gE} {d : Nat} {I : gI} {n : Nat} {args : List gV} {m : gM} {Q : gQ} (hI : gIok I n) {ls : gL} (hl : gEn args ++ List.replicate (I.2.2.2.2.1 - (gEn args).length) none = ls) (hn : (gEn args).length ≤ I.2.2.2.2.1)
    (k : gX l E (gFm E d I Q) 0 ls [] m I.2.1.1 I.2.1.2) : gC l E d I args m Q := by
  obtain ⟨hy, -, -, -, -, hown0, hin0⟩ := hI
  refine Met.ofW (cc := I.2.2.2.1) (maxL := I.2.2.2.2.1) (ret := I.2.2.2.2.2.1) hy rfl ?_
  intro p e s mm a below meth c s₁ B hml hv
  obtain ⟨rfl, hR, hH, hok⟩ := hv
  have hts := atoms_spec (ws := Cond.code I.1 I.2.2.2.1 I.2.2.2.2.1 I.2.2.2.2.2.1 :: gWd) B.pre
  have hown : s.vm.findClass I.1.cls = some mm.cls := findClass_of_methodNamed B.named
  have hnm : meth.name = I.1.name := (name_of_methodNamed B.named B.method).1
  rw [lg_entry_eq]
  have hsl : (lg_sl (args.map (gv E))).length ≤ I.2.2.2.2.1 := by rw [gEn_len]; exact hn
  have hle := lv_entry (args.map (gv E)) (n := I.2.2.2.2.1) hsl
  refine k p e s mm _ below meth c s.heap [] _ 0 0 ⟨B.exec, B.bytes, B.returns, hml, by rw [show (gFm E d I Q).1.1 = I.1.cls from hown0]; exact hown, fun w hw => hts w (List.mem_cons_of_mem _ hw), B.notSynchronized, fun h => by rw [hnm]; exact hin0 h, hR, trivial⟩ hH va_S.rf ?_ (fun v h => by cases h) (by show 0 + _ ≤ I.2.1.1; omega) (by show 0 + _ ≤ I.2.1.2; omega)
  refine ⟨?_, hle.1, hle.2.1, fun i v hi => ?_⟩
  · rw [← hl, List.length_append, List.length_replicate]
    show _ = I.2.2.2.2.1
    omega
  · have hi' : (gEn args)[i]? = some (some v) := by
      rw [← hl] at hi
      by_cases hc : i < (gEn args).length
      · rw [List.getElem?_append_left hc] at hi; exact hi
      · rw [List.getElem?_append_right (by omega)] at hi
        have := List.eq_of_mem_replicate (List.mem_of_getElem? hi)
        cases this
    obtain ⟨h1, h2⟩ := gEn_at E args i v 0 hi'
    rw [Nat.zero_add] at h1
    exact ⟨hle.2.2 _ h1, hok v h2⟩
theorem gC_mono {l : Launch} {E : gE} {d : Nat} {I : gI} {args : List gV} {m : gM} {Q Q' : gQ} (h : gC l E d I args m Q) (hq : ∀ r m', Q r m' → Q' r m') : gC l E d I args m Q' := by
  intro p e h1 h2 h3 s mm a below h4 h5 h6 h7
  obtain ⟨k, o, g1, g2, g3, ⟨r, m', q1, q2, q3, q4, q5⟩, g5⟩ := h p e h1 h2 h3 s mm a below h4 h5 h6 h7
  exact ⟨k, o, g1, g2, g3, ⟨r, m', q1, q2, hq r m' q3, q4, q5⟩, g5⟩
-- locals
def gkl (x : Option gV) : Option gV := match x with
  | some (.inr (.inl _)) => none
  | y => y
def gS1 (ls : gL) (i : Nat) (v : gV) : gL := match i with
  | 0 => ls.set 0 (some v)
  | k + 1 => (ls.set k (gkl (ls.getD k none))).set (k + 1) (some v)
def gS2 (ls : gL) (i : Nat) (v : gV) : gL := (gS1 ls i v).set (i + 1) none
def gasc (E : gE) (ls : gL) : List (Nat × Value) := (List.range ls.length).filterMap fun i => match ls[i]? with
  | some (some v) => some (i, gv E v)
  | _ => none
theorem gasc_in {E : gE} {ls : gL} {i : Nat} {v : gV} (h : ls[i]? = some (some v)) : (i, gv E v) ∈ gasc E ls := by
  refine List.mem_filterMap.mpr ⟨i, List.mem_range.mpr (List.getElem?_eq_some_iff.mp h).1, ?_⟩
  rw [h]
theorem gLR.has {E : gE} {ls : gL} {lsM : Array Slot} {nL : Nat} (h : gLR E ls lsM nL) : lv_has lsM nL (gasc E ls) := by
  refine ⟨h.2.1, h.2.2.1, fun q hq => ?_⟩
  obtain ⟨i, -, hi⟩ := List.mem_filterMap.mp hq
  cases hx : ls[i]? with
  | none => rw [hx] at hi; cases hi
  | some y =>
    rw [hx] at hi
    cases y with
    | none => cases hi
    | some v =>
      simp only [Option.some.injEq] at hi
      subst hi
      exact (h.2.2.2 i v hx).1
theorem gS1_len (ls : gL) (i : Nat) (v : gV) : (gS1 ls i v).length = ls.length := by
  cases i <;> simp [gS1]
theorem gS1_at {ls : gL} {i j : Nat} {v w : gV} (h : (gS1 ls i v)[j]? = some (some w)) : (j = i ∧ w = v) ∨ (j ≠ i ∧ ls[j]? = some (some w) ∧ (j + 1 = i → gcat w = 1)) := by
  cases i with
  | zero =>
    simp only [gS1] at h
    by_cases hj : j = 0
    · subst hj
      have hl := (List.getElem?_eq_some_iff.mp h).1
      rw [List.length_set] at hl
      rw [List.getElem?_set_self hl] at h
      simp only [Option.some.injEq] at h
      exact Or.inl ⟨rfl, h.symm⟩
    · rw [List.getElem?_set_ne (Ne.symm hj)] at h
      exact Or.inr ⟨hj, h, fun z => by omega⟩
  | succ k =>
    simp only [gS1] at h
    by_cases hj : j = k + 1
    · subst hj
      have hl := (List.getElem?_eq_some_iff.mp h).1
      rw [List.length_set] at hl
      rw [List.getElem?_set_self hl] at h
      simp only [Option.some.injEq] at h
      exact Or.inl ⟨rfl, h.symm⟩
    · rw [List.getElem?_set_ne (Ne.symm hj)] at h
      by_cases hk : j = k
      · subst hk
        have hl := (List.getElem?_eq_some_iff.mp h).1
        rw [List.length_set] at hl
        rw [List.getElem?_set_self hl] at h
        simp only [Option.some.injEq] at h
        have hg : ls.getD j none = some w ∧ gcat w = 1 := by
          rcases hx : ls.getD j none with _ | (x | x | x)
          · rw [hx] at h; cases h
          · rw [hx] at h; cases h; exact ⟨rfl, rfl⟩
          · rw [hx] at h; cases h
          · rw [hx] at h; cases h; exact ⟨rfl, rfl⟩
        have hs : ls[j]? = some (some w) := by
          have h2 := hg.1
          rw [List.getD_eq_getElem?_getD] at h2
          cases hz : ls[j]? with
          | none => rw [hz] at h2; cases h2
          | some y => rw [hz] at h2; simp only [Option.getD_some] at h2; rw [h2]
        exact Or.inr ⟨hj, hs, fun _ => hg.2⟩
      · rw [List.getElem?_set_ne (Ne.symm hk)] at h
        exact Or.inr ⟨hj, h, fun z => by omega⟩
theorem gLR.st1 {E : gE} {ls : gL} {lsM lsM' : Array Slot} {nL i : Nat} {v : gV} (h : gLR E ls lsM nL) (hv : gok v) (h' : lv_has lsM' nL ((i, gv E v) :: (gasc E ls).filter (fun q => !(q.1 == i) && !(q.1 + 1 == i && q.2.category == 2)))) : gLR E (gS1 ls i v) lsM' nL := by
  refine ⟨by rw [gS1_len]; exact h.1, h'.1, h'.2.1, fun j w hj => ?_⟩
  rcases gS1_at hj with ⟨rfl, rfl⟩ | ⟨h1, h2, h3⟩
  · exact ⟨h'.2.2 (j, gv E w) List.mem_cons_self, hv⟩
  · refine ⟨h'.2.2 (j, gv E w) (List.mem_cons_of_mem _ (List.mem_filter.mpr ⟨gasc_in h2, ?_⟩)), (h.2.2.2 j w h2).2⟩
    simp only [Bool.and_eq_true, Bool.not_eq_true', beq_eq_false_iff_ne, ne_eq, Bool.and_eq_false_iff]
    refine ⟨h1, ?_⟩
    by_cases hc : j + 1 = i
    · refine Or.inr ?_
      rw [gv_cat, h3 hc]
      decide
    · exact Or.inl hc
theorem gLR.st2 {E : gE} {ls : gL} {lsM lsM' : Array Slot} {nL i : Nat} {v : gV} (h : gLR E ls lsM nL) (hv : gok v) (h' : lv_has lsM' nL ((i, gv E v) :: (gasc E ls).filter (fun q => !(q.1 == i) && (!(q.1 == i + 1) && !(q.1 + 1 == i && q.2.category == 2))))) : gLR E (gS2 ls i v) lsM' nL := by
  refine ⟨by show ((gS1 ls i v).set (i + 1) none).length = nL; rw [List.length_set, gS1_len]; exact h.1, h'.1, h'.2.1, fun j w hj => ?_⟩
  have hj1 : j ≠ i + 1 := by
    intro z
    subst z
    have hl := (List.getElem?_eq_some_iff.mp hj).1
    unfold gS2 at hj hl
    rw [List.length_set] at hl
    rw [List.getElem?_set_self hl] at hj
    cases hj
  unfold gS2 at hj
  rw [List.getElem?_set_ne (Ne.symm hj1)] at hj
  rcases gS1_at hj with ⟨rfl, rfl⟩ | ⟨h1, h2, h3⟩
  · exact ⟨h'.2.2 (j, gv E w) List.mem_cons_self, hv⟩
  · refine ⟨h'.2.2 (j, gv E w) (List.mem_cons_of_mem _ (List.mem_filter.mpr ⟨gasc_in h2, ?_⟩)), (h.2.2.2 j w h2).2⟩
    simp only [Bool.and_eq_true, Bool.not_eq_true', beq_eq_false_iff_ne, ne_eq, Bool.and_eq_false_iff]
    refine ⟨h1, hj1, ?_⟩
    by_cases hc : j + 1 = i
    · refine Or.inr ?_
      rw [gv_cat, h3 hc]
      decide
    · exact Or.inl hc
