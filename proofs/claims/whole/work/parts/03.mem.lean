/-! THE SMALL LOGIC, part one: numbers, values, memory.
A value is an int, a long or a reference, each told by a whole number (a reference: the place of its cell behind 'gB', -1 is null, from 1000000 on a String constant, from 2000000 on its array). A memory is the kinds of its cells (an object of a class of vwCl, an array), what references they hold, what numbers they hold. -/
abbrev gV : Type := Int ⊕ (Int ⊕ Int)
abbrev gi (x : Int) : gV := Sum.inl x
abbrev gl (x : Int) : gV := Sum.inr (Sum.inl x)
abbrev ga (x : Int) : gV := Sum.inr (Sum.inr x)
abbrev gK : Type := Nat ⊕ (Nat × Nat)
abbrev gM : Type := List gK × (Int → Int → Int) × (Int → Int → Int)
abbrev gL : Type := List (Option gV)
/-- dC, dI, the array classes, the first cell, the String constants' cells, their arrays' -/
abbrev gE : Type := (Nat → ClassId) × (Nat → Nat → Nat) × (Nat → ClassId) × Nat × (Nat → Nat) × (Nat → Nat)
def in32 (x : Int) : Prop := -2147483648 ≤ x ∧ x ≤ 2147483647
def in64 (x : Int) : Prop := -9223372036854775808 ≤ x ∧ x ≤ 9223372036854775807
def gB (E : gE) : Nat := E.2.2.2.1
def gA (E : gE) : Nat → Prop := fun q => gB E ≤ q
def gad (E : gE) (a : Int) : Nat := if a < 1000000 then gB E + a.toNat else if a < 2000000 then E.2.2.2.2.1 (a.toNat - 1000000) else E.2.2.2.2.2 (a.toNat - 2000000)
def gro (E : gE) (a : Int) : Option Nat := if a < 0 then none else some (gad E a)
def gv (E : gE) : gV → Value
  | .inl x => .int (Int32.ofInt x)
  | .inr (.inl x) => .long (Int64.ofInt x)
  | .inr (.inr a) => va_rf (gro E a)
def gok : gV → Prop
  | .inl x => in32 x
  | .inr (.inl x) => in64 x
  | .inr (.inr _) => True
def gcat : gV → Nat
  | .inr (.inl _) => 2
  | _ => 1
theorem gv_cat (E : gE) (v : gV) : (gv E v).category = gcat v := by
  rcases v with x | x | x
  · rfl
  · rfl
  · show (va_rf (gro E x)).category = 1
    cases gro E x <;> rfl
theorem gv_a {E : gE} {a : Int} (h : 0 ≤ a) : gv E (ga a) = .ref (gad E a) := by
  show va_rf (gro E a) = _
  unfold gro
  rw [if_neg (by omega)]
  rfl
theorem gv_n {E : gE} {a : Int} (h : a < 0) : gv E (ga a) = .null := by
  show va_rf (gro E a) = _
  unfold gro
  rw [if_pos h]
  rfl
theorem i32_toInt {x : Int} (h : in32 x) : (Int32.ofInt x).toInt = x := Int32.toInt_ofInt_of_le h.1 (by have := h.2; omega)
theorem i64_toInt {x : Int} (h : in64 x) : (Int64.ofInt x).toInt = x := Int64.toInt_ofInt_of_le h.1 (by have := h.2; omega)
theorem in32_toInt (x : Int32) : in32 x.toInt := by
  have h1 := x.minValue_le_toInt
  have h2 := x.toInt_le
  exact ⟨h1, h2⟩
theorem in64_toInt (x : Int64) : in64 x.toInt := by
  have h1 := x.minValue_le_toInt
  have h2 := x.toInt_le
  exact ⟨h1, h2⟩
theorem in32_64 {x : Int} (h : in32 x) : in64 x := ⟨by have := h.1; omega, by have := h.2; omega⟩
theorem i32_eq {x y : Int} (hx : in32 x) (hy : in32 y) : Int32.ofInt x = Int32.ofInt y ↔ x = y :=
  ⟨fun h => by rw [← i32_toInt hx, ← i32_toInt hy, h], fun h => by rw [h]⟩
theorem i32_lt {x y : Int} (hx : in32 x) (hy : in32 y) : Int32.ofInt x < Int32.ofInt y ↔ x < y := by
  rw [Int32.lt_iff_toInt_lt, i32_toInt hx, i32_toInt hy]
theorem i32_le {x y : Int} (hx : in32 x) (hy : in32 y) : Int32.ofInt x ≤ Int32.ofInt y ↔ x ≤ y := by
  rw [Int32.le_iff_toInt_le, i32_toInt hx, i32_toInt hy]
theorem i32_clamp {x : Int} (hx : in32 x) : (Int32.ofInt x).toNatClampNeg = x.toNat := Int32.toNatClampNeg_ofInt_of_le hx.1 (by have := hx.2; omega)
theorem i32_0 : Int32.ofInt 0 = 0 := rfl
theorem i32_lit {n : Int} {k : Int32} (h : k.toInt = n) : Int32.ofInt n = k := by rw [← h]; exact Int32.ofInt_toInt k
theorem i32_in {x : Int} {n : Nat} (hx : in32 x) (h0 : 0 ≤ x) (hn : x < n) : vp_in (Int32.ofInt x) n := by
  rw [vp_in_iff, i32_toInt hx]
  exact ⟨h0, hn⟩
theorem in32_ofNat {n : Nat} (h : n < 2147483648) : in32 (n : Int) := ⟨by omega, by omega⟩
theorem i32_nat (n : Nat) : Int32.ofInt (n : Int) = Int32.ofNat n := Int32.ofInt_eq_ofNat
-- the tables' words that stay true in every callee
def gWd : List Cond := lw_tbl.filter goodWord
theorem gWd_good {w : Cond} (h : w ∈ gWd) : w ∈ lw_tbl ∧ ((w.onTables && w.keeps) = true ∨ ∃ ty, w = .arrayClass ty) := by
  obtain ⟨h1, h2⟩ := List.mem_filter.mp h
  exact ⟨h1, good_of_word h2⟩
theorem gWd_at (k : Nat) {w : Cond} (h : lw_tbl[k]? = some w) (hg : goodWord w = true) : w ∈ gWd := List.mem_filter.mpr ⟨List.mem_of_getElem? h, hg⟩
theorem gWd_all {ws : List Cond} (h : ws.all (fun w => decide (w ∈ lw_tbl) && goodWord w) = true) : ∀ w ∈ ws, w ∈ gWd := by
  intro w hw
  have h1 := List.all_eq_true.mp h w hw
  simp only [Bool.and_eq_true, decide_eq_true_eq] at h1
  exact List.mem_filter.mpr h1
-- classes
def gNn (ci : Nat) : Nat := [3, 8, 3, 6, 6, 2, 1, 5, 3, 6, 12, 65].getD ci 0
def gTys : List (Nat → FieldType) := [tyX0, tyX1, tyX2, tyX3, tyX4, tyX6, tyX7, tyX8, tyX9, tyX10, tyX11, tyX12]
def gty (ci k : Nat) : FieldType := (gTys.getD ci tyX0) k
theorem gc_X0 : ∀ w ∈ wsX00, w ∈ gWd := gWd_all (by decide +kernel)
theorem gc_X1 : ∀ w ∈ wsX10, w ∈ gWd := gWd_all (by decide +kernel)
theorem gc_X2 : ∀ w ∈ wsX20, w ∈ gWd := gWd_all (by decide +kernel)
theorem gc_X3 : ∀ w ∈ wsX30, w ∈ gWd := gWd_all (by decide +kernel)
theorem gc_X4 : ∀ w ∈ wsX40, w ∈ gWd := gWd_all (by decide +kernel)
theorem gc_X6 : ∀ w ∈ wsX60, w ∈ gWd := gWd_all (by decide +kernel)
theorem gc_X7 : ∀ w ∈ wsX70, w ∈ gWd := gWd_all (by decide +kernel)
theorem gc_X8 : ∀ w ∈ wsX80, w ∈ gWd := gWd_all (by decide +kernel)
theorem gc_X9 : ∀ w ∈ wsX90, w ∈ gWd := gWd_all (by decide +kernel)
theorem gc_X10 : ∀ w ∈ wsX100, w ∈ gWd := gWd_all (by decide +kernel)
theorem gc_X11 : ∀ w ∈ wsX110, w ∈ gWd := gWd_all (by decide +kernel)
theorem gc_X12 : ∀ w ∈ wsX120, w ∈ gWd := gWd_all (by decide +kernel)
/-- what is known of a class of vwCl -/
def gCl (ci : Nat) (C : String) (T : u_T) (N : Nat) : Prop :=
  vwCl[ci]? = some (C, T, N) ∧ (∀ w ∈ u_ws C T N, w ∈ gWd) ∧ (∀ k, k < N → parseFieldDescriptor (T k).2.2.1 = some (gty ci k)) ∧ (∀ a, a < N → ∀ b, b < N → a ≠ b → (T a).2.1 ≠ (T b).2.1) ∧ gNn ci = N ∧ ∀ k, k < N → (T k).1 = C
theorem gcl_0 : gCl 0 RX0 TX0 3 := ⟨rfl, gc_X0, tyX0_ok, nmX0, rfl, by decide +kernel⟩
theorem gcl_1 : gCl 1 RX1 TX1 8 := ⟨rfl, gc_X1, tyX1_ok, nmX1, rfl, by decide +kernel⟩
theorem gcl_2 : gCl 2 RX2 TX2 3 := ⟨rfl, gc_X2, tyX2_ok, nmX2, rfl, by decide +kernel⟩
theorem gcl_3 : gCl 3 RX3 TX3 6 := ⟨rfl, gc_X3, tyX3_ok, nmX3, rfl, by decide +kernel⟩
theorem gcl_4 : gCl 4 RX4 TX4 6 := ⟨rfl, gc_X4, tyX4_ok, nmX4, rfl, by decide +kernel⟩
theorem gcl_5 : gCl 5 RX6 TX6 2 := ⟨rfl, gc_X6, tyX6_ok, nmX6, rfl, by decide +kernel⟩
theorem gcl_6 : gCl 6 RX7 TX7 1 := ⟨rfl, gc_X7, tyX7_ok, nmX7, rfl, by decide +kernel⟩
theorem gcl_7 : gCl 7 RX8 TX8 5 := ⟨rfl, gc_X8, tyX8_ok, nmX8, rfl, by decide +kernel⟩
theorem gcl_8 : gCl 8 RX9 TX9 3 := ⟨rfl, gc_X9, tyX9_ok, nmX9, rfl, by decide +kernel⟩
theorem gcl_9 : gCl 9 RX10 TX10 6 := ⟨rfl, gc_X10, tyX10_ok, nmX10, rfl, by decide +kernel⟩
theorem gcl_10 : gCl 10 RX11 TX11 12 := ⟨rfl, gc_X11, tyX11_ok, nmX11, rfl, by decide +kernel⟩
theorem gcl_11 : gCl 11 RX12 TX12 65 := ⟨rfl, gc_X12, tyX12_ok, nmX12, rfl, by decide +kernel⟩
-- memory
def kd (m : gM) (a : Int) : Option gK := if a < 0 then none else m.1[a.toNat]?
def gup (V : Int → Int → Int) (a k x : Int) : Int → Int → Int := fun a' k' => if a' = a ∧ k' = k then x else V a' k'
def gfv (E : gE) (m : gM) (a : Int) (k : Nat) (ty : FieldType) : Value := match ty with
  | .int => gv E (gi (m.2.2 a k))
  | .boolean => gv E (gi (m.2.2 a k))
  | .long => gv E (gl (m.2.2 a k))
  | _ => gv E (ga (m.2.1 a k))
def gcell (E : gE) (m : gM) (a : Int) (k : gK) : va_E := match k with
  | .inl ci => .inr (ci, (List.range (gNn ci)).map fun j => gfv E m a j (gty ci j))
  | .inr (t, n) => if t < 2 then .inl (E.2.2.1 t, n, .inl (fun j => Int32.ofInt (m.2.2 a j))) else .inl (E.2.2.1 t, n, .inr (.inr (.inr (.inr (fun j => gro E (m.2.1 a j))))))
def gws (E : gE) (m : gM) : va_W := m.1.mapIdx fun i k => (gB E + i, gcell E m (i : Int) k)
def gLg (m : gM) (a k : Int) : Bool := match kd m a with
  | some (.inl ci) => decide (gty ci k.toNat = .long)
  | _ => false
def gRg (m : gM) : Prop := ∀ a k, if gLg m a k = true then in64 (m.2.2 a k) else in32 (m.2.2 a k)
def gH (E : gE) (m : gM) (H : Heap) : Prop := va_P (E.1, E.2.1) vwCl (gws E m) H ∧ H.size = gB E + m.1.length ∧ m.1.length < 1000000 ∧ gRg m
theorem kd_pos {m : gM} {a : Int} {k : gK} (h : kd m a = some k) : 0 ≤ a := by
  unfold kd at h
  split at h
  · cases h
  · omega
theorem kd_get {m : gM} {a : Int} {k : gK} (h : kd m a = some k) : m.1[a.toNat]? = some k := by
  unfold kd at h
  split at h
  · cases h
  · exact h
theorem kd_lt {m : gM} {a : Int} {k : gK} (h : kd m a = some k) : a < m.1.length := by
  have h1 := (List.getElem?_eq_some_iff.mp (kd_get h)).1
  have h2 := kd_pos h
  omega
theorem gad_of {E : gE} {m : gM} {a : Int} {k : gK} (h : kd m a = some k) (hl : m.1.length < 1000000) : gad E a = gB E + a.toNat := by
  have h1 := kd_lt h
  unfold gad
  rw [if_pos (by omega)]
theorem gws_get {E : gE} {m : gM} {a : Int} {k : gK} (h : kd m a = some k) (hl : m.1.length < 1000000) : (gws E m)[a.toNat]? = some (gad E a, gcell E m a k) := by
  have h0 := kd_pos h
  unfold gws
  rw [List.getElem?_mapIdx, kd_get h, gad_of h hl]
  show some (gB E + a.toNat, gcell E m (a.toNat : Int) k) = _
  rw [Int.toNat_of_nonneg h0]
theorem gws_D (E : gE) (m : gM) : va_D (gA E) (gws E m) := by
  have key : ∀ (k : Nat) (q : Nat × va_E), (gws E m)[k]? = some q → q.1 = gB E + k := by
    intro k q hk
    unfold gws at hk
    rw [List.getElem?_mapIdx] at hk
    cases hm : m.1[k]? with
    | none => rw [hm] at hk; cases hk
    | some z =>
      rw [hm] at hk
      simp only [Option.map_some, Option.some.injEq] at hk
      rw [← hk]
  refine ⟨fun i j x y hi hj h => ?_, fun k q hk => ?_⟩
  · rw [key i x hi, key j y hj] at h
    omega
  · rw [key k q hk]
    exact Nat.le_add_right _ _
theorem gws_set {E : gE} {m m' : gM} {a : Int} {k : gK} {c : va_E} (h : kd m a = some k) (hl : m.1.length < 1000000) (h1 : m'.1 = m.1) (ho : ∀ (i : Nat) (k' : gK), (i : Int) ≠ a → gcell E m' i k' = gcell E m i k') (hs : gcell E m' a k = c) : (gws E m).set a.toNat (gad E a, c) = gws E m' := by
  have h0 := kd_pos h
  have hlt := kd_lt h
  apply List.ext_getElem?
  intro i
  by_cases hi : i = a.toNat
  · subst hi
    have hk' : kd m' a = some k := by
      unfold kd at h ⊢
      rw [h1]
      exact h
    rw [gws_get hk' (by rw [h1]; exact hl), hs, List.getElem?_set_self]
    unfold gws
    rw [List.length_mapIdx]
    omega
  · rw [List.getElem?_set_ne (Ne.symm hi)]
    unfold gws
    rw [List.getElem?_mapIdx, List.getElem?_mapIdx, h1]
    cases m.1[i]? with
    | none => rfl
    | some z =>
      simp only [Option.map_some]
      rw [ho i z (by omega)]
theorem gRg_32 {m : gM} (h : gRg m) {a k : Int} (hf : gLg m a k = false) : in32 (m.2.2 a k) := by
  have h1 := h a k
  rw [if_neg (by rw [hf]; decide)] at h1
  exact h1
theorem gRg_64 {m : gM} (h : gRg m) (a k : Int) : in64 (m.2.2 a k) := by
  have h1 := h a k
  split at h1
  · exact h1
  · exact in32_64 h1
theorem gLg_arr {m : gM} {a k : Int} {t n : Nat} (h : kd m a = some (.inr (t, n))) : gLg m a k = false := by
  unfold gLg
  rw [h]
theorem gLg_obj {m : gM} {a : Int} {k ci : Nat} (h : kd m a = some (.inl ci)) (ht : gty ci k ≠ .long) : gLg m a k = false := by
  unfold gLg
  rw [h]
  simpa using ht
theorem gRg_up {K : List gK} {R V : Int → Int → Int} {a k x : Int} (h : gRg (K, R, V)) (hx : in32 x ∨ (gLg (K, R, V) a k = true ∧ in64 x)) : gRg (K, R, gup V a k x) := by
  intro a' k'
  have e : gLg (K, R, gup V a k x) a' k' = gLg (K, R, V) a' k' := rfl
  rw [e]
  show if _ then in64 (gup V a k x a' k') else in32 (gup V a k x a' k')
  unfold gup
  by_cases hc : a' = a ∧ k' = k
  · rw [if_pos hc]
    obtain ⟨rfl, rfl⟩ := hc
    rcases hx with hx | ⟨hx, hy⟩
    · split
      · exact in32_64 hx
      · exact hx
    · rw [if_pos hx]; exact hy
  · rw [if_neg hc]
    exact h a' k'
theorem gRg_upR {K : List gK} {R R' V : Int → Int → Int} (h : gRg (K, R, V)) : gRg (K, R', V) := h
