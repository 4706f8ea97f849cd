/-! THE SMALL LOGIC, part three: a law of gX an instruction (numbers, locals, branches). Written by wip/whole/tools/mk_ops.py. -/
theorem gst_tl {v : gV} {st : List gV} (h : ∀ w ∈ v :: st, gok w) : ∀ w ∈ st, gok w := fun w hw => h w (List.mem_cons_of_mem _ hw)
theorem gst_hd {v : gV} {st : List gV} (h : ∀ w ∈ v :: st, gok w) : gok v := h v List.mem_cons_self
theorem gst_cons {v : gV} {st : List gV} (hv : gok v) (h : ∀ w ∈ st, gok w) : ∀ w ∈ v :: st, gok w := fun w hw => (List.mem_cons.mp hw).elim (fun e => by rw [e]; exact hv) (h w)
theorem i32_ofToInt (x : Int32) : Int32.ofInt x.toInt = x := Int32.ofInt_toInt x
theorem i64_ofToInt (x : Int64) : Int64.ofInt x.toInt = x := Int64.ofInt_toInt x
theorem i32_div {x y : Int} (hx : in32 x) (hy : in32 y) (h0 : 0 ≤ x) (h1 : 0 < y) : Int32.ofInt x / Int32.ofInt y = Int32.ofInt (x / y) := by
  have h := Int32.ofInt_tdiv (a := x) (b := y) hx.1 hx.2 hy.1 hy.2
  rw [← h, Int.tdiv_eq_ediv_of_nonneg h0]
theorem i32_div_in {x y : Int} (hx : in32 x) (h0 : 0 ≤ x) (h1 : 0 < y) : in32 (x / y) := by
  have a : 0 ≤ x / y := Int.ediv_nonneg h0 (by omega)
  have b : x / y ≤ x := Int.ediv_le_self y h0
  exact ⟨by omega, by have := hx.2; omega⟩
theorem i32_mod {x y : Int} (hx : in32 x) (hy : in32 y) (h0 : 0 ≤ x) (h1 : 0 < y) : Int32.ofInt x - Int32.ofInt x / Int32.ofInt y * Int32.ofInt y = Int32.ofInt (x % y) := by
  rw [i32_div hx hy h0 h1, ← Int32.ofInt_mul, ← Int32.ofInt_sub]
  congr 1
  have := Int.mul_ediv_add_emod x y
  have e : x / y * y = y * (x / y) := Int.mul_comm _ _
  omega
theorem i32_mod_in {x y : Int} (hy : in32 y) (h1 : 0 < y) : in32 (x % y) := by
  have a := Int.emod_nonneg x (show y ≠ 0 by omega)
  have b := Int.emod_lt_of_pos x h1
  exact ⟨by omega, by have := hy.2; omega⟩
def gand (x y : Int) : Int := (Int32.ofInt x &&& Int32.ofInt y).toInt
def gor (x y : Int) : Int := (Int32.ofInt x ||| Int32.ofInt y).toInt
def gxor (x y : Int) : Int := (Int32.ofInt x ^^^ Int32.ofInt y).toInt
def gshl (x y : Int) : Int := (Int32.ofInt x <<< (Int32.ofInt y &&& 31)).toInt
def gshr (x y : Int) : Int := (Int32.ofInt x >>> (Int32.ofInt y &&& 31)).toInt
def gushr (x y : Int) : Int := (((Int32.ofInt x).toUInt32 >>> ((Int32.ofInt y).toUInt32 &&& Int32.toUInt32 31)).toInt32).toInt
def gland (x y : Int) : Int := (Int64.ofInt x &&& Int64.ofInt y).toInt
def glor (x y : Int) : Int := (Int64.ofInt x ||| Int64.ofInt y).toInt
def glxor (x y : Int) : Int := (Int64.ofInt x ^^^ Int64.ofInt y).toInt
def glshl (x y : Int) : Int := (Int64.ofInt x <<< ((Int32.ofInt y).toInt64 &&& 63)).toInt
def glshr (x y : Int) : Int := (Int64.ofInt x >>> ((Int32.ofInt y).toInt64 &&& 63)).toInt
def glushr (x y : Int) : Int := (((Int64.ofInt x).toUInt64 >>> ((Int32.ofInt y).toInt64.toUInt64 &&& Int64.toUInt64 63)).toInt64).toInt
def gl2i (x : Int) : Int := ((Int64.ofInt x).toInt32).toInt
def gcmp (x y : Int) : Int := if y < x then 1 else if x = y then 0 else -1
theorem i64_eq {x y : Int} (hx : in64 x) (hy : in64 y) : Int64.ofInt x = Int64.ofInt y ↔ x = y :=
  ⟨fun h => by rw [← i64_toInt hx, ← i64_toInt hy, h], fun h => by rw [h]⟩
theorem i64_lt {x y : Int} (hx : in64 x) (hy : in64 y) : Int64.ofInt x < Int64.ofInt y ↔ x < y := by
  rw [Int64.lt_iff_toInt_lt, i64_toInt hx, i64_toInt hy]
theorem i64_cmp {x y : Int} (hx : in64 x) (hy : in64 y) : lg_cmp (Int64.ofInt x) (Int64.ofInt y) = Int32.ofInt (gcmp x y) := by
  unfold lg_cmp gcmp
  by_cases h1 : y < x
  · rw [if_pos h1, if_pos (show Int64.ofInt x > Int64.ofInt y from (i64_lt hy hx).mpr h1)]; rfl
  · rw [if_neg h1, if_neg (fun z => h1 ((i64_lt hy hx).mp z))]
    by_cases h2 : x = y
    · rw [if_pos h2, if_pos ((i64_eq hx hy).mpr h2)]; rfl
    · rw [if_neg h2, if_neg (fun z => h2 ((i64_eq hx hy).mp z))]; rfl
theorem gcmp_in (x y : Int) : in32 (gcmp x y) := by
  unfold gcmp
  split
  · exact ⟨by omega, by omega⟩
  · split <;> exact ⟨by omega, by omega⟩
theorem gcmp_lt (x y : Int) : gcmp x y < 0 ↔ x < y := by
  unfold gcmp
  split
  · constructor <;> intro h <;> omega
  · split <;> constructor <;> intro h <;> omega
theorem gcmp_gt (x y : Int) : 0 < gcmp x y ↔ y < x := by
  unfold gcmp
  split
  · constructor <;> intro h <;> omega
  · split <;> constructor <;> intro h <;> omega
theorem gcmp_eq (x y : Int) : gcmp x y = 0 ↔ x = y := by
  unfold gcmp
  split
  · constructor <;> intro h <;> omega
  · split <;> constructor <;> intro h <;> omega
theorem gcmp_le (x y : Int) : gcmp x y ≤ 0 ↔ x ≤ y := by
  have := gcmp_gt x y
  constructor <;> intro h <;> omega
theorem gcmp_ge (x y : Int) : 0 ≤ gcmp x y ↔ y ≤ x := by
  have := gcmp_lt x y
  constructor <;> intro h <;> omega
section OPS
variable {l : Launch} {E : gE} {F : gF} {pc : Nat} {ls : gL} {st : List gV} {m : gM} {bc bs : Nat}
theorem gX_iconst {n : Int} (hd : decode F.1.2.1 pc = .ok (.iconst n, 1)) (hr : in32 n) (kk : gX l E F (pc + 1) ls (gi n :: st) m bc bs) : gX l E F pc ls (st) m bc bs := by
  intro p e s mm args below meth c H locs lsM cells slots hc hH hS hL hst h1 h2
  refine lv_iconst hc.1 hc.2.1 hd rfl ?_
  exact kk p e s mm args below meth c H locs lsM cells slots hc hH hS hL (gst_cons hr hst) h1 h2
theorem gX_bipush {n : Int} (hd : decode F.1.2.1 pc = .ok (.bipush n, 2)) (hv : (Int8.ofInt n).toInt32 = Int32.ofInt n) (hr : in32 n) (kk : gX l E F (pc + 2) ls (gi n :: st) m bc bs) : gX l E F pc ls (st) m bc bs := by
  intro p e s mm args below meth c H locs lsM cells slots hc hH hS hL hst h1 h2
  refine lv_bipush hc.1 hc.2.1 hd hv ?_
  exact kk p e s mm args below meth c H locs lsM cells slots hc hH hS hL (gst_cons hr hst) h1 h2
theorem gX_sipush {n : Int} (hd : decode F.1.2.1 pc = .ok (.sipush n, 3)) (hv : (Int16.ofInt n).toInt32 = Int32.ofInt n) (hr : in32 n) (kk : gX l E F (pc + 3) ls (gi n :: st) m bc bs) : gX l E F pc ls (st) m bc bs := by
  intro p e s mm args below meth c H locs lsM cells slots hc hH hS hL hst h1 h2
  refine lv_sipush hc.1 hc.2.1 hd hv ?_
  exact kk p e s mm args below meth c H locs lsM cells slots hc hH hS hL (gst_cons hr hst) h1 h2
theorem gX_lconst {n : Fin 2} {x : Int} (hd : decode F.1.2.1 pc = .ok (.lconst n, 1)) (hv : Int64.ofNat (n : Nat) = Int64.ofInt x) (hr : in64 x) (kk : gX l E F (pc + 1) ls (gl x :: st) m bc bs) : gX l E F pc ls (st) m bc bs := by
  intro p e s mm args below meth c H locs lsM cells slots hc hH hS hL hst h1 h2
  refine lv_lconst hc.1 hc.2.1 hd hv ?_
  exact kk p e s mm args below meth c H locs lsM cells slots hc hH hS hL (gst_cons (v := gl x) hr hst) h1 h2
theorem gX_ldc2 {idx : Nat} {x : Int} {v : Int64} (hd : decode F.1.2.1 pc = .ok (.ldc2_w idx, 3)) (hw : Cond.constantLong F.1.1 idx v ∈ gWd) (hv : v = Int64.ofInt x) (hr : in64 x) (kk : gX l E F (pc + 3) ls (gl x :: st) m bc bs) : gX l E F pc ls (st) m bc bs := by
  intro p e s mm args below meth c H locs lsM cells slots hc hH hS hL hst h1 h2
  subst hv
  refine lv_ldc2 hc.1 hc.2.1 hc.2.2.2.2.1 (hc.2.2.2.2.2.1 _ hw) hd ?_
  exact kk p e s mm args below meth c H locs lsM cells slots hc hH hS hL (gst_cons (v := gl x) hr hst) h1 h2
theorem gX_ldci {idx : Nat} {x : Int} {v : Int32} (hd : decode F.1.2.1 pc = .ok (.ldc idx, 2)) (hw : Cond.constant F.1.1 idx v ∈ gWd) (hv : v = Int32.ofInt x) (hr : in32 x) (kk : gX l E F (pc + 2) ls (gi x :: st) m bc bs) : gX l E F pc ls (st) m bc bs := by
  intro p e s mm args below meth c H locs lsM cells slots hc hH hS hL hst h1 h2
  subst hv
  refine lv_ldc hc.1 hc.2.1 hc.2.2.2.2.1 (hc.2.2.2.2.2.1 _ hw) hd ?_
  exact kk p e s mm args below meth c H locs lsM cells slots hc hH hS hL (gst_cons hr hst) h1 h2
theorem gX_ldcw {idx : Nat} {x : Int} {v : Int32} (hd : decode F.1.2.1 pc = .ok (.ldc_w idx, 3)) (hw : Cond.constant F.1.1 idx v ∈ gWd) (hv : v = Int32.ofInt x) (hr : in32 x) (kk : gX l E F (pc + 3) ls (gi x :: st) m bc bs) : gX l E F pc ls (st) m bc bs := by
  intro p e s mm args below meth c H locs lsM cells slots hc hH hS hL hst h1 h2
  subst hv
  refine lv_ldcw hc.1 hc.2.1 hc.2.2.2.2.1 (hc.2.2.2.2.2.1 _ hw) hd ?_
  exact kk p e s mm args below meth c H locs lsM cells slots hc hH hS hL (gst_cons hr hst) h1 h2
theorem gX_ldcs {idx i : Nat} {tx : String} {a : Int} (hd : decode F.1.2.1 pc = .ok (.ldc idx, 2)) (ho : F.1.1 = RX5) (hi : gLits[i]? = some (idx, tx)) (ha : a = 1000000 + (i : Int)) (kk : gX l E F (pc + 2) ls (ga a :: st) m bc bs) : gX l E F pc ls (st) m bc bs := by
  intro p e s mm args below meth c H locs lsM cells slots hc hH hS hL hst h1 h2
  have hZ := hc.2.2.2.2.2.2.2.2.1.2.2.1.2.1 i idx tx hi
  refine va_ldcS hc.1 hc.2.1 (own := RX5) (tx := tx) (by rw [← ho]; exact hc.2.2.2.2.1) hZ hd ?_
  have e1 : gv E (ga a) = .ref (E.2.2.2.2.1 i) := by
    rw [gv_a (by omega)]
    unfold gad
    have hil := (List.getElem?_eq_some_iff.mp hi).1
    have hi9 : gLits.length = 9 := rfl
    rw [if_neg (by omega), if_pos (by omega), show a.toNat - 1000000 = i by omega]
  have h := kk p e s mm args below meth c H locs lsM cells slots hc hH hS hL (gst_cons (v := ga a) trivial hst) h1 h2
  rw [List.map_cons, e1] at h
  exact h
theorem gX_null (hd : decode F.1.2.1 pc = .ok (.aconst_null, 1)) (kk : gX l E F (pc + 1) ls (ga (-1) :: st) m bc bs) : gX l E F pc ls (st) m bc bs := by
  intro p e s mm args below meth c H locs lsM cells slots hc hH hS hL hst h1 h2
  refine lv_null hc.1 hc.2.1 hd ?_
  have h := kk p e s mm args below meth c H locs lsM cells slots hc hH hS hL (gst_cons (v := ga (-1)) trivial hst) h1 h2
  rw [List.map_cons, gv_n (by omega)] at h
  exact h
theorem gX_iload {i : Nat} {x : Int} (hd : decode F.1.2.1 pc = .ok (.iload i, 2)) (hi : ls[i]? = some (some (gi x))) (kk : gX l E F (pc + 2) ls (gi x :: st) m bc bs) : gX l E F pc ls (st) m bc bs := by
  intro p e s mm args below meth c H locs lsM cells slots hc hH hS hL hst h1 h2
  refine lv_iload hc.1 hc.2.1 hd (hL.2.2.2 i _ hi).1 ?_
  exact kk p e s mm args below meth c H locs lsM cells slots hc hH hS hL (gst_cons (hL.2.2.2 i _ hi).2 hst) h1 h2
theorem gX_iloadn {k : Fin 4} {x : Int} (hd : decode F.1.2.1 pc = .ok (.iload_n k, 1)) (hi : ls[(k : Nat)]? = some (some (gi x))) (kk : gX l E F (pc + 1) ls (gi x :: st) m bc bs) : gX l E F pc ls (st) m bc bs := by
  intro p e s mm args below meth c H locs lsM cells slots hc hH hS hL hst h1 h2
  refine lv_iload_n hc.1 hc.2.1 hd rfl (hL.2.2.2 _ _ hi).1 ?_
  exact kk p e s mm args below meth c H locs lsM cells slots hc hH hS hL (gst_cons (hL.2.2.2 _ _ hi).2 hst) h1 h2
theorem gX_lload {i : Nat} {x : Int} (hd : decode F.1.2.1 pc = .ok (.lload i, 2)) (hi : ls[i]? = some (some (gl x))) (kk : gX l E F (pc + 2) ls (gl x :: st) m bc bs) : gX l E F pc ls (st) m bc bs := by
  intro p e s mm args below meth c H locs lsM cells slots hc hH hS hL hst h1 h2
  refine lv_lload hc.1 hc.2.1 hd (hL.2.2.2 i _ hi).1 ?_
  exact kk p e s mm args below meth c H locs lsM cells slots hc hH hS hL (gst_cons (hL.2.2.2 i _ hi).2 hst) h1 h2
theorem gX_lloadn {k : Fin 4} {x : Int} (hd : decode F.1.2.1 pc = .ok (.lload_n k, 1)) (hi : ls[(k : Nat)]? = some (some (gl x))) (kk : gX l E F (pc + 1) ls (gl x :: st) m bc bs) : gX l E F pc ls (st) m bc bs := by
  intro p e s mm args below meth c H locs lsM cells slots hc hH hS hL hst h1 h2
  refine lv_lload_n hc.1 hc.2.1 hd rfl (hL.2.2.2 _ _ hi).1 ?_
  exact kk p e s mm args below meth c H locs lsM cells slots hc hH hS hL (gst_cons (hL.2.2.2 _ _ hi).2 hst) h1 h2
theorem gX_aload {i : Nat} {a : Int} (hd : decode F.1.2.1 pc = .ok (.aload i, 2)) (hi : ls[i]? = some (some (ga a))) (kk : gX l E F (pc + 2) ls (ga a :: st) m bc bs) : gX l E F pc ls (st) m bc bs := by
  intro p e s mm args below meth c H locs lsM cells slots hc hH hS hL hst h1 h2
  have hq := (hL.2.2.2 i _ hi).1
  have h := kk p e s mm args below meth c H locs lsM cells slots hc hH hS hL (gst_cons (v := ga a) trivial hst) h1 h2
  rw [List.map_cons] at h
  by_cases ha : a < 0
  · rw [gv_n ha] at hq h
    exact lv_aloadN hc.1 hc.2.1 hd hq h
  · rw [gv_a (by omega)] at hq h
    exact lv_aload hc.1 hc.2.1 hd hq h
theorem gX_aloadn {k : Fin 4} {a : Int} (hd : decode F.1.2.1 pc = .ok (.aload_n k, 1)) (hi : ls[(k : Nat)]? = some (some (ga a))) (kk : gX l E F (pc + 1) ls (ga a :: st) m bc bs) : gX l E F pc ls (st) m bc bs := by
  intro p e s mm args below meth c H locs lsM cells slots hc hH hS hL hst h1 h2
  have hq := (hL.2.2.2 (k : Nat) _ hi).1
  have h := kk p e s mm args below meth c H locs lsM cells slots hc hH hS hL (gst_cons (v := ga a) trivial hst) h1 h2
  rw [List.map_cons] at h
  by_cases ha : a < 0
  · rw [gv_n ha] at hq h
    exact lv_aload_nN hc.1 hc.2.1 hd rfl hq h
  · rw [gv_a (by omega)] at hq h
    exact lv_aload_n hc.1 hc.2.1 hd rfl hq h
theorem gX_istore {i : Nat} {x : Int} {ls2 : gL} (hd : decode F.1.2.1 pc = .ok (.istore i, 2)) (hn : i < F.1.2.2.1) (he : gS1 ls i (gi x) = ls2) (kk : gX l E F (pc + 2) ls2 st m bc bs) : gX l E F pc ls (gi x :: st) m bc bs := by
  intro p e s mm args below meth c H locs lsM cells slots hc hH hS hL hst h1 h2
  subst he
  refine lv_istore hc.1 hc.2.1 hd hL.has hn rfl (fun lsM2 h9 => ?_)
  exact kk p e s mm args below meth c H locs lsM2 cells slots hc hH hS (hL.st1 (gst_hd hst) h9) (gst_tl hst) h1 h2
theorem gX_istoren {k : Fin 4} {x : Int} {ls2 : gL} (hd : decode F.1.2.1 pc = .ok (.istore_n k, 1)) (hn : (k : Nat) < F.1.2.2.1) (he : gS1 ls (k : Nat) (gi x) = ls2) (kk : gX l E F (pc + 1) ls2 st m bc bs) : gX l E F pc ls (gi x :: st) m bc bs := by
  intro p e s mm args below meth c H locs lsM cells slots hc hH hS hL hst h1 h2
  subst he
  refine lv_istore_n hc.1 hc.2.1 hd rfl hL.has hn rfl (fun lsM2 h9 => ?_)
  exact kk p e s mm args below meth c H locs lsM2 cells slots hc hH hS (hL.st1 (gst_hd hst) h9) (gst_tl hst) h1 h2
theorem gX_lstore {i : Nat} {x : Int} {ls2 : gL} (hd : decode F.1.2.1 pc = .ok (.lstore i, 2)) (hn : i + 1 < F.1.2.2.1) (he : gS2 ls i (gl x) = ls2) (kk : gX l E F (pc + 2) ls2 st m bc bs) : gX l E F pc ls (gl x :: st) m bc bs := by
  intro p e s mm args below meth c H locs lsM cells slots hc hH hS hL hst h1 h2
  subst he
  refine lv_lstore hc.1 hc.2.1 hd hL.has hn rfl (fun lsM2 h9 => ?_)
  exact kk p e s mm args below meth c H locs lsM2 cells slots hc hH hS (hL.st2 (gst_hd hst) h9) (gst_tl hst) h1 h2
theorem gX_lstoren {k : Fin 4} {x : Int} {ls2 : gL} (hd : decode F.1.2.1 pc = .ok (.lstore_n k, 1)) (hn : (k : Nat) + 1 < F.1.2.2.1) (he : gS2 ls (k : Nat) (gl x) = ls2) (kk : gX l E F (pc + 1) ls2 st m bc bs) : gX l E F pc ls (gl x :: st) m bc bs := by
  intro p e s mm args below meth c H locs lsM cells slots hc hH hS hL hst h1 h2
  subst he
  refine lv_lstore_n hc.1 hc.2.1 hd rfl hL.has hn rfl (fun lsM2 h9 => ?_)
  exact kk p e s mm args below meth c H locs lsM2 cells slots hc hH hS (hL.st2 (gst_hd hst) h9) (gst_tl hst) h1 h2
theorem gX_astore {i : Nat} {a : Int} {ls2 : gL} (hd : decode F.1.2.1 pc = .ok (.astore i, 2)) (hn : i < F.1.2.2.1) (he : gS1 ls i (ga a) = ls2) (kk : gX l E F (pc + 2) ls2 st m bc bs) : gX l E F pc ls (ga a :: st) m bc bs := by
  intro p e s mm args below meth c H locs lsM cells slots hc hH hS hL hst h1 h2
  subst he
  have key : ∀ lsM2 : Array Slot, lv_has lsM2 F.1.2.2.1 ((i, gv E (ga a)) :: (gasc E ls).filter (fun q => !(q.1 == i) && !(q.1 + 1 == i && q.2.category == 2))) → W p l e F.2.1 s mm args below meth c H locs cells slots (F.2.2.1 below args s) (F0 mm (pc + 2) lsM2 (st.map (gv E))) := fun lsM2 h9 =>
    kk p e s mm args below meth c H locs lsM2 cells slots hc hH hS (hL.st1 (gst_hd hst) h9) (gst_tl hst) h1 h2
  rw [List.map_cons]
  by_cases ha : a < 0
  · rw [gv_n ha] at key ⊢
    exact lv_astoreN hc.1 hc.2.1 hd hL.has hn rfl key
  · rw [gv_a (by omega)] at key ⊢
    exact lv_astore hc.1 hc.2.1 hd hL.has hn rfl key
theorem gX_astoren {k : Fin 4} {a : Int} {ls2 : gL} (hd : decode F.1.2.1 pc = .ok (.astore_n k, 1)) (hn : (k : Nat) < F.1.2.2.1) (he : gS1 ls (k : Nat) (ga a) = ls2) (kk : gX l E F (pc + 1) ls2 st m bc bs) : gX l E F pc ls (ga a :: st) m bc bs := by
  intro p e s mm args below meth c H locs lsM cells slots hc hH hS hL hst h1 h2
  subst he
  have key : ∀ lsM2 : Array Slot, lv_has lsM2 F.1.2.2.1 (((k : Nat), gv E (ga a)) :: (gasc E ls).filter (fun q => !(q.1 == (k : Nat)) && !(q.1 + 1 == (k : Nat) && q.2.category == 2))) → W p l e F.2.1 s mm args below meth c H locs cells slots (F.2.2.1 below args s) (F0 mm (pc + 1) lsM2 (st.map (gv E))) := fun lsM2 h9 =>
    kk p e s mm args below meth c H locs lsM2 cells slots hc hH hS (hL.st1 (gst_hd hst) h9) (gst_tl hst) h1 h2
  rw [List.map_cons]
  by_cases ha : a < 0
  · rw [gv_n ha] at key ⊢
    exact lv_astore_nN hc.1 hc.2.1 hd rfl hL.has hn rfl key
  · rw [gv_a (by omega)] at key ⊢
    exact lv_astore_n hc.1 hc.2.1 hd rfl hL.has hn rfl key
theorem gX_iinc {i : Nat} {n x : Int} {ls2 : gL} (hd : decode F.1.2.1 pc = .ok (.iinc i n, 3)) (hi : ls[i]? = some (some (gi x))) (hn : i < F.1.2.2.1) (hr : in32 (x + n)) (he : gS1 ls i (gi (x + n)) = ls2) (kk : gX l E F (pc + 3) ls2 st m bc bs) : gX l E F pc ls st m bc bs := by
  intro p e s mm args below meth c H locs lsM cells slots hc hH hS hL hst h1 h2
  subst he
  obtain ⟨k, hk⟩ := List.getElem?_of_mem (gasc_in (E := E) hi)
  refine lv_iinc hc.1 hc.2.1 hd hL.has (k := k) (x := Int32.ofInt x) hk (v := Int32.ofInt (x + n)) (by rw [Int32.ofInt_add]) hn rfl (fun lsM2 h9 => ?_)
  exact kk p e s mm args below meth c H locs lsM2 cells slots hc hH hS (hL.st1 (v := gi (x + n)) hr h9) hst h1 h2
theorem gX_iadd {x y : Int} (hd : decode F.1.2.1 pc = .ok (.iadd, 1)) (hr : in32 (x + y)) (kk : gX l E F (pc + 1) ls (gi (x + y) :: st) m bc bs) : gX l E F pc ls (gi y :: gi x :: st) m bc bs := by
  intro p e s mm args below meth c H locs lsM cells slots hc hH hS hL hst h1 h2
  refine lv_iadd hc.1 hc.2.1 hd ?_
  rw [← Int32.ofInt_add]
  exact kk p e s mm args below meth c H locs lsM cells slots hc hH hS hL (gst_cons hr (gst_tl (gst_tl hst))) h1 h2
theorem gX_isub {x y : Int} (hd : decode F.1.2.1 pc = .ok (.isub, 1)) (hr : in32 (x - y)) (kk : gX l E F (pc + 1) ls (gi (x - y) :: st) m bc bs) : gX l E F pc ls (gi y :: gi x :: st) m bc bs := by
  intro p e s mm args below meth c H locs lsM cells slots hc hH hS hL hst h1 h2
  refine lv_isub hc.1 hc.2.1 hd ?_
  rw [← Int32.ofInt_sub]
  exact kk p e s mm args below meth c H locs lsM cells slots hc hH hS hL (gst_cons hr (gst_tl (gst_tl hst))) h1 h2
theorem gX_imul {x y : Int} (hd : decode F.1.2.1 pc = .ok (.imul, 1)) (hr : in32 (x * y)) (kk : gX l E F (pc + 1) ls (gi (x * y) :: st) m bc bs) : gX l E F pc ls (gi y :: gi x :: st) m bc bs := by
  intro p e s mm args below meth c H locs lsM cells slots hc hH hS hL hst h1 h2
  refine lv_imul hc.1 hc.2.1 hd ?_
  rw [← Int32.ofInt_mul]
  exact kk p e s mm args below meth c H locs lsM cells slots hc hH hS hL (gst_cons hr (gst_tl (gst_tl hst))) h1 h2
theorem gX_ladd {x y : Int} (hd : decode F.1.2.1 pc = .ok (.ladd, 1)) (hr : in64 (x + y)) (kk : gX l E F (pc + 1) ls (gl (x + y) :: st) m bc bs) : gX l E F pc ls (gl y :: gl x :: st) m bc bs := by
  intro p e s mm args below meth c H locs lsM cells slots hc hH hS hL hst h1 h2
  refine lv_ladd hc.1 hc.2.1 hd ?_
  rw [← Int64.ofInt_add]
  exact kk p e s mm args below meth c H locs lsM cells slots hc hH hS hL (gst_cons (v := gl (x + y)) hr (gst_tl (gst_tl hst))) h1 h2
theorem gX_lsub {x y : Int} (hd : decode F.1.2.1 pc = .ok (.lsub, 1)) (hr : in64 (x - y)) (kk : gX l E F (pc + 1) ls (gl (x - y) :: st) m bc bs) : gX l E F pc ls (gl y :: gl x :: st) m bc bs := by
  intro p e s mm args below meth c H locs lsM cells slots hc hH hS hL hst h1 h2
  refine lv_lsub hc.1 hc.2.1 hd ?_
  rw [← Int64.ofInt_sub]
  exact kk p e s mm args below meth c H locs lsM cells slots hc hH hS hL (gst_cons (v := gl (x - y)) hr (gst_tl (gst_tl hst))) h1 h2
theorem gX_lmul {x y : Int} (hd : decode F.1.2.1 pc = .ok (.lmul, 1)) (hr : in64 (x * y)) (kk : gX l E F (pc + 1) ls (gl (x * y) :: st) m bc bs) : gX l E F pc ls (gl y :: gl x :: st) m bc bs := by
  intro p e s mm args below meth c H locs lsM cells slots hc hH hS hL hst h1 h2
  refine lv_lmul hc.1 hc.2.1 hd ?_
  rw [← Int64.ofInt_mul]
  exact kk p e s mm args below meth c H locs lsM cells slots hc hH hS hL (gst_cons (v := gl (x * y)) hr (gst_tl (gst_tl hst))) h1 h2
theorem gX_iand {x y : Int} (hd : decode F.1.2.1 pc = .ok (.iand, 1)) (kk : gX l E F (pc + 1) ls (gi (gand x y) :: st) m bc bs) : gX l E F pc ls (gi y :: gi x :: st) m bc bs := by
  intro p e s mm args below meth c H locs lsM cells slots hc hH hS hL hst h1 h2
  have e9 := i32_ofToInt
  refine lv_iand hc.1 hc.2.1 hd ?_
  have h := kk p e s mm args below meth c H locs lsM cells slots hc hH hS hL (gst_cons (v := gi (gand x y)) (in32_toInt _) (gst_tl (gst_tl hst))) h1 h2
  unfold gand at h
  rw [List.map_cons, show gv E (gi _) = .int (Int32.ofInt _) from rfl, i32_ofToInt] at h
  exact h
theorem gX_ior {x y : Int} (hd : decode F.1.2.1 pc = .ok (.ior, 1)) (kk : gX l E F (pc + 1) ls (gi (gor x y) :: st) m bc bs) : gX l E F pc ls (gi y :: gi x :: st) m bc bs := by
  intro p e s mm args below meth c H locs lsM cells slots hc hH hS hL hst h1 h2
  have e9 := i32_ofToInt
  refine lv_ior hc.1 hc.2.1 hd ?_
  have h := kk p e s mm args below meth c H locs lsM cells slots hc hH hS hL (gst_cons (v := gi (gor x y)) (in32_toInt _) (gst_tl (gst_tl hst))) h1 h2
  unfold gor at h
  rw [List.map_cons, show gv E (gi _) = .int (Int32.ofInt _) from rfl, i32_ofToInt] at h
  exact h
theorem gX_ixor {x y : Int} (hd : decode F.1.2.1 pc = .ok (.ixor, 1)) (kk : gX l E F (pc + 1) ls (gi (gxor x y) :: st) m bc bs) : gX l E F pc ls (gi y :: gi x :: st) m bc bs := by
  intro p e s mm args below meth c H locs lsM cells slots hc hH hS hL hst h1 h2
  have e9 := i32_ofToInt
  refine lv_ixor hc.1 hc.2.1 hd ?_
  have h := kk p e s mm args below meth c H locs lsM cells slots hc hH hS hL (gst_cons (v := gi (gxor x y)) (in32_toInt _) (gst_tl (gst_tl hst))) h1 h2
  unfold gxor at h
  rw [List.map_cons, show gv E (gi _) = .int (Int32.ofInt _) from rfl, i32_ofToInt] at h
  exact h
theorem gX_ishl {x y : Int} (hd : decode F.1.2.1 pc = .ok (.ishl, 1)) (kk : gX l E F (pc + 1) ls (gi (gshl x y) :: st) m bc bs) : gX l E F pc ls (gi y :: gi x :: st) m bc bs := by
  intro p e s mm args below meth c H locs lsM cells slots hc hH hS hL hst h1 h2
  have e9 := i32_ofToInt
  refine lv_ishl hc.1 hc.2.1 hd ?_
  have h := kk p e s mm args below meth c H locs lsM cells slots hc hH hS hL (gst_cons (v := gi (gshl x y)) (in32_toInt _) (gst_tl (gst_tl hst))) h1 h2
  unfold gshl at h
  rw [List.map_cons, show gv E (gi _) = .int (Int32.ofInt _) from rfl, i32_ofToInt] at h
  exact h
theorem gX_ishr {x y : Int} (hd : decode F.1.2.1 pc = .ok (.ishr, 1)) (kk : gX l E F (pc + 1) ls (gi (gshr x y) :: st) m bc bs) : gX l E F pc ls (gi y :: gi x :: st) m bc bs := by
  intro p e s mm args below meth c H locs lsM cells slots hc hH hS hL hst h1 h2
  have e9 := i32_ofToInt
  refine lv_ishr hc.1 hc.2.1 hd ?_
  have h := kk p e s mm args below meth c H locs lsM cells slots hc hH hS hL (gst_cons (v := gi (gshr x y)) (in32_toInt _) (gst_tl (gst_tl hst))) h1 h2
  unfold gshr at h
  rw [List.map_cons, show gv E (gi _) = .int (Int32.ofInt _) from rfl, i32_ofToInt] at h
  exact h
theorem gX_iushr {x y : Int} (hd : decode F.1.2.1 pc = .ok (.iushr, 1)) (kk : gX l E F (pc + 1) ls (gi (gushr x y) :: st) m bc bs) : gX l E F pc ls (gi y :: gi x :: st) m bc bs := by
  intro p e s mm args below meth c H locs lsM cells slots hc hH hS hL hst h1 h2
  have e9 := i32_ofToInt
  refine lv_iushr hc.1 hc.2.1 hd rfl ?_
  have h := kk p e s mm args below meth c H locs lsM cells slots hc hH hS hL (gst_cons (v := gi (gushr x y)) (in32_toInt _) (gst_tl (gst_tl hst))) h1 h2
  unfold gushr at h
  rw [List.map_cons, show gv E (gi _) = .int (Int32.ofInt _) from rfl, i32_ofToInt] at h
  exact h
theorem gX_land {x y : Int} (hd : decode F.1.2.1 pc = .ok (.land, 1)) (kk : gX l E F (pc + 1) ls (gl (gland x y) :: st) m bc bs) : gX l E F pc ls (gl y :: gl x :: st) m bc bs := by
  intro p e s mm args below meth c H locs lsM cells slots hc hH hS hL hst h1 h2
  have e9 := i64_ofToInt
  refine lv_land hc.1 hc.2.1 hd ?_
  have h := kk p e s mm args below meth c H locs lsM cells slots hc hH hS hL (gst_cons (v := gl (gland x y)) (in64_toInt _) (gst_tl (gst_tl hst))) h1 h2
  unfold gland at h
  rw [List.map_cons, show gv E (gl _) = .long (Int64.ofInt _) from rfl, i64_ofToInt] at h
  exact h
theorem gX_lor {x y : Int} (hd : decode F.1.2.1 pc = .ok (.lor, 1)) (kk : gX l E F (pc + 1) ls (gl (glor x y) :: st) m bc bs) : gX l E F pc ls (gl y :: gl x :: st) m bc bs := by
  intro p e s mm args below meth c H locs lsM cells slots hc hH hS hL hst h1 h2
  have e9 := i64_ofToInt
  refine lv_lor hc.1 hc.2.1 hd ?_
  have h := kk p e s mm args below meth c H locs lsM cells slots hc hH hS hL (gst_cons (v := gl (glor x y)) (in64_toInt _) (gst_tl (gst_tl hst))) h1 h2
  unfold glor at h
  rw [List.map_cons, show gv E (gl _) = .long (Int64.ofInt _) from rfl, i64_ofToInt] at h
  exact h
theorem gX_lxor {x y : Int} (hd : decode F.1.2.1 pc = .ok (.lxor, 1)) (kk : gX l E F (pc + 1) ls (gl (glxor x y) :: st) m bc bs) : gX l E F pc ls (gl y :: gl x :: st) m bc bs := by
  intro p e s mm args below meth c H locs lsM cells slots hc hH hS hL hst h1 h2
  have e9 := i64_ofToInt
  refine lv_lxor hc.1 hc.2.1 hd ?_
  have h := kk p e s mm args below meth c H locs lsM cells slots hc hH hS hL (gst_cons (v := gl (glxor x y)) (in64_toInt _) (gst_tl (gst_tl hst))) h1 h2
  unfold glxor at h
  rw [List.map_cons, show gv E (gl _) = .long (Int64.ofInt _) from rfl, i64_ofToInt] at h
  exact h
theorem gX_lshl {x y : Int} (hd : decode F.1.2.1 pc = .ok (.lshl, 1)) (kk : gX l E F (pc + 1) ls (gl (glshl x y) :: st) m bc bs) : gX l E F pc ls (gi y :: gl x :: st) m bc bs := by
  intro p e s mm args below meth c H locs lsM cells slots hc hH hS hL hst h1 h2
  have e9 := i64_ofToInt
  refine lv_lshl hc.1 hc.2.1 hd rfl ?_
  have h := kk p e s mm args below meth c H locs lsM cells slots hc hH hS hL (gst_cons (v := gl (glshl x y)) (in64_toInt _) (gst_tl (gst_tl hst))) h1 h2
  unfold glshl at h
  rw [List.map_cons, show gv E (gl _) = .long (Int64.ofInt _) from rfl, i64_ofToInt] at h
  exact h
theorem gX_lshr {x y : Int} (hd : decode F.1.2.1 pc = .ok (.lshr, 1)) (kk : gX l E F (pc + 1) ls (gl (glshr x y) :: st) m bc bs) : gX l E F pc ls (gi y :: gl x :: st) m bc bs := by
  intro p e s mm args below meth c H locs lsM cells slots hc hH hS hL hst h1 h2
  have e9 := i64_ofToInt
  refine lv_lshr hc.1 hc.2.1 hd rfl ?_
  have h := kk p e s mm args below meth c H locs lsM cells slots hc hH hS hL (gst_cons (v := gl (glshr x y)) (in64_toInt _) (gst_tl (gst_tl hst))) h1 h2
  unfold glshr at h
  rw [List.map_cons, show gv E (gl _) = .long (Int64.ofInt _) from rfl, i64_ofToInt] at h
  exact h
theorem gX_lushr {x y : Int} (hd : decode F.1.2.1 pc = .ok (.lushr, 1)) (kk : gX l E F (pc + 1) ls (gl (glushr x y) :: st) m bc bs) : gX l E F pc ls (gi y :: gl x :: st) m bc bs := by
  intro p e s mm args below meth c H locs lsM cells slots hc hH hS hL hst h1 h2
  have e9 := i64_ofToInt
  refine lv_lushr hc.1 hc.2.1 hd rfl ?_
  have h := kk p e s mm args below meth c H locs lsM cells slots hc hH hS hL (gst_cons (v := gl (glushr x y)) (in64_toInt _) (gst_tl (gst_tl hst))) h1 h2
  unfold glushr at h
  rw [List.map_cons, show gv E (gl _) = .long (Int64.ofInt _) from rfl, i64_ofToInt] at h
  exact h
theorem gX_idiv {x y : Int} (hd : decode F.1.2.1 pc = .ok (.idiv, 1)) (h0 : 0 ≤ x) (hy : 0 < y) (kk : gX l E F (pc + 1) ls (gi (x / y) :: st) m bc bs) : gX l E F pc ls (gi y :: gi x :: st) m bc bs := by
  intro p e s mm args below meth c H locs lsM cells slots hc hH hS hL hst h1 h2
  have g1 : in32 y := gst_hd hst
  have g2 : in32 x := gst_hd (gst_tl hst)
  refine lv_idiv hc.1 hc.2.1 hd (fun z => ?_) ?_
  · rw [← i32_0, i32_eq g1 ⟨by omega, by omega⟩] at z
    omega
  rw [i32_div g2 g1 h0 hy]
  exact kk p e s mm args below meth c H locs lsM cells slots hc hH hS hL (gst_cons (i32_div_in g2 h0 hy) (gst_tl (gst_tl hst))) h1 h2
theorem gX_irem {x y : Int} (hd : decode F.1.2.1 pc = .ok (.irem, 1)) (h0 : 0 ≤ x) (hy : 0 < y) (kk : gX l E F (pc + 1) ls (gi (x % y) :: st) m bc bs) : gX l E F pc ls (gi y :: gi x :: st) m bc bs := by
  intro p e s mm args below meth c H locs lsM cells slots hc hH hS hL hst h1 h2
  have g1 : in32 y := gst_hd hst
  have g2 : in32 x := gst_hd (gst_tl hst)
  refine lv_irem hc.1 hc.2.1 hd (fun z => ?_) ?_
  · rw [← i32_0, i32_eq g1 ⟨by omega, by omega⟩] at z
    omega
  rw [i32_mod g2 g1 h0 hy]
  exact kk p e s mm args below meth c H locs lsM cells slots hc hH hS hL (gst_cons (i32_mod_in g1 hy) (gst_tl (gst_tl hst))) h1 h2
theorem gX_i2l {x : Int} (hd : decode F.1.2.1 pc = .ok (.i2l, 1)) (kk : gX l E F (pc + 1) ls (gl x :: st) m bc bs) : gX l E F pc ls (gi x :: st) m bc bs := by
  intro p e s mm args below meth c H locs lsM cells slots hc hH hS hL hst h1 h2
  have g1 : in32 x := gst_hd hst
  refine lv_i2l hc.1 hc.2.1 hd (v := Int64.ofInt x) (Int32.toInt64_ofInt g1.1 g1.2) ?_
  exact kk p e s mm args below meth c H locs lsM cells slots hc hH hS hL (gst_cons (v := gl x) (in32_64 g1) (gst_tl hst)) h1 h2
theorem gX_l2i {x : Int} (hd : decode F.1.2.1 pc = .ok (.l2i, 1)) (kk : gX l E F (pc + 1) ls (gi (gl2i x) :: st) m bc bs) : gX l E F pc ls (gl x :: st) m bc bs := by
  intro p e s mm args below meth c H locs lsM cells slots hc hH hS hL hst h1 h2
  refine lv_l2i hc.1 hc.2.1 hd (v := Int32.ofInt (gl2i x)) ?_ ?_
  · unfold gl2i
    rw [i32_ofToInt]
  exact kk p e s mm args below meth c H locs lsM cells slots hc hH hS hL (gst_cons (v := gi (gl2i x)) (in32_toInt _) (gst_tl hst)) h1 h2
theorem gX_lcmp {x y : Int} (hd : decode F.1.2.1 pc = .ok (.lcmp, 1)) (kk : gX l E F (pc + 1) ls (gi (gcmp x y) :: st) m bc bs) : gX l E F pc ls (gl y :: gl x :: st) m bc bs := by
  intro p e s mm args below meth c H locs lsM cells slots hc hH hS hL hst h1 h2
  have g1 : in64 y := gst_hd hst
  have g2 : in64 x := gst_hd (gst_tl hst)
  refine W.lcmp hc.1 hc.2.1 hd ?_
  rw [i64_cmp g2 g1]
  exact kk p e s mm args below meth c H locs lsM cells slots hc hH hS hL (gst_cons (gcmp_in x y) (gst_tl (gst_tl hst))) h1 h2
theorem gX_dup {v : gV} (hd : decode F.1.2.1 pc = .ok (.dup, 1)) (hv : gcat v = 1) (kk : gX l E F (pc + 1) ls (v :: v :: st) m bc bs) : gX l E F pc ls (v :: st) m bc bs := by
  intro p e s mm args below meth c H locs lsM cells slots hc hH hS hL hst h1 h2
  refine lv_dup hc.1 hc.2.1 hd (by rw [gv_cat]; exact hv) ?_
  exact kk p e s mm args below meth c H locs lsM cells slots hc hH hS hL (gst_cons (gst_hd hst) hst) h1 h2
theorem gX_pop {v : gV} (hd : decode F.1.2.1 pc = .ok (.pop, 1)) (hv : gcat v = 1) (kk : gX l E F (pc + 1) ls (st) m bc bs) : gX l E F pc ls (v :: st) m bc bs := by
  intro p e s mm args below meth c H locs lsM cells slots hc hH hS hL hst h1 h2
  refine lv_pop hc.1 hc.2.1 hd (by rw [gv_cat]; exact hv) ?_
  exact kk p e s mm args below meth c H locs lsM cells slots hc hH hS hL (gst_tl hst) h1 h2
theorem gX_dup2 {v u : gV} (hd : decode F.1.2.1 pc = .ok (.dup2, 1)) (hv : gcat v = 1) (hu : gcat u = 1) (kk : gX l E F (pc + 1) ls (v :: u :: v :: u :: st) m bc bs) : gX l E F pc ls (v :: u :: st) m bc bs := by
  intro p e s mm args below meth c H locs lsM cells slots hc hH hS hL hst h1 h2
  refine lv_dup2_11 hc.1 hc.2.1 hd (by rw [gv_cat]; exact hv) (by rw [gv_cat]; exact hu) ?_
  exact kk p e s mm args below meth c H locs lsM cells slots hc hH hS hL (gst_cons (gst_hd hst) (gst_cons (gst_hd (gst_tl hst)) hst)) h1 h2
theorem gX_dup2l {x : Int} (hd : decode F.1.2.1 pc = .ok (.dup2, 1)) (kk : gX l E F (pc + 1) ls (gl x :: gl x :: st) m bc bs) : gX l E F pc ls (gl x :: st) m bc bs := by
  intro p e s mm args below meth c H locs lsM cells slots hc hH hS hL hst h1 h2
  refine lv_dup2_2 hc.1 hc.2.1 hd rfl ?_
  exact kk p e s mm args below meth c H locs lsM cells slots hc hH hS hL (gst_cons (gst_hd hst) hst) h1 h2
theorem gX_ifeq {x off : Int} {tgt : Nat} (hd : decode F.1.2.1 pc = .ok (.ifCond .eq off, 3)) (ht : (pc : Int) + off = (tgt : Int)) (kt : x = 0 → gX l E F tgt ls st m bc bs) (kf : ¬ x = 0 → gX l E F (pc + 3) ls st m bc bs) : gX l E F pc ls (gi x :: st) m bc bs := by
  intro p e s mm args below meth c H locs lsM cells slots hc hH hS hL hst h1 h2
  have g1 : in32 x := gst_hd hst
  have g0 : in32 0 := ⟨by omega, by omega⟩
  have ee := i32_eq g1 g0
  rw [i32_0] at ee
  refine lv_if_eq hc.1 hc.2.1 hd ht (fun z => kt (ee.mp z) p e s mm args below meth c H locs lsM cells slots hc hH hS hL (gst_tl hst) h1 h2) (fun z => kf ?_ p e s mm args below meth c H locs lsM cells slots hc hH hS hL (gst_tl hst) h1 h2)
  exact fun y => z (ee.mpr y)
theorem gX_ifne {x off : Int} {tgt : Nat} (hd : decode F.1.2.1 pc = .ok (.ifCond .ne off, 3)) (ht : (pc : Int) + off = (tgt : Int)) (kt : ¬ x = 0 → gX l E F tgt ls st m bc bs) (kf : x = 0 → gX l E F (pc + 3) ls st m bc bs) : gX l E F pc ls (gi x :: st) m bc bs := by
  intro p e s mm args below meth c H locs lsM cells slots hc hH hS hL hst h1 h2
  have g1 : in32 x := gst_hd hst
  have g0 : in32 0 := ⟨by omega, by omega⟩
  have ee := not_congr (i32_eq g1 g0)
  rw [i32_0] at ee
  refine lv_if_ne hc.1 hc.2.1 hd ht (fun z => kt (ee.mp z) p e s mm args below meth c H locs lsM cells slots hc hH hS hL (gst_tl hst) h1 h2) (fun z => kf ?_ p e s mm args below meth c H locs lsM cells slots hc hH hS hL (gst_tl hst) h1 h2)
  exact (i32_eq g1 g0).mp z
theorem gX_iflt {x off : Int} {tgt : Nat} (hd : decode F.1.2.1 pc = .ok (.ifCond .lt off, 3)) (ht : (pc : Int) + off = (tgt : Int)) (kt : x < 0 → gX l E F tgt ls st m bc bs) (kf : ¬ x < 0 → gX l E F (pc + 3) ls st m bc bs) : gX l E F pc ls (gi x :: st) m bc bs := by
  intro p e s mm args below meth c H locs lsM cells slots hc hH hS hL hst h1 h2
  have g1 : in32 x := gst_hd hst
  have g0 : in32 0 := ⟨by omega, by omega⟩
  have ee := i32_lt g1 g0
  rw [i32_0] at ee
  refine lv_if_lt hc.1 hc.2.1 hd ht (fun z => kt (ee.mp z) p e s mm args below meth c H locs lsM cells slots hc hH hS hL (gst_tl hst) h1 h2) (fun z => kf ?_ p e s mm args below meth c H locs lsM cells slots hc hH hS hL (gst_tl hst) h1 h2)
  exact fun y => z (ee.mpr y)
theorem gX_ifge {x off : Int} {tgt : Nat} (hd : decode F.1.2.1 pc = .ok (.ifCond .ge off, 3)) (ht : (pc : Int) + off = (tgt : Int)) (kt : 0 ≤ x → gX l E F tgt ls st m bc bs) (kf : ¬ 0 ≤ x → gX l E F (pc + 3) ls st m bc bs) : gX l E F pc ls (gi x :: st) m bc bs := by
  intro p e s mm args below meth c H locs lsM cells slots hc hH hS hL hst h1 h2
  have g1 : in32 x := gst_hd hst
  have g0 : in32 0 := ⟨by omega, by omega⟩
  have ee := i32_le g0 g1
  rw [i32_0] at ee
  refine lv_if_ge hc.1 hc.2.1 hd ht (fun z => kt (ee.mp z) p e s mm args below meth c H locs lsM cells slots hc hH hS hL (gst_tl hst) h1 h2) (fun z => kf ?_ p e s mm args below meth c H locs lsM cells slots hc hH hS hL (gst_tl hst) h1 h2)
  exact fun y => z (ee.mpr y)
theorem gX_ifgt {x off : Int} {tgt : Nat} (hd : decode F.1.2.1 pc = .ok (.ifCond .gt off, 3)) (ht : (pc : Int) + off = (tgt : Int)) (kt : 0 < x → gX l E F tgt ls st m bc bs) (kf : ¬ 0 < x → gX l E F (pc + 3) ls st m bc bs) : gX l E F pc ls (gi x :: st) m bc bs := by
  intro p e s mm args below meth c H locs lsM cells slots hc hH hS hL hst h1 h2
  have g1 : in32 x := gst_hd hst
  have g0 : in32 0 := ⟨by omega, by omega⟩
  have ee := i32_lt g0 g1
  rw [i32_0] at ee
  refine lv_if_gt hc.1 hc.2.1 hd ht (fun z => kt (ee.mp z) p e s mm args below meth c H locs lsM cells slots hc hH hS hL (gst_tl hst) h1 h2) (fun z => kf ?_ p e s mm args below meth c H locs lsM cells slots hc hH hS hL (gst_tl hst) h1 h2)
  exact fun y => z (ee.mpr y)
theorem gX_ifle {x off : Int} {tgt : Nat} (hd : decode F.1.2.1 pc = .ok (.ifCond .le off, 3)) (ht : (pc : Int) + off = (tgt : Int)) (kt : x ≤ 0 → gX l E F tgt ls st m bc bs) (kf : ¬ x ≤ 0 → gX l E F (pc + 3) ls st m bc bs) : gX l E F pc ls (gi x :: st) m bc bs := by
  intro p e s mm args below meth c H locs lsM cells slots hc hH hS hL hst h1 h2
  have g1 : in32 x := gst_hd hst
  have g0 : in32 0 := ⟨by omega, by omega⟩
  have ee := i32_le g1 g0
  rw [i32_0] at ee
  refine lv_if_le hc.1 hc.2.1 hd ht (fun z => kt (ee.mp z) p e s mm args below meth c H locs lsM cells slots hc hH hS hL (gst_tl hst) h1 h2) (fun z => kf ?_ p e s mm args below meth c H locs lsM cells slots hc hH hS hL (gst_tl hst) h1 h2)
  exact fun y => z (ee.mpr y)
theorem gX_icmpeq {x y off : Int} {tgt : Nat} (hd : decode F.1.2.1 pc = .ok (.if_icmp .eq off, 3)) (ht : (pc : Int) + off = (tgt : Int)) (kt : x = y → gX l E F tgt ls st m bc bs) (kf : ¬ x = y → gX l E F (pc + 3) ls st m bc bs) : gX l E F pc ls (gi y :: gi x :: st) m bc bs := by
  intro p e s mm args below meth c H locs lsM cells slots hc hH hS hL hst h1 h2
  have g0 : in32 y := gst_hd hst
  have g1 : in32 x := gst_hd (gst_tl hst)
  have ee := i32_eq g1 g0
  refine lv_icmp_eq hc.1 hc.2.1 hd ht (fun z => kt (ee.mp z) p e s mm args below meth c H locs lsM cells slots hc hH hS hL (gst_tl (gst_tl hst)) h1 h2) (fun z => kf ?_ p e s mm args below meth c H locs lsM cells slots hc hH hS hL (gst_tl (gst_tl hst)) h1 h2)
  exact fun y => z (ee.mpr y)
theorem gX_icmpne {x y off : Int} {tgt : Nat} (hd : decode F.1.2.1 pc = .ok (.if_icmp .ne off, 3)) (ht : (pc : Int) + off = (tgt : Int)) (kt : ¬ x = y → gX l E F tgt ls st m bc bs) (kf : x = y → gX l E F (pc + 3) ls st m bc bs) : gX l E F pc ls (gi y :: gi x :: st) m bc bs := by
  intro p e s mm args below meth c H locs lsM cells slots hc hH hS hL hst h1 h2
  have g0 : in32 y := gst_hd hst
  have g1 : in32 x := gst_hd (gst_tl hst)
  have ee := not_congr (i32_eq g1 g0)
  refine lv_icmp_ne hc.1 hc.2.1 hd ht (fun z => kt (ee.mp z) p e s mm args below meth c H locs lsM cells slots hc hH hS hL (gst_tl (gst_tl hst)) h1 h2) (fun z => kf ?_ p e s mm args below meth c H locs lsM cells slots hc hH hS hL (gst_tl (gst_tl hst)) h1 h2)
  exact (i32_eq g1 g0).mp z
theorem gX_icmplt {x y off : Int} {tgt : Nat} (hd : decode F.1.2.1 pc = .ok (.if_icmp .lt off, 3)) (ht : (pc : Int) + off = (tgt : Int)) (kt : x < y → gX l E F tgt ls st m bc bs) (kf : ¬ x < y → gX l E F (pc + 3) ls st m bc bs) : gX l E F pc ls (gi y :: gi x :: st) m bc bs := by
  intro p e s mm args below meth c H locs lsM cells slots hc hH hS hL hst h1 h2
  have g0 : in32 y := gst_hd hst
  have g1 : in32 x := gst_hd (gst_tl hst)
  have ee := i32_lt g1 g0
  refine lv_icmp_lt hc.1 hc.2.1 hd ht (fun z => kt (ee.mp z) p e s mm args below meth c H locs lsM cells slots hc hH hS hL (gst_tl (gst_tl hst)) h1 h2) (fun z => kf ?_ p e s mm args below meth c H locs lsM cells slots hc hH hS hL (gst_tl (gst_tl hst)) h1 h2)
  exact fun y => z (ee.mpr y)
theorem gX_icmpge {x y off : Int} {tgt : Nat} (hd : decode F.1.2.1 pc = .ok (.if_icmp .ge off, 3)) (ht : (pc : Int) + off = (tgt : Int)) (kt : y ≤ x → gX l E F tgt ls st m bc bs) (kf : ¬ y ≤ x → gX l E F (pc + 3) ls st m bc bs) : gX l E F pc ls (gi y :: gi x :: st) m bc bs := by
  intro p e s mm args below meth c H locs lsM cells slots hc hH hS hL hst h1 h2
  have g0 : in32 y := gst_hd hst
  have g1 : in32 x := gst_hd (gst_tl hst)
  have ee := i32_le g0 g1
  refine lv_icmp_ge hc.1 hc.2.1 hd ht (fun z => kt (ee.mp z) p e s mm args below meth c H locs lsM cells slots hc hH hS hL (gst_tl (gst_tl hst)) h1 h2) (fun z => kf ?_ p e s mm args below meth c H locs lsM cells slots hc hH hS hL (gst_tl (gst_tl hst)) h1 h2)
  exact fun y => z (ee.mpr y)
theorem gX_icmpgt {x y off : Int} {tgt : Nat} (hd : decode F.1.2.1 pc = .ok (.if_icmp .gt off, 3)) (ht : (pc : Int) + off = (tgt : Int)) (kt : y < x → gX l E F tgt ls st m bc bs) (kf : ¬ y < x → gX l E F (pc + 3) ls st m bc bs) : gX l E F pc ls (gi y :: gi x :: st) m bc bs := by
  intro p e s mm args below meth c H locs lsM cells slots hc hH hS hL hst h1 h2
  have g0 : in32 y := gst_hd hst
  have g1 : in32 x := gst_hd (gst_tl hst)
  have ee := i32_lt g0 g1
  refine lv_icmp_gt hc.1 hc.2.1 hd ht (fun z => kt (ee.mp z) p e s mm args below meth c H locs lsM cells slots hc hH hS hL (gst_tl (gst_tl hst)) h1 h2) (fun z => kf ?_ p e s mm args below meth c H locs lsM cells slots hc hH hS hL (gst_tl (gst_tl hst)) h1 h2)
  exact fun y => z (ee.mpr y)
theorem gX_icmple {x y off : Int} {tgt : Nat} (hd : decode F.1.2.1 pc = .ok (.if_icmp .le off, 3)) (ht : (pc : Int) + off = (tgt : Int)) (kt : x ≤ y → gX l E F tgt ls st m bc bs) (kf : ¬ x ≤ y → gX l E F (pc + 3) ls st m bc bs) : gX l E F pc ls (gi y :: gi x :: st) m bc bs := by
  intro p e s mm args below meth c H locs lsM cells slots hc hH hS hL hst h1 h2
  have g0 : in32 y := gst_hd hst
  have g1 : in32 x := gst_hd (gst_tl hst)
  have ee := i32_le g1 g0
  refine lv_icmp_le hc.1 hc.2.1 hd ht (fun z => kt (ee.mp z) p e s mm args below meth c H locs lsM cells slots hc hH hS hL (gst_tl (gst_tl hst)) h1 h2) (fun z => kf ?_ p e s mm args below meth c H locs lsM cells slots hc hH hS hL (gst_tl (gst_tl hst)) h1 h2)
  exact fun y => z (ee.mpr y)
theorem gX_goto {off : Int} {tgt : Nat} (hd : decode F.1.2.1 pc = .ok (.goto off, 3)) (ht : (pc : Int) + off = (tgt : Int)) (kk : gX l E F tgt ls st m bc bs) : gX l E F pc ls st m bc bs := by
  intro p e s mm args below meth c H locs lsM cells slots hc hH hS hL hst h1 h2
  exact lv_goto hc.1 hc.2.1 hd ht (kk p e s mm args below meth c H locs lsM cells slots hc hH hS hL hst h1 h2)
theorem gX_ifnull {a off : Int} {tgt : Nat} (hd : decode F.1.2.1 pc = .ok (.ifnull off, 3)) (ht : (pc : Int) + off = (tgt : Int)) (kt : a < 0 → gX l E F tgt ls st m bc bs) (kf : 0 ≤ a → gX l E F (pc + 3) ls st m bc bs) : gX l E F pc ls (ga a :: st) m bc bs := by
  intro p e s mm args below meth c H locs lsM cells slots hc hH hS hL hst h1 h2
  rw [List.map_cons]
  by_cases ha : a < 0
  · rw [gv_n ha]
    exact lv_ifnullN hc.1 hc.2.1 hd ht (kt ha p e s mm args below meth c H locs lsM cells slots hc hH hS hL (gst_tl hst) h1 h2)
  · rw [gv_a (by omega)]
    exact lv_ifnull hc.1 hc.2.1 hd (kf (by omega) p e s mm args below meth c H locs lsM cells slots hc hH hS hL (gst_tl hst) h1 h2)
theorem gX_ifnonnull {a off : Int} {tgt : Nat} (hd : decode F.1.2.1 pc = .ok (.ifnonnull off, 3)) (ht : (pc : Int) + off = (tgt : Int)) (kt : 0 ≤ a → gX l E F tgt ls st m bc bs) (kf : a < 0 → gX l E F (pc + 3) ls st m bc bs) : gX l E F pc ls (ga a :: st) m bc bs := by
  intro p e s mm args below meth c H locs lsM cells slots hc hH hS hL hst h1 h2
  rw [List.map_cons]
  by_cases ha : a < 0
  · rw [gv_n ha]
    exact lv_ifnonnullN hc.1 hc.2.1 hd (kf ha p e s mm args below meth c H locs lsM cells slots hc hH hS hL (gst_tl hst) h1 h2)
  · rw [gv_a (by omega)]
    exact lv_ifnonnull hc.1 hc.2.1 hd ht (kt (by omega) p e s mm args below meth c H locs lsM cells slots hc hH hS hL (gst_tl hst) h1 h2)
/-- a switch over a table: where x is in, its place; else the default -/
theorem gX_table {x dflt lo hi : Int} {offs : Array Int} {len : Nat} (hd : decode F.1.2.1 pc = .ok (.tableswitch dflt lo hi offs, len)) (kk : ∀ tgt : Nat, (((x < lo ∨ hi < x) ∧ (pc : Int) + dflt = (tgt : Int)) ∨ (lo ≤ x ∧ x ≤ hi ∧ ∃ off, offs[(x - lo).toNat]? = some off ∧ (pc : Int) + off = (tgt : Int))) → gX l E F tgt ls st m bc bs) (hq : ∃ tgt : Nat, ((x < lo ∨ hi < x) ∧ (pc : Int) + dflt = (tgt : Int)) ∨ (lo ≤ x ∧ x ≤ hi ∧ ∃ off, offs[(x - lo).toNat]? = some off ∧ (pc : Int) + off = (tgt : Int))) : gX l E F pc ls (gi x :: st) m bc bs := by
  intro p e s mm args below meth c H locs lsM cells slots hc hH hS hL hst h1 h2
  have g1 : in32 x := gst_hd hst
  obtain ⟨tgt, hq⟩ := hq
  have h := kk tgt hq p e s mm args below meth c H locs lsM cells slots hc hH hS hL (gst_tl hst) h1 h2
  rcases hq with ⟨q1, q2⟩ | ⟨q1, q2, off, q3, q4⟩
  · exact lv_tableOut hc.1 hc.2.1 hd (by rw [i32_toInt g1]; exact q1) q2 h
  · exact lv_tableIn hc.1 hc.2.1 hd (by rw [i32_toInt g1]; omega) (by rw [i32_toInt g1]; omega) (by rw [i32_toInt g1]; exact q3) q4 h
theorem gX_lookup {x dflt : Int} {ps : Array (Int × Int)} {len : Nat} (hd : decode F.1.2.1 pc = .ok (.lookupswitch dflt ps, len)) (hp : (ps.toList.zip (ps.toList.drop 1)).all (fun (a, next) => a.1 < next.1) = true) {off : Int} {tgt : Nat} (ho : Op.lookupswitch.offset ps.toList dflt x = off) (ht : (pc : Int) + off = (tgt : Int)) (kk : gX l E F tgt ls st m bc bs) : gX l E F pc ls (gi x :: st) m bc bs := by
  intro p e s mm args below meth c H locs lsM cells slots hc hH hS hL hst h1 h2
  have g1 : in32 x := gst_hd hst
  exact lv_lookup hc.1 hc.2.1 hd hp (by rw [i32_toInt g1]; exact ho) ht (kk p e s mm args below meth c H locs lsM cells slots hc hH hS hL (gst_tl hst) h1 h2)
/-- a table with the cases as a list: (value, target) and the default's target -/
theorem gX_tab {x dflt lo hi : Int} {offs : Array Int} {len dt : Nat} (ts : List Nat) (hd : decode F.1.2.1 pc = .ok (.tableswitch dflt lo hi offs, len)) (hts : offs.toList = ts.map (fun (t : Nat) => (t : Int) - (pc : Int))) (hlen : hi - lo + 1 = (ts.length : Int)) (hdt : (pc : Int) + dflt = (dt : Int)) (k0 : x < lo ∨ hi < x → gX l E F dt ls st m bc bs) (k1 : ∀ (i t : Nat), ts[i]? = some t → x = lo + (i : Int) → gX l E F t ls st m bc bs) : gX l E F pc ls (gi x :: st) m bc bs := by
  have hoff : ∀ (i t : Nat), ts[i]? = some t → offs[i]? = some ((t : Int) - (pc : Int)) := by
    intro i t hi
    rw [← Array.getElem?_toList, hts, List.getElem?_map, hi]
    rfl
  by_cases hx : x < lo ∨ hi < x
  · refine gX_table hd (fun tgt hq => ?_) ⟨dt, Or.inl ⟨hx, hdt⟩⟩
    rcases hq with ⟨-, q2⟩ | ⟨q1, q2, -⟩
    · have : tgt = dt := by omega
      subst this
      exact k0 hx
    · omega
  · have hl : (x - lo).toNat < ts.length := by omega
    have hg : ts[(x - lo).toNat]? = some ts[(x - lo).toNat] := List.getElem?_eq_getElem hl
    refine gX_table hd (fun tgt hq => ?_) ⟨ts[(x - lo).toNat], Or.inr ⟨by omega, by omega, _, hoff _ _ hg, by omega⟩⟩
    rcases hq with ⟨q1, -⟩ | ⟨-, -, off, q3, q4⟩
    · exact absurd q1 hx
    · rw [hoff _ _ hg] at q3
      simp only [Option.some.injEq] at q3
      have : tgt = ts[(x - lo).toNat] := by omega
      subst this
      exact k1 _ _ hg (by omega)
end OPS
