/-! Row: a row at r holds its size at (r, 1), its room is the array at r + 1. Written by wip/whole/tools/mk_row.py. -/
def gRow (K : List gK) (R : Int → Int → Int) (r : Int) (n : Nat) : Prop := kd (K, R, fun _ _ => 0) r = some (.inl 5) ∧ kd (K, R, fun _ _ => 0) (r + 1) = some (.inr (0, n)) ∧ R r 0 = r + 1 ∧ n < 100000
/-- its size fits its room -/
def gSz (V : Int → Int → Int) (r : Int) (n : Nat) : Prop := 0 ≤ V r 1 ∧ V r 1 ≤ n
def rHas (V : Int → Int → Int) (r i : Int) : Int := if 0 ≤ i ∧ i < V r 1 then 1 else 0
def rAt (V : Int → Int → Int) (r i : Int) : Int := if 0 ≤ i ∧ i < V r 1 then V (r + 1) i else -1
def rPut (V : Int → Int → Int) (r i x : Int) : Int → Int → Int := if 0 ≤ i ∧ i < V r 1 then gup V (r + 1) i x else V
def rAdd (V : Int → Int → Int) (r : Int) (n : Nat) (x : Int) : Int → Int → Int := if V r 1 < n then gup (gup V (r + 1) (V r 1) x) r 1 (V r 1 + 1) else V
section MATH
variable {l : Launch} {E : gE} {F : gF} {pc : Nat} {ls : gL} {st : List gV} {m : gM} {bc bs : Nat}
theorem gX_mmin {idx : Nat} {x y : Int} (hd : decode F.1.2.1 pc = .ok (.invokestatic idx, 3)) (hlk : Cond.methodLink F.1.1 idx Lib.Math.min.name ∈ gWd) (hfr : 1 ≤ F.2.1.frames ∧ 21 ≤ F.2.1.locals) (hs : (st.map gcat).sum ≤ 8) (kk : gX l E F (pc + 3) ls (gi (min x y) :: st) m bc bs) : gX l E F pc ls (gi y :: gi x :: st) m bc bs := by
  intro p e s mm args below meth c H locs lsM cells slots hc hH hS hL hst h1 h2
  have g1 : in32 y := gst_hd hst
  have g2 : in32 x := gst_hd (gst_tl hst)
  have hts := hc.2.2.2.2.2.1
  have hsum := gsum (E := E) hs
  refine va_mmin hc.1 hc.2.1 (by rw [hc.2.2.2.1]; exact hL.2.1.symm) hc.2.2.2.2.1 (hts _ hlk) (hts _ kMath_min.1) (hts _ kMath_min.2.1) (hts _ kMath_min.2.2) hfr.1 (by omega) (by omega) (by omega) hd ?_
  have e1 : (if Int32.ofInt y < Int32.ofInt x then Int32.ofInt y else Int32.ofInt x) = Int32.ofInt (min x y) := by
    by_cases h : y < x
    · rw [if_pos ((i32_lt g1 g2).mpr h), Int.min_eq_right (by omega)]
    · rw [if_neg (fun z => h ((i32_lt g1 g2).mp z)), Int.min_eq_left (by omega)]
  rw [e1]
  exact kk p e s mm args below meth c H locs lsM cells slots hc hH hS hL (gst_cons (v := gi (min x y)) (by show in32 (min x y); by_cases h : y < x; rw [Int.min_eq_right (by omega)]; exact g1; rw [Int.min_eq_left (by omega)]; exact g2) (gst_tl (gst_tl hst))) h1 h2
theorem gX_mmax {idx : Nat} {x y : Int} (hd : decode F.1.2.1 pc = .ok (.invokestatic idx, 3)) (hlk : Cond.methodLink F.1.1 idx Lib.Math.max.name ∈ gWd) (hfr : 1 ≤ F.2.1.frames ∧ 21 ≤ F.2.1.locals) (hs : (st.map gcat).sum ≤ 8) (kk : gX l E F (pc + 3) ls (gi (max x y) :: st) m bc bs) : gX l E F pc ls (gi y :: gi x :: st) m bc bs := by
  intro p e s mm args below meth c H locs lsM cells slots hc hH hS hL hst h1 h2
  have g1 : in32 y := gst_hd hst
  have g2 : in32 x := gst_hd (gst_tl hst)
  have hts := hc.2.2.2.2.2.1
  have hsum := gsum (E := E) hs
  refine va_mmax hc.1 hc.2.1 (by rw [hc.2.2.2.1]; exact hL.2.1.symm) hc.2.2.2.2.1 (hts _ hlk) (hts _ kMath_max.1) (hts _ kMath_max.2.1) (hts _ kMath_max.2.2) hfr.1 (by omega) (by omega) (by omega) hd ?_
  have e1 : (if Int32.ofInt x < Int32.ofInt y then Int32.ofInt y else Int32.ofInt x) = Int32.ofInt (max x y) := by
    by_cases h : x < y
    · rw [if_pos ((i32_lt g2 g1).mpr h), Int.max_eq_right (by omega)]
    · rw [if_neg (fun z => h ((i32_lt g2 g1).mp z)), Int.max_eq_left (by omega)]
  rw [e1]
  exact kk p e s mm args below meth c H locs lsM cells slots hc hH hS hL (gst_cons (v := gi (max x y)) (by show in32 (max x y); by_cases h : x < y; rw [Int.max_eq_right (by omega)]; exact g1; rw [Int.max_eq_left (by omega)]; exact g2) (gst_tl (gst_tl hst))) h1 h2
end MATH
section FLD
variable {l : Launch} {E : gE} {F : gF} {pc : Nat} {ls : gL} {st : List gV} {bc bs : Nat} {K : List gK} {R V : Int → Int → Int}
theorem gX_gI (kz : Int) {idx ci k : Nat} {a : Int} (hd : decode F.1.2.1 pc = .ok (.getfield idx, 3)) (hf : gFd F.1.1 idx ci k) (hz : (k : Int) = kz) (ht : gty ci k = .int ∨ gty ci k = .boolean) (hk : kd (K, R, V) a = some (.inl ci)) (kk : gX l E F (pc + 3) ls (gi (V a kz) :: st) (K, R, V) bc bs) : gX l E F pc ls (ga a :: st) (K, R, V) bc bs := by
  subst hz; exact gX_getI hd hf ht hk kk
theorem gX_gL (kz : Int) {idx ci k : Nat} {a : Int} (hd : decode F.1.2.1 pc = .ok (.getfield idx, 3)) (hf : gFd F.1.1 idx ci k) (hz : (k : Int) = kz) (ht : gty ci k = .long) (hk : kd (K, R, V) a = some (.inl ci)) (kk : gX l E F (pc + 3) ls (gl (V a kz) :: st) (K, R, V) bc bs) : gX l E F pc ls (ga a :: st) (K, R, V) bc bs := by
  subst hz; exact gX_getL hd hf ht hk kk
theorem gX_gR (kz : Int) {idx ci k : Nat} {a b : Int} (hd : decode F.1.2.1 pc = .ok (.getfield idx, 3)) (hf : gFd F.1.1 idx ci k) (hz : (k : Int) = kz) (ht : gIsR (gty ci k) = true) (hk : kd (K, R, V) a = some (.inl ci)) (hb : R a kz = b) (kk : gX l E F (pc + 3) ls (ga b :: st) (K, R, V) bc bs) : gX l E F pc ls (ga a :: st) (K, R, V) bc bs := by
  subst hz; exact gX_getR hd hf ht hk hb kk
theorem gX_pI (kz : Int) {idx ci k : Nat} {a x : Int} (hd : decode F.1.2.1 pc = .ok (.putfield idx, 3)) (hf : gFd F.1.1 idx ci k) (hfp : gFp F.1.1 idx ci k F.1.2.2.2.2) (hz : (k : Int) = kz) (ht : gty ci k = .int ∨ (gty ci k = .boolean ∧ (x = 0 ∨ x = 1))) (hk : kd (K, R, V) a = some (.inl ci)) (kk : gX l E F (pc + 3) ls st (K, R, gup V a kz x) bc bs) : gX l E F pc ls (gi x :: ga a :: st) (K, R, V) bc bs := by
  subst hz; exact gX_putI hd hf hfp ht hk kk
theorem gX_pL (kz : Int) {idx ci k : Nat} {a x : Int} (hd : decode F.1.2.1 pc = .ok (.putfield idx, 3)) (hf : gFd F.1.1 idx ci k) (hfp : gFp F.1.1 idx ci k F.1.2.2.2.2) (hz : (k : Int) = kz) (ht : gty ci k = .long) (hk : kd (K, R, V) a = some (.inl ci)) (kk : gX l E F (pc + 3) ls st (K, R, gup V a kz x) bc bs) : gX l E F pc ls (gl x :: ga a :: st) (K, R, V) bc bs := by
  subst hz; exact gX_putL hd hf hfp ht hk kk
theorem gX_pR (kz : Int) {idx ci k : Nat} {a b : Int} (hd : decode F.1.2.1 pc = .ok (.putfield idx, 3)) (hf : gFd F.1.1 idx ci k) (hfp : gFp F.1.1 idx ci k F.1.2.2.2.2) (hz : (k : Int) = kz) (ht : gIsR (gty ci k) = true) (hk : kd (K, R, V) a = some (.inl ci)) (kk : gX l E F (pc + 3) ls st (K, gup R a kz b, V) bc bs) : gX l E F pc ls (ga b :: ga a :: st) (K, R, V) bc bs := by
  subst hz; exact gX_putR hd hf hfp ht hk kk
end FLD
section ROW
variable {l : Launch} {E : gE} {d : Nat} {K : List gK} {R V : Int → Int → Int} {r : Int} {n : Nat} {Q : gQ}
set_option maxRecDepth 4000 in
theorem c_Row_length (hr : gRow K R r n) (hQ : Q (some (gi (V r 1))) (K, R, V)) : gC l E (d + 1) iX6_length [ga r] (K, R, V) Q := by
  refine gC_of kX6_length (ls := [some (ga r)]) rfl (Nat.le_of_ble_eq_true rfl) ?_
  refine gX_aloadn dX6_length_0 rfl ?_
  refine gX_gI 1 dX6_length_1 fdX6_9 rfl (Or.inl rfl) hr.1 ?_
  exact gX_iret dX6_length_4 (Or.inl rfl) hQ
set_option maxRecDepth 4000 in
theorem c_Row_has {i : Int} (hr : gRow K R r n) (hz : gSz V r n) (hQ : Q (some (gi (rHas V r i))) (K, R, V)) : gC l E (d + 1) iX6_has [ga r, gi i] (K, R, V) Q := by
  refine gC_of kX6_has (ls := [some (ga r), some (gi i)]) rfl (Nat.le_of_ble_eq_true rfl) ?_
  have hn := hr.2.2.2
  obtain ⟨hz0, hz1⟩ := hz
  refine gX_iloadn dX6_has_0 rfl ?_
  refine gX_iflt (tgt := 25) dX6_has_1 (by decide) (fun h1 => ?_) (fun h1 => ?_)
  · refine gX_iconst dX6_has_25 ⟨by decide, by decide⟩ ?_
    refine gX_iret dX6_has_26 (Or.inr ⟨rfl, Or.inl rfl⟩) ?_
    have e : rHas V r i = 0 := by unfold rHas; split <;> omega
    rw [← e]
    exact hQ
  · refine gX_iloadn dX6_has_4 rfl ?_
    refine gX_aloadn dX6_has_5 rfl ?_
    refine gX_gI 1 dX6_has_6 fdX6_9 rfl (Or.inl rfl) hr.1 ?_
    refine gX_icmpge (tgt := 25) dX6_has_9 (by decide) (fun h2 => ?_) (fun h2 => ?_)
    · refine gX_iconst dX6_has_25 ⟨by decide, by decide⟩ ?_
      refine gX_iret dX6_has_26 (Or.inr ⟨rfl, Or.inl rfl⟩) ?_
      have e : rHas V r i = 0 := by unfold rHas; split <;> omega
      rw [← e]
      exact hQ
    · refine gX_iloadn dX6_has_12 rfl ?_
      refine gX_aloadn dX6_has_13 rfl ?_
      refine gX_gR 0 dX6_has_14 fdX6_15 rfl rfl hr.1 hr.2.2.1 ?_
      refine gX_alen dX6_has_17 hr.2.1 (by decide) (by omega) ?_
      refine gX_icmpge (tgt := 25) dX6_has_18 (by decide) (fun h3 => ?_) (fun h3 => ?_)
      · refine gX_iconst dX6_has_25 ⟨by decide, by decide⟩ ?_
        refine gX_iret dX6_has_26 (Or.inr ⟨rfl, Or.inl rfl⟩) ?_
        have e : rHas V r i = 0 := by unfold rHas; split <;> omega
        rw [← e]
        exact hQ
      · refine gX_iconst dX6_has_21 ⟨by decide, by decide⟩ ?_
        refine gX_goto (tgt := 26) dX6_has_22 (by decide) ?_
        refine gX_iret dX6_has_26 (Or.inr ⟨rfl, Or.inr rfl⟩) ?_
        have e : rHas V r i = 1 := by unfold rHas; split <;> omega
        rw [← e]
        exact hQ
set_option maxRecDepth 4000 in
theorem c_Row_at {i : Int} (hr : gRow K R r n) (hz : gSz V r n) (hQ : Q (some (gi (rAt V r i))) (K, R, V)) : gC l E (d + 1) iX6_at [ga r, gi i] (K, R, V) Q := by
  refine gC_of kX6_at (ls := [some (ga r), some (gi i)]) rfl (Nat.le_of_ble_eq_true rfl) ?_
  have hn := hr.2.2.2
  obtain ⟨hz0, hz1⟩ := hz
  refine gX_iloadn dX6_at_0 rfl ?_
  refine gX_iflt (tgt := 30) dX6_at_1 (by decide) (fun h1 => ?_) (fun h1 => ?_)
  · refine gX_iconst dX6_at_30 ⟨by decide, by decide⟩ ?_
    refine gX_iret dX6_at_31 (Or.inl rfl) ?_
    have e : rAt V r i = -1 := by unfold rAt; split <;> omega
    rw [← e]
    exact hQ
  · refine gX_iloadn dX6_at_4 rfl ?_
    refine gX_aloadn dX6_at_5 rfl ?_
    refine gX_gI 1 dX6_at_6 fdX6_9 rfl (Or.inl rfl) hr.1 ?_
    refine gX_icmpge (tgt := 30) dX6_at_9 (by decide) (fun h2 => ?_) (fun h2 => ?_)
    · refine gX_iconst dX6_at_30 ⟨by decide, by decide⟩ ?_
      refine gX_iret dX6_at_31 (Or.inl rfl) ?_
      have e : rAt V r i = -1 := by unfold rAt; split <;> omega
      rw [← e]
      exact hQ
    · refine gX_iloadn dX6_at_12 rfl ?_
      refine gX_aloadn dX6_at_13 rfl ?_
      refine gX_gR 0 dX6_at_14 fdX6_15 rfl rfl hr.1 hr.2.2.1 ?_
      refine gX_alen dX6_at_17 hr.2.1 (by decide) (by omega) ?_
      refine gX_icmpge (tgt := 30) dX6_at_18 (by decide) (fun h3 => ?_) (fun h3 => ?_)
      · refine gX_iconst dX6_at_30 ⟨by decide, by decide⟩ ?_
        refine gX_iret dX6_at_31 (Or.inl rfl) ?_
        have e : rAt V r i = -1 := by unfold rAt; split <;> omega
        rw [← e]
        exact hQ
      · refine gX_aloadn dX6_at_21 rfl ?_
        refine gX_gR 0 dX6_at_22 fdX6_15 rfl rfl hr.1 hr.2.2.1 ?_
        refine gX_iloadn dX6_at_25 rfl ?_
        refine gX_iald dX6_at_26 hr.2.1 (by omega) (by omega) ?_
        refine gX_goto (tgt := 31) dX6_at_27 (by decide) ?_
        refine gX_iret dX6_at_31 (Or.inl rfl) ?_
        have e : rAt V r i = V (r + 1) i := by unfold rAt; split <;> omega
        rw [← e]
        exact hQ
set_option maxRecDepth 4000 in
theorem c_Row_put {i x : Int} (hr : gRow K R r n) (hz : gSz V r n) (hQ : Q none (K, R, rPut V r i x)) : gC l E (d + 1) iX6_put [ga r, gi i, gi x] (K, R, V) Q := by
  refine gC_of kX6_put (ls := [some (ga r), some (gi i), some (gi x)]) rfl (Nat.le_of_ble_eq_true rfl) ?_
  have hn := hr.2.2.2
  obtain ⟨hz0, hz1⟩ := hz
  refine gX_iloadn dX6_put_0 rfl ?_
  refine gX_iflt (tgt := 28) dX6_put_1 (by decide) (fun h1 => ?_) (fun h1 => ?_)
  · refine gX_vret dX6_put_28 rfl ?_
    have e : rPut V r i x = V := by unfold rPut; rw [if_neg (by omega)]
    rw [← e]
    exact hQ
  · refine gX_iloadn dX6_put_4 rfl ?_
    refine gX_aloadn dX6_put_5 rfl ?_
    refine gX_gI 1 dX6_put_6 fdX6_9 rfl (Or.inl rfl) hr.1 ?_
    refine gX_icmpge (tgt := 28) dX6_put_9 (by decide) (fun h2 => ?_) (fun h2 => ?_)
    · refine gX_vret dX6_put_28 rfl ?_
      have e : rPut V r i x = V := by unfold rPut; rw [if_neg (by omega)]
      rw [← e]
      exact hQ
    · refine gX_iloadn dX6_put_12 rfl ?_
      refine gX_aloadn dX6_put_13 rfl ?_
      refine gX_gR 0 dX6_put_14 fdX6_15 rfl rfl hr.1 hr.2.2.1 ?_
      refine gX_alen dX6_put_17 hr.2.1 (by decide) (by omega) ?_
      refine gX_icmpge (tgt := 28) dX6_put_18 (by decide) (fun h3 => ?_) (fun h3 => ?_)
      · refine gX_vret dX6_put_28 rfl ?_
        have e : rPut V r i x = V := by unfold rPut; rw [if_neg (by omega)]
        rw [← e]
        exact hQ
      · refine gX_aloadn dX6_put_21 rfl ?_
        refine gX_gR 0 dX6_put_22 fdX6_15 rfl rfl hr.1 hr.2.2.1 ?_
        refine gX_iloadn dX6_put_25 rfl ?_
        refine gX_iloadn dX6_put_26 rfl ?_
        refine gX_iast dX6_put_27 hr.2.1 (by omega) (by omega) ?_
        refine gX_vret dX6_put_28 rfl ?_
        have e : rPut V r i x = gup V (r + 1) i x := by unfold rPut; rw [if_pos (by omega)]
        rw [← e]
        exact hQ
theorem gup_row {V : Int → Int → Int} {r i x k : Int} : gup V (r + 1) i x r k = V r k := gup_o (Or.inl (by omega))
set_option maxRecDepth 4000 in
theorem c_Row_add {x : Int} (hr : gRow K R r n) (hz : gSz V r n) (hQ : Q none (K, R, rAdd V r n x)) : gC l E (d + 1) iX6_add [ga r, gi x] (K, R, V) Q := by
  refine gC_of kX6_add (ls := [some (ga r), some (gi x)]) rfl (Nat.le_of_ble_eq_true rfl) ?_
  have hn := hr.2.2.2
  obtain ⟨hz0, hz1⟩ := hz
  have eg : (gup V (r + 1) (V r 1) x) r 1 = V r 1 := gup_row
  refine gX_aloadn dX6_add_0 rfl ?_
  refine gX_gI 1 dX6_add_1 fdX6_9 rfl (Or.inl rfl) hr.1 ?_
  refine gX_iflt (tgt := 39) dX6_add_4 (by decide) (fun h1 => ?_) (fun h1 => ?_)
  · refine gX_vret dX6_add_39 rfl ?_
    have e : rAdd V r n x = V := by unfold rAdd; rw [if_neg (by omega)]
    rw [← e]
    exact hQ
  · refine gX_aloadn dX6_add_7 rfl ?_
    refine gX_gI 1 dX6_add_8 fdX6_9 rfl (Or.inl rfl) hr.1 ?_
    refine gX_aloadn dX6_add_11 rfl ?_
    refine gX_gR 0 dX6_add_12 fdX6_15 rfl rfl hr.1 hr.2.2.1 ?_
    refine gX_alen dX6_add_15 hr.2.1 (by decide) (by omega) ?_
    refine gX_icmpge (tgt := 39) dX6_add_16 (by decide) (fun h2 => ?_) (fun h2 => ?_)
    · refine gX_vret dX6_add_39 rfl ?_
      have e : rAdd V r n x = V := by unfold rAdd; rw [if_neg (by omega)]
      rw [← e]
      exact hQ
    · refine gX_aloadn dX6_add_19 rfl ?_
      refine gX_gR 0 dX6_add_20 fdX6_15 rfl rfl hr.1 hr.2.2.1 ?_
      refine gX_aloadn dX6_add_23 rfl ?_
      refine gX_gI 1 dX6_add_24 fdX6_9 rfl (Or.inl rfl) hr.1 ?_
      refine gX_iloadn dX6_add_27 rfl ?_
      refine gX_iast dX6_add_28 hr.2.1 (by omega) (by omega) ?_
      refine gX_aloadn dX6_add_29 rfl ?_
      refine gX_dup dX6_add_30 rfl ?_
      refine gX_gI 1 dX6_add_31 fdX6_9 rfl (Or.inl rfl) hr.1 ?_
      refine gX_iconst dX6_add_34 ⟨by decide, by decide⟩ ?_
      refine gX_iadd dX6_add_35 ⟨by omega, by omega⟩ ?_
      refine gX_pI 1 dX6_add_36 fdX6_9 fpX6_9 rfl (Or.inl rfl) hr.1 ?_
      refine gX_vret dX6_add_39 rfl ?_
      have e : rAdd V r n x = gup (gup V (r + 1) (V r 1) x) r 1 (((gup V (r + 1) (V r 1) x) r 1) + 1) := by unfold rAdd; rw [if_pos (by omega), eg]
      rw [← e]
      exact hQ
set_option maxRecDepth 4000 in
theorem c_Row_clear (hr : gRow K R r n) (hQ : Q none (K, R, gup V r 1 0)) : gC l E (d + 1) iX6_clear [ga r] (K, R, V) Q := by
  refine gC_of kX6_clear (ls := [some (ga r)]) rfl (Nat.le_of_ble_eq_true rfl) ?_
  refine gX_aloadn dX6_clear_0 rfl ?_
  refine gX_iconst dX6_clear_1 ⟨by decide, by decide⟩ ?_
  refine gX_pI 1 dX6_clear_2 fdX6_9 fpX6_9 rfl (Or.inl rfl) hr.1 ?_
  exact gX_vret dX6_clear_5 rfl hQ
end ROW
