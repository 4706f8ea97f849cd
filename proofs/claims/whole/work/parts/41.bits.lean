/-! Integer.bitCount below 1024. Written by wip/whole/tools/mk_bits.py. -/
def bc1 (x : Int) : Int := x - gand (gushr x 1) 1431655765
def bc2 (y : Int) : Int := gand y 858993459 + gand (gushr y 2) 858993459
def bc3 (z : Int) : Int := gand (z + gushr z 4) 252645135
def bc4 (u : Int) : Int := u + gushr u 8
def bc5 (v : Int) : Int := v + gushr v 16
def popc (x : Int) : Int := gand (bc5 (bc4 (bc3 (bc2 (bc1 x))))) 63
def bOk (x : Int) : Bool := decide (-100000000 ≤ x ∧ x ≤ 100000000)
def bAll (x : Int) : Bool := bOk (bc1 x) && bOk (bc2 (bc1 x)) && bOk (bc2 (bc1 x) + gushr (bc2 (bc1 x)) 4) && bOk (bc4 (bc3 (bc2 (bc1 x)))) && bOk (bc5 (bc4 (bc3 (bc2 (bc1 x)))))
theorem bAll_ok : ∀ x : Fin 1024, bAll ((x : Nat) : Int) = true := by decide +kernel
section BITS
variable {l : Launch} {E : gE} {d : Nat} {K : List gK} {R V : Int → Int → Int} {Q : gQ}
set_option maxRecDepth 4000 in
theorem c_bitCount {x : Int} (hx : 0 ≤ x ∧ x < 1024) (hQ : Q (some (gi (popc x))) (K, R, V)) : gC l E (d + 1) iJ6_bitCount_0f7a4 [gi x] (K, R, V) Q := by
  refine gC_of kJ6_bitCount_0f7a4 (ls := [some (gi x)]) rfl (Nat.le_of_ble_eq_true rfl) ?_
  have hb := bAll_ok ⟨x.toNat, by omega⟩
  have e0 : ((x.toNat : Nat) : Int) = x := Int.toNat_of_nonneg hx.1
  have hb2 : bAll x = true := by rw [← e0]; exact hb
  unfold bAll bOk at hb2
  simp only [Bool.and_eq_true, decide_eq_true_eq] at hb2
  obtain ⟨⟨⟨⟨b1, b2⟩, b3⟩, b4⟩, b5⟩ := hb2
  have b1a : -100000000 ≤ x - gand (gushr x 1) 1431655765 ∧ x - gand (gushr x 1) 1431655765 ≤ 100000000 := b1
  have b2a : -100000000 ≤ gand (bc1 x) 858993459 + gand (gushr (bc1 x) 2) 858993459 ∧ gand (bc1 x) 858993459 + gand (gushr (bc1 x) 2) 858993459 ≤ 100000000 := b2
  have b4a : -100000000 ≤ bc3 (bc2 (bc1 x)) + gushr (bc3 (bc2 (bc1 x))) 8 ∧ bc3 (bc2 (bc1 x)) + gushr (bc3 (bc2 (bc1 x))) 8 ≤ 100000000 := b4
  have b5a : -100000000 ≤ bc4 (bc3 (bc2 (bc1 x))) + gushr (bc4 (bc3 (bc2 (bc1 x)))) 16 ∧ bc4 (bc3 (bc2 (bc1 x))) + gushr (bc4 (bc3 (bc2 (bc1 x)))) 16 ≤ 100000000 := b5
  refine gX_iloadn dJ6_bitCount_0f7a4_0 rfl ?_
  refine gX_iloadn dJ6_bitCount_0f7a4_1 rfl ?_
  refine gX_iconst dJ6_bitCount_0f7a4_2 ⟨by decide, by decide⟩ ?_
  refine gX_iushr dJ6_bitCount_0f7a4_3 ?_
  refine gX_ldcw (x := 1431655765) dJ6_bitCount_0f7a4_4 cnJ6_265 (by decide) ⟨by decide, by decide⟩ ?_
  refine gX_iand dJ6_bitCount_0f7a4_7 ?_
  refine gX_isub dJ6_bitCount_0f7a4_8 ⟨by omega, by omega⟩ ?_
  refine gX_istoren dJ6_bitCount_0f7a4_9 (show (0 : Nat) < 1 from by decide) (ls2 := [some (gi (x - (gand (gushr x 1) 1431655765)))]) rfl ?_
  show gX l E _ 10 [some (gi (bc1 x))] [] (K, R, V) _ _
  refine gX_iloadn dJ6_bitCount_0f7a4_10 rfl ?_
  refine gX_ldcw (x := 858993459) dJ6_bitCount_0f7a4_11 cnJ6_266 (by decide) ⟨by decide, by decide⟩ ?_
  refine gX_iand dJ6_bitCount_0f7a4_14 ?_
  refine gX_iloadn dJ6_bitCount_0f7a4_15 rfl ?_
  refine gX_iconst dJ6_bitCount_0f7a4_16 ⟨by decide, by decide⟩ ?_
  refine gX_iushr dJ6_bitCount_0f7a4_17 ?_
  refine gX_ldcw (x := 858993459) dJ6_bitCount_0f7a4_18 cnJ6_266 (by decide) ⟨by decide, by decide⟩ ?_
  refine gX_iand dJ6_bitCount_0f7a4_21 ?_
  refine gX_iadd dJ6_bitCount_0f7a4_22 ⟨by omega, by omega⟩ ?_
  refine gX_istoren dJ6_bitCount_0f7a4_23 (show (0 : Nat) < 1 from by decide) (ls2 := [some (gi ((gand (bc1 x) 858993459) + (gand (gushr (bc1 x) 2) 858993459)))]) rfl ?_
  show gX l E _ 24 [some (gi (bc2 (bc1 x)))] [] (K, R, V) _ _
  refine gX_iloadn dJ6_bitCount_0f7a4_24 rfl ?_
  refine gX_iloadn dJ6_bitCount_0f7a4_25 rfl ?_
  refine gX_iconst dJ6_bitCount_0f7a4_26 ⟨by decide, by decide⟩ ?_
  refine gX_iushr dJ6_bitCount_0f7a4_27 ?_
  refine gX_iadd dJ6_bitCount_0f7a4_28 ⟨by omega, by omega⟩ ?_
  refine gX_ldcw (x := 252645135) dJ6_bitCount_0f7a4_29 cnJ6_267 (by decide) ⟨by decide, by decide⟩ ?_
  refine gX_iand dJ6_bitCount_0f7a4_32 ?_
  refine gX_istoren dJ6_bitCount_0f7a4_33 (show (0 : Nat) < 1 from by decide) (ls2 := [some (gi (gand ((bc2 (bc1 x)) + (gushr (bc2 (bc1 x)) 4)) 252645135))]) rfl ?_
  show gX l E _ 34 [some (gi (bc3 (bc2 (bc1 x))))] [] (K, R, V) _ _
  refine gX_iloadn dJ6_bitCount_0f7a4_34 rfl ?_
  refine gX_iloadn dJ6_bitCount_0f7a4_35 rfl ?_
  refine gX_bipush dJ6_bitCount_0f7a4_36 (by decide) ⟨by decide, by decide⟩ ?_
  refine gX_iushr dJ6_bitCount_0f7a4_38 ?_
  refine gX_iadd dJ6_bitCount_0f7a4_39 ⟨by omega, by omega⟩ ?_
  refine gX_istoren dJ6_bitCount_0f7a4_40 (show (0 : Nat) < 1 from by decide) (ls2 := [some (gi ((bc3 (bc2 (bc1 x))) + (gushr (bc3 (bc2 (bc1 x))) 8)))]) rfl ?_
  show gX l E _ 41 [some (gi (bc4 (bc3 (bc2 (bc1 x)))))] [] (K, R, V) _ _
  refine gX_iloadn dJ6_bitCount_0f7a4_41 rfl ?_
  refine gX_iloadn dJ6_bitCount_0f7a4_42 rfl ?_
  refine gX_bipush dJ6_bitCount_0f7a4_43 (by decide) ⟨by decide, by decide⟩ ?_
  refine gX_iushr dJ6_bitCount_0f7a4_45 ?_
  refine gX_iadd dJ6_bitCount_0f7a4_46 ⟨by omega, by omega⟩ ?_
  refine gX_istoren dJ6_bitCount_0f7a4_47 (show (0 : Nat) < 1 from by decide) (ls2 := [some (gi ((bc4 (bc3 (bc2 (bc1 x)))) + (gushr (bc4 (bc3 (bc2 (bc1 x)))) 16)))]) rfl ?_
  show gX l E _ 48 [some (gi (bc5 (bc4 (bc3 (bc2 (bc1 x))))))] [] (K, R, V) _ _
  refine gX_iloadn dJ6_bitCount_0f7a4_48 rfl ?_
  refine gX_bipush dJ6_bitCount_0f7a4_49 (by decide) ⟨by decide, by decide⟩ ?_
  refine gX_iand dJ6_bitCount_0f7a4_51 ?_
  refine gX_iret dJ6_bitCount_0f7a4_52 (Or.inl rfl) ?_
  exact hQ
end BITS
