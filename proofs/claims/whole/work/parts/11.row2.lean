/-! Row, told by lists. Written by wip/whole/tools/mk_row2.py. -/
/-- the row at r, of room n, holds xs -/
def rIs (V : Int → Int → Int) (r : Int) (n : Nat) (xs : List Int) : Prop := V r 1 = xs.length ∧ xs.length ≤ n ∧ ∀ (j : Nat) (x : Int), xs[j]? = some x → V (r + 1) j = x
/-- nothing but the row at r has changed -/
def rFr (V V' : Int → Int → Int) (r : Int) : Prop := ∀ a, a ≠ r → a ≠ r + 1 → V' a = V a
def lat (xs : List Int) (i : Int) : Int := if i < 0 then -1 else xs.getD i.toNat (-1)
def lhas (xs : List Int) (i : Int) : Int := if 0 ≤ i ∧ i < xs.length then 1 else 0
def lput (xs : List Int) (i x : Int) : List Int := if i < 0 then xs else xs.set i.toNat x
theorem rIs.sz {V : Int → Int → Int} {r : Int} {n : Nat} {xs : List Int} (h : rIs V r n xs) : gSz V r n := ⟨by rw [h.1]; omega, by rw [h.1]; have := h.2.1; omega⟩
theorem rIs.at {V : Int → Int → Int} {r : Int} {n : Nat} {xs : List Int} (h : rIs V r n xs) (i : Int) : rAt V r i = lat xs i := by
  unfold rAt lat
  rw [h.1]
  by_cases h0 : i < 0
  · rw [if_neg (by omega), if_pos h0]
  · by_cases h1 : i < xs.length
    · have hg : xs[i.toNat]? = some xs[i.toNat] := List.getElem?_eq_getElem (by omega)
      rw [if_pos (by omega), if_neg h0, List.getD_eq_getElem?_getD, hg]
      have := h.2.2 _ _ hg
      rw [Int.toNat_of_nonneg (by omega)] at this
      exact this
    · rw [if_neg (by omega), if_neg h0, List.getD_eq_getElem?_getD, List.getElem?_eq_none (by omega)]
      rfl
theorem rIs.has {V : Int → Int → Int} {r : Int} {n : Nat} {xs : List Int} (h : rIs V r n xs) (i : Int) : rHas V r i = lhas xs i := by
  unfold rHas lhas
  rw [h.1]
theorem rIs.kept {V V' : Int → Int → Int} {r : Int} {n : Nat} {xs : List Int} (h : rIs V r n xs) (h1 : V' r = V r) (h2 : V' (r + 1) = V (r + 1)) : rIs V' r n xs := by
  refine ⟨by rw [h1]; exact h.1, h.2.1, fun j x hj => ?_⟩
  rw [h2]
  exact h.2.2 j x hj
theorem lat_of {xs : List Int} {j : Nat} {x : Int} (h : xs[j]? = some x) : lat xs j = x := by
  unfold lat
  rw [if_neg (by omega), List.getD_eq_getElem?_getD, Int.toNat_natCast, h]
  rfl
theorem rFr.trans {V V' V2 : Int → Int → Int} {r : Int} (h : rFr V V' r) (h2 : rFr V' V2 r) : rFr V V2 r := fun a h1 h3 => (h2 a h1 h3).trans (h a h1 h3)
theorem gup_ne {V : Int → Int → Int} {a k x a' : Int} (h : a' ≠ a) : gup V a k x a' = V a' := by
  funext j
  exact gup_o (Or.inl h)
theorem rIs.put {V : Int → Int → Int} {r : Int} {n : Nat} {xs : List Int} (h : rIs V r n xs) (i x : Int) : rIs (rPut V r i x) r n (lput xs i x) ∧ rFr V (rPut V r i x) r := by
  have hl : (lput xs i x).length = xs.length := by
    unfold lput
    split
    · rfl
    · rw [List.length_set]
  unfold rPut
  by_cases hc : 0 ≤ i ∧ i < V r 1
  · rw [if_pos hc]
    refine ⟨⟨by rw [gup_row, hl]; exact h.1, by rw [hl]; exact h.2.1, fun j y hj => ?_⟩, fun a h1 h2 => gup_ne h2⟩
    unfold lput at hj
    rw [if_neg (by omega)] at hj
    by_cases hji : j = i.toNat
    · subst hji
      have hlt := (List.getElem?_eq_some_iff.mp hj).1
      rw [List.length_set] at hlt
      rw [List.getElem?_set_self hlt] at hj
      cases hj
      rw [Int.toNat_of_nonneg hc.1]
      exact gup_s
    · rw [List.getElem?_set_ne (Ne.symm hji)] at hj
      rw [gup_o (Or.inr (by omega))]
      exact h.2.2 j y hj
  · rw [if_neg hc]
    refine ⟨⟨by rw [hl]; exact h.1, by rw [hl]; exact h.2.1, fun j y hj => ?_⟩, fun a h1 h2 => rfl⟩
    unfold lput at hj
    split at hj
    · exact h.2.2 j y hj
    · rw [h.1] at hc
      rw [List.set_eq_of_length_le (by omega)] at hj
      exact h.2.2 j y hj
def ladd (n : Nat) (xs : List Int) (x : Int) : List Int := if xs.length < n then xs ++ [x] else xs
theorem rIs.add {V : Int → Int → Int} {r : Int} {n : Nat} {xs : List Int} (h : rIs V r n xs) (x : Int) : rIs (rAdd V r n x) r n (ladd n xs x) ∧ rFr V (rAdd V r n x) r := by
  unfold rAdd ladd
  rw [h.1]
  by_cases hc : xs.length < n
  · rw [if_pos (by omega), if_pos hc]
    refine ⟨⟨?_, by rw [List.length_append]; exact hc, fun j y hj => ?_⟩, fun a h1 h2 => by rw [gup_ne h1, gup_ne h2]⟩
    · rw [gup_s, List.length_append]
      rfl
    · rw [gup_o (Or.inl (by omega))]
      by_cases hj2 : j < xs.length
      · rw [List.getElem?_append_left hj2] at hj
        rw [gup_o (Or.inr (by omega))]
        exact h.2.2 j y hj
      · have : j = xs.length := by
          have := (List.getElem?_eq_some_iff.mp hj).1
          rw [List.length_append] at this
          simp at this
          omega
        subst this
        rw [List.getElem?_append_right (Nat.le_refl _)] at hj
        simp at hj
        subst hj
        exact gup_s
  · rw [if_neg (by omega), if_neg hc]
    exact ⟨h, fun a h1 h2 => rfl⟩
theorem rIs.clear (V : Int → Int → Int) (r : Int) (n : Nat) : rIs (gup V r 1 0) r n [] ∧ rFr V (gup V r 1 0) r :=
  ⟨⟨gup_s, Nat.zero_le _, fun j x hj => by simp at hj⟩, fun a h1 h2 => gup_ne h1⟩
section ROW2
variable {l : Launch} {E : gE} {d : Nat} {K : List gK} {R V : Int → Int → Int} {r : Int} {n : Nat} {Q : gQ} {xs : List Int}
theorem q_Row_length (hr : gRow K R r n) (hx : rIs V r n xs) (hQ : Q (some (gi xs.length)) (K, R, V)) : gC l E (d + 1) iX6_length [ga r] (K, R, V) Q := c_Row_length hr (by rw [hx.1]; exact hQ)
theorem q_Row_has {i : Int} (hr : gRow K R r n) (hx : rIs V r n xs) (hQ : Q (some (gi (lhas xs i))) (K, R, V)) : gC l E (d + 1) iX6_has [ga r, gi i] (K, R, V) Q := c_Row_has hr hx.sz (by rw [hx.has]; exact hQ)
theorem q_Row_at {i : Int} (hr : gRow K R r n) (hx : rIs V r n xs) (hQ : Q (some (gi (lat xs i))) (K, R, V)) : gC l E (d + 1) iX6_at [ga r, gi i] (K, R, V) Q := c_Row_at hr hx.sz (by rw [hx.at]; exact hQ)
theorem q_Row_put {i x : Int} (hr : gRow K R r n) (hx : rIs V r n xs) (hQ : ∀ V', rIs V' r n (lput xs i x) → rFr V V' r → Q none (K, R, V')) : gC l E (d + 1) iX6_put [ga r, gi i, gi x] (K, R, V) Q := c_Row_put hr hx.sz (hQ _ (hx.put i x).1 (hx.put i x).2)
theorem q_Row_add {x : Int} (hr : gRow K R r n) (hx : rIs V r n xs) (hQ : ∀ V', rIs V' r n (ladd n xs x) → rFr V V' r → Q none (K, R, V')) : gC l E (d + 1) iX6_add [ga r, gi x] (K, R, V) Q := c_Row_add hr hx.sz (hQ _ (hx.add x).1 (hx.add x).2)
theorem q_Row_clear (hr : gRow K R r n) (hQ : ∀ V', rIs V' r n [] → rFr V V' r → Q none (K, R, V')) : gC l E (d + 1) iX6_clear [ga r] (K, R, V) Q := c_Row_clear hr (hQ _ (rIs.clear V r n).1 (rIs.clear V r n).2)
theorem gRow_apart {o : Int} {no : Nat} (hr : gRow K R r n) (ho : gRow K R o no) : o ≠ r + 1 ∧ r ≠ o + 1 := by
  constructor
  · intro h
    have h1 := ho.1
    rw [h, hr.2.1] at h1
    cases h1
  · intro h
    have h1 := hr.1
    rw [h, ho.2.1] at h1
    cases h1
set_option maxRecDepth 4000 in
theorem q_Row_fill {k x : Int} (hr : gRow K R r n) (h0 : 0 ≤ k) (hk : k ≤ n) (hQ : ∀ V', rIs V' r n (List.replicate k.toNat x) → rFr V V' r → Q none (K, R, V')) : gC l E (d + 2) iX6_fill [ga r, gi k, gi x] (K, R, V) Q := by
  refine gC_of kX6_fill (ls := [some (ga r), some (gi k), some (gi x), none]) rfl (Nat.le_of_ble_eq_true rfl) ?_
  have hn := hr.2.2.2
  have loop : ∀ (j : Nat) (i : Int) (V1 : Int → Int → Int) (bc bs : Nat), 0 ≤ i → i + j = k → rIs V1 r n (List.replicate i.toNat x) → rFr V V1 r → gX l E (gFm E (d + 2) iX6_fill Q) 6 [some (ga r), some (gi k), some (gi x), some (gi i)] [] (K, R, V1) bc bs := by
    intro j
    induction j with
    | zero =>
      intro i V1 bc bs h0 hj hx1 hf1
      refine gX_iloadn dX6_fill_6 rfl ?_
      refine gX_iloadn dX6_fill_7 rfl ?_
      refine gX_icmpge (tgt := 22) dX6_fill_8 (by decide) (fun h1 => ?_) (fun h1 => ?_)
      · refine gX_vret dX6_fill_22 rfl (hQ _ ?_ hf1)
        have e : i = k := by omega
        rw [← e]
        exact hx1
      · exfalso; omega
    | succ j ih =>
      intro i V1 bc bs h0 hj hx1 hf1
      refine gX_iloadn dX6_fill_6 rfl ?_
      refine gX_iloadn dX6_fill_7 rfl ?_
      refine gX_icmpge (tgt := 22) dX6_fill_8 (by decide) (fun h1 => ?_) (fun h1 => ?_)
      · exfalso; omega
      · refine gX_aloadn dX6_fill_11 rfl ?_
        refine gX_iloadn dX6_fill_12 rfl ?_
        refine gX_virt (J := iX6_add) (av := [gi x]) (a := r) (st := []) dX6_fill_13 lkX6_22 kX6_add vX6_add (gFit_m (by decide)) hr.1 rfl rfl (Nat.le_of_ble_eq_true rfl) (Nat.zero_le _) (Nat.zero_le _) rfl ?_
        refine q_Row_add hr hx1 (fun V2 hx2 hf2 => ?_)
        show gX l E _ 16 [some (ga r), some (gi k), some (gi x), some (gi i)] [] (K, R, V2) _ _
        refine gX_iinc dX6_fill_16 rfl (show (3 : Nat) < 4 from by decide) ⟨by omega, by omega⟩ (ls2 := [some (ga r), some (gi k), some (gi x), some (gi (i + 1))]) rfl ?_
        refine gX_goto (tgt := 6) dX6_fill_19 (by decide) ?_
        refine ih (i + 1) V2 _ _ (by omega) (by omega) ?_ (hf1.trans hf2)
        have e : ladd n (List.replicate i.toNat x) x = List.replicate (i + 1).toNat x := by
          unfold ladd
          rw [List.length_replicate, if_pos (by omega), show (i + 1).toNat = i.toNat + 1 by omega, List.replicate_succ']
        rw [e] at hx2
        exact hx2
  refine gX_aloadn dX6_fill_0 rfl ?_
  refine gX_virt (J := iX6_clear) (av := []) (a := r) (st := []) dX6_fill_1 lkX6_19 kX6_clear vX6_clear (gFit_m (by decide)) hr.1 rfl rfl (Nat.le_of_ble_eq_true rfl) (Nat.zero_le _) (Nat.zero_le _) rfl ?_
  refine q_Row_clear hr (fun V1 hx1 hf1 => ?_)
  show gX l E _ 4 [some (ga r), some (gi k), some (gi x), none] [] (K, R, V1) _ _
  refine gX_iconst dX6_fill_4 ⟨by decide, by decide⟩ ?_
  refine gX_istoren dX6_fill_5 (show (3 : Nat) < 4 from by decide) (ls2 := [some (ga r), some (gi k), some (gi x), some (gi 0)]) rfl ?_
  exact loop k.toNat 0 V1 _ _ (by omega) (by omega) (by simpa using hx1) hf1
end ROW2
