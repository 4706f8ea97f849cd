/-! Row, told by lists. Written by wip/whole/tools/mk_row2.py. -/
/-- the row at r, of room n, holds xs -/
def rIs (V : Int → Int → Int) (r : Int) (n : Nat) (xs : List Int) : Prop := V r 1 = xs.length ∧ xs.length ≤ n ∧ ∀ (j : Nat) (x : Int), xs[j]? = some x → V (r + 1) j = x
/-- nothing but the row at r has changed -/
def rFr (V V' : Int → Int → Int) (r : Int) : Prop := ∀ a, a ≠ r → a ≠ r + 1 → V' a = V a
def lat (xs : List Int) (i : Int) : Int := if i < 0 then -1 else xs.getD i.toNat (-1)
def lhas (xs : List Int) (i : Int) : Int := if 0 ≤ i ∧ i < xs.length then 1 else 0
def lput (xs : List Int) (i x : Int) : List Int := if i < 0 then xs else xs.set i.toNat x
theorem rIs.sz {V : Int → Int → Int} {r : Int} {n : Nat} {xs : List Int} (h : rIs V r n xs) : gSz V r n := ⟨by rw [h.1]; omega, by rw [h.1]; have := h.2.1; omega⟩
theorem rIs.at {V : Int → Int → Int} {r : Int} {n : Nat} {xs : List Int} (h : rIs V r n xs) (i : Int) : rAt V r i = lat xs i := by
  unfold rAt lat
  rw [h.1]
  by_cases h0 : i < 0
  · rw [if_neg (by omega), if_pos h0]
  · by_cases h1 : i < xs.length
    · have hg : xs[i.toNat]? = some xs[i.toNat] := List.getElem?_eq_getElem (by omega)
      rw [if_pos (by omega), if_neg h0, List.getD_eq_getElem?_getD, hg]
      have := h.2.2 _ _ hg
      rw [Int.toNat_of_nonneg (by omega)] at this
      exact this
    · rw [if_neg (by omega), if_neg h0, List.getD_eq_getElem?_getD, List.getElem?_eq_none (by omega)]
      rfl
theorem rIs.has {V : Int → Int → Int} {r : Int} {n : Nat} {xs : List Int} (h : rIs V r n xs) (i : Int) : rHas V r i = lhas xs i := by
  unfold rHas lhas
  rw [h.1]
theorem rIs.kept {V V' : Int → Int → Int} {r : Int} {n : Nat} {xs : List Int} (h : rIs V r n xs) (h1 : V' r = V r) (h2 : V' (r + 1) = V (r + 1)) : rIs V' r n xs := by
  refine ⟨by rw [h1]; exact h.1, h.2.1, fun j x hj => ?_⟩
  rw [h2]
  exact h.2.2 j x hj
theorem lat_of {xs : List Int} {j : Nat} {x : Int} (h : xs[j]? = some x) : lat xs j = x := by
  unfold lat
  rw [if_neg (by omega), List.getD_eq_getElem?_getD, Int.toNat_natCast, h]
  rfl
theorem rFr.trans {V V' V2 : Int → Int → Int} {r : Int} (h : rFr V V' r) (h2 : rFr V' V2 r) : rFr V V2 r := fun a h1 h3 => (h2 a h1 h3).trans (h a h1 h3)
theorem gup_ne {V : Int → Int → Int} {a k x a' : Int} (h : a' ≠ a) : gup V a k x a' = V a' := by
  funext j
  exact gup_o (Or.inl h)
theorem rIs.put {V : Int → Int → Int} {r : Int} {n : Nat} {xs : List Int} (h : rIs V r n xs) (i x : Int) : rIs (rPut V r i x) r n (lput xs i x) ∧ rFr V (rPut V r i x) r := by
  have hl : (lput xs i x).length = xs.length := by
    unfold lput
    split
    · rfl
    · rw [List.length_set]
  unfold rPut
  by_cases hc : 0 ≤ i ∧ i < V r 1
  · rw [if_pos hc]
    refine ⟨⟨by rw [gup_row, hl]; exact h.1, by rw [hl]; exact h.2.1, fun j y hj => ?_⟩, fun a h1 h2 => gup_ne h2⟩
    unfold lput at hj
    rw [if_neg (by omega)] at hj
    by_cases hji : j = i.toNat
    · subst hji
      have hlt := (List.getElem?_eq_some_iff.mp hj).1
      rw [List.length_set] at hlt
      rw [List.getElem?_set_self hlt] at hj
      cases hj
      rw [Int.toNat_of_nonneg hc.1]
      exact gup_s
    · rw [List.getElem?_set_ne (Ne.symm hji)] at hj
      rw [gup_o (Or.inr (by omega))]
      exact h.2.2 j y hj
  · rw [if_neg hc]
    refine ⟨⟨by rw [hl]; exact h.1, by rw [hl]; exact h.2.1, fun j y hj => ?_⟩, fun a h1 h2 => rfl⟩
    unfold lput at hj
    split at hj
    · exact h.2.2 j y hj
    · rw [h.1] at hc
      rw [List.set_eq_of_length_le (by omega)] at hj
      exact h.2.2 j y hj
def ladd (n : Nat) (xs : List Int) (x : Int) : List Int := if xs.length < n then xs ++ [x] else xs
theorem rIs.add {V : Int → Int → Int} {r : Int} {n : Nat} {xs : List Int} (h : rIs V r n xs) (x : Int) : rIs (rAdd V r n x) r n (ladd n xs x) ∧ rFr V (rAdd V r n x) r := by
  unfold rAdd ladd
  rw [h.1]
  by_cases hc : xs.length < n
  · rw [if_pos (by omega), if_pos hc]
    refine ⟨⟨?_, by rw [List.length_append]; exact hc, fun j y hj => ?_⟩, fun a h1 h2 => by rw [gup_ne h1, gup_ne h2]⟩
    · rw [gup_s, List.length_append]
      rfl
    · rw [gup_o (Or.inl (by omega))]
      by_cases hj2 : j < xs.length
      · rw [List.getElem?_append_left hj2] at hj
        rw [gup_o (Or.inr (by omega))]
        exact h.2.2 j y hj
      · have : j = xs.length := by
          have := (List.getElem?_eq_some_iff.mp hj).1
          rw [List.length_append] at this
          simp at this
          omega
        subst this
        rw [List.getElem?_append_right (Nat.le_refl _)] at hj
        simp at hj
        subst hj
        exact gup_s
  · rw [if_neg (by omega), if_neg hc]
    exact ⟨h, fun a h1 h2 => rfl⟩
theorem rIs.clear (V : Int → Int → Int) (r : Int) (n : Nat) : rIs (gup V r 1 0) r n [] ∧ rFr V (gup V r 1 0) r :=
  ⟨⟨gup_s, Nat.zero_le _, fun j x hj => by simp at hj⟩, fun a h1 h2 => gup_ne h1⟩
section ROW2
variable {l : Launch} {E : gE} {d : Nat} {K : List gK} {R V : Int → Int → Int} {r : Int} {n : Nat} {Q : gQ} {xs : List Int}
theorem q_Row_length (hr : gRow K R r n) (hx : rIs V r n xs) (hQ : Q (some (gi xs.length)) (K, R, V)) : gC l E (d + 1) iX6_length [ga r] (K, R, V) Q := c_Row_length hr (by rw [hx.1]; exact hQ)
theorem q_Row_has {i : Int} (hr : gRow K R r n) (hx : rIs V r n xs) (hQ : Q (some (gi (lhas xs i))) (K, R, V)) : gC l E (d + 1) iX6_has [ga r, gi i] (K, R, V) Q := c_Row_has hr hx.sz (by rw [hx.has]; exact hQ)
theorem q_Row_at {i : Int} (hr : gRow K R r n) (hx : rIs V r n xs) (hQ : Q (some (gi (lat xs i))) (K, R, V)) : gC l E (d + 1) iX6_at [ga r, gi i] (K, R, V) Q := c_Row_at hr hx.sz (by rw [hx.at]; exact hQ)
theorem q_Row_put {i x : Int} (hr : gRow K R r n) (hx : rIs V r n xs) (hQ : ∀ V', rIs V' r n (lput xs i x) → rFr V V' r → Q none (K, R, V')) : gC l E (d + 1) iX6_put [ga r, gi i, gi x] (K, R, V) Q := c_Row_put hr hx.sz (hQ _ (hx.put i x).1 (hx.put i x).2)
theorem q_Row_add {x : Int} (hr : gRow K R r n) (hx : rIs V r n xs) (hQ : ∀ V', rIs V' r n (ladd n xs x) → rFr V V' r → Q none (K, R, V')) : gC l E (d + 1) iX6_add [ga r, gi x] (K, R, V) Q := c_Row_add hr hx.sz (hQ _ (hx.add x).1 (hx.add x).2)
theorem q_Row_clear (hr : gRow K R r n) (hQ : ∀ V', rIs V' r n [] → rFr V V' r → Q none (K, R, V')) : gC l E (d + 1) iX6_clear [ga r] (K, R, V) Q := c_Row_clear hr (hQ _ (rIs.clear V r n).1 (rIs.clear V r n).2)
theorem gRow_apart {o : Int} {no : Nat} (hr : gRow K R r n) (ho : gRow K R o no) : o ≠ r + 1 ∧ r ≠ o + 1 := by
  constructor
  · intro h
    have h1 := ho.1
    rw [h, hr.2.1] at h1
    cases h1
  · intro h
    have h1 := hr.1
    rw [h, ho.2.1] at h1
    cases h1
set_option maxRecDepth 4000 in
theorem q_Row_fill {k x : Int} (hr : gRow K R r n) (h0 : 0 ≤ k) (hk : k ≤ n) (hQ : ∀ V', rIs V' r n (List.replicate k.toNat x) → rFr V V' r → Q none (K, R, V')) : gC l E (d + 2) iX6_fill [ga r, gi k, gi x] (K, R, V) Q := by
  refine gC_of kX6_fill (ls := [some (ga r), some (gi k), some (gi x), none]) rfl (Nat.le_of_ble_eq_true rfl) ?_
  have hn := hr.2.2.2
  have lp : ∀ (jj : Nat) (i : Int) (V1 : Int → Int → Int) (bc bs : Nat), k - i < (jj : Int) → 0 ≤ i → i ≤ k → rIs V1 r n (List.replicate i.toNat x) → rFr V V1 r → gX l E (gFm E (d + 2) iX6_fill Q) 6 [some (ga r), some (gi k), some (gi x), some (gi i)] [] (K, R, V1) bc bs := by
    intro jj
    induction jj with
    | zero =>
      intro i V1 bc bs hj g0 g1 hx1 hf1
      exfalso; omega
    | succ jj ih =>
      intro i V1 bc bs hj g0 g1 hx1 hf1
      refine gX_iloadn dX6_fill_6 rfl ?_
      refine gX_iloadn dX6_fill_7 rfl ?_
      refine gX_icmpge (tgt := 22) dX6_fill_8 (by decide) (fun h1 => ?_) (fun h1 => ?_)
      · refine gX_vret dX6_fill_22 rfl ?_
        refine hQ _ ?_ hf1
        have e : i = k := by omega
        rw [← e]
        exact hx1
      · refine gX_aloadn dX6_fill_11 rfl ?_
        refine gX_iloadn dX6_fill_12 rfl ?_
        refine gX_virt (J := iX6_add) (av := [gi x]) (a := r) (st := []) dX6_fill_13 lkX6_22 kX6_add vX6_add (gFit_m (by decide)) hr.1 rfl rfl (Nat.le_of_ble_eq_true rfl) (Nat.zero_le _) (Nat.zero_le _) rfl ?_
        refine q_Row_add hr hx1 (fun V2 hx2 hf2 => ?_)
        show gX l E _ 16 [some (ga r), some (gi k), some (gi x), some (gi i)] [] (K, R, V2) _ _
        refine gX_iinc dX6_fill_16 rfl (show (3 : Nat) < 4 from by decide) ⟨by omega, by omega⟩ (ls2 := [some (ga r), some (gi k), some (gi x), some (gi (i + 1))]) rfl ?_
        refine gX_goto (tgt := 6) dX6_fill_19 (by decide) ?_
        refine ih (i + 1) V2 _ _ (by omega) (by omega) (by omega) ?_ (hf1.trans hf2)
        have e : ladd n (List.replicate i.toNat x) x = List.replicate (i + 1).toNat x := by
          unfold ladd
          rw [List.length_replicate, if_pos (by omega), show (i + 1).toNat = i.toNat + 1 by omega, List.replicate_succ']
        rw [e] at hx2
        exact hx2
  refine gX_aloadn dX6_fill_0 rfl ?_
  refine gX_virt (J := iX6_clear) (av := []) (a := r) (st := []) dX6_fill_1 lkX6_19 kX6_clear vX6_clear (gFit_m (by decide)) hr.1 rfl rfl (Nat.le_of_ble_eq_true rfl) (Nat.zero_le _) (Nat.zero_le _) rfl ?_
  refine q_Row_clear hr (fun V1 hx1 hf1 => ?_)
  show gX l E _ 4 [some (ga r), some (gi k), some (gi x), none] [] (K, R, V1) _ _
  refine gX_iconst dX6_fill_4 ⟨by decide, by decide⟩ ?_
  refine gX_istoren dX6_fill_5 (show (3 : Nat) < 4 from by decide) (ls2 := [some (ga r), some (gi k), some (gi x), some (gi 0)]) rfl ?_
  exact lp (k.toNat + 1) 0 V1 _ _ (by omega) (by omega) (by omega) (by simpa using hx1) hf1
/-- while a row is copied from another -/
def rCp (V : Int → Int → Int) (r o m : Int) : Int → Int → Int := fun a j => if a = r + 1 ∧ 0 ≤ j ∧ j < m then V (o + 1) j else V a j
theorem rCp_o {V : Int → Int → Int} {r o m a j : Int} (h : a ≠ r + 1) : rCp V r o m a j = V a j := by
  unfold rCp
  rw [if_neg (fun z => h z.1)]
theorem rCp_i {V : Int → Int → Int} {r o m : Int} : rCp V r o m (o + 1) m = V (o + 1) m := by
  unfold rCp
  rw [if_neg (by omega)]
theorem rCp_s {V : Int → Int → Int} {r o m : Int} (h : 0 ≤ m) : gup (rCp V r o m) (r + 1) m (V (o + 1) m) = rCp V r o (m + 1) := by
  funext a j
  unfold gup rCp
  by_cases h1 : a = r + 1 ∧ j = m
  · rw [if_pos h1, if_pos (by omega), h1.2]
  · rw [if_neg h1]
    by_cases h2 : a = r + 1 ∧ 0 ≤ j ∧ j < m
    · rw [if_pos h2, if_pos (by omega)]
    · rw [if_neg h2, if_neg (by omega)]
theorem rCp_0 {V : Int → Int → Int} {r o : Int} : rCp V r o 0 = V := by
  funext a j
  unfold rCp
  rw [if_neg (by omega)]
theorem rCp_is {V : Int → Int → Int} {r o : Int} {n no : Nat} {ys : List Int} (hy : rIs V o no ys) (hl : ys.length ≤ n) (h1 : o ≠ r + 1) : rIs (gup (rCp V r o ys.length) r 1 ys.length) r n ys ∧ rFr V (gup (rCp V r o ys.length) r 1 ys.length) r := by
  refine ⟨⟨gup_s, hl, fun j x hj => ?_⟩, fun a h2 h3 => ?_⟩
  · rw [gup_o (Or.inl (by omega))]
    have := (List.getElem?_eq_some_iff.mp hj).1
    unfold rCp
    rw [if_pos (by omega)]
    exact hy.2.2 j x hj
  · rw [gup_ne h2]
    funext j
    exact rCp_o h3
set_option maxRecDepth 4000 in
theorem q_Row_takeFrom {o : Int} {no : Nat} {ys : List Int} (hr : gRow K R r n) (ho : gRow K R o no) (hy : rIs V o no ys) (hl : ys.length ≤ n) (hQ : ∀ V', rIs V' r n (ys) → rFr V V' r → Q none (K, R, V')) : gC l E (d + 1) iX6_takeFrom [ga r, ga o] (K, R, V) Q := by
  refine gC_of kX6_takeFrom (ls := [some (ga r), some (ga o), none, none]) rfl (Nat.le_of_ble_eq_true rfl) ?_
  have hn := hr.2.2.2
  have hno := ho.2.2.2
  have ha := gRow_apart hr ho
  have hyl := hy.2.1
  have hy1 := hy.1
  have lp : ∀ (jj : Nat) (i : Int) (bc bs : Nat), ys.length - i < (jj : Int) → 0 ≤ i → i ≤ ys.length → gX l E (gFm E (d + 1) iX6_takeFrom Q) 23 [some (ga r), some (ga o), some (gi ys.length), some (gi i)] [] (K, R, rCp V r o i) bc bs := by
    intro jj
    induction jj with
    | zero =>
      intro i bc bs hj g0 g1
      exfalso; omega
    | succ jj ih =>
      intro i bc bs hj g0 g1
      refine gX_iloadn dX6_takeFrom_23 rfl ?_
      refine gX_iloadn dX6_takeFrom_24 rfl ?_
      refine gX_icmpge (tgt := 46) dX6_takeFrom_25 (by decide) (fun h1 => ?_) (fun h1 => ?_)
      · refine gX_aloadn dX6_takeFrom_46 rfl ?_
        refine gX_iloadn dX6_takeFrom_47 rfl ?_
        refine gX_pI 1 dX6_takeFrom_48 fdX6_9 fpX6_9 rfl (Or.inl rfl) hr.1 ?_
        refine gX_vret dX6_takeFrom_51 rfl ?_
        have e : i = ys.length := by omega
        subst e
        exact hQ _ (rCp_is hy hl ha.1).1 (rCp_is hy hl ha.1).2
      · refine gX_aloadn dX6_takeFrom_28 rfl ?_
        refine gX_gR 0 dX6_takeFrom_29 fdX6_15 rfl rfl hr.1 hr.2.2.1 ?_
        refine gX_iloadn dX6_takeFrom_32 rfl ?_
        refine gX_aloadn dX6_takeFrom_33 rfl ?_
        refine gX_gR 0 dX6_takeFrom_34 fdX6_15 rfl rfl ho.1 ho.2.2.1 ?_
        refine gX_iloadn dX6_takeFrom_37 rfl ?_
        refine gX_iald dX6_takeFrom_38 ho.2.1 (by omega) (by omega) ?_
        refine gX_iast dX6_takeFrom_39 hr.2.1 (by omega) (by omega) ?_
        rw [rCp_i, rCp_s g0]
        refine gX_iinc dX6_takeFrom_40 rfl (show (3 : Nat) < 4 from by decide) ⟨by omega, by omega⟩ (ls2 := [some (ga r), some (ga o), some (gi ys.length), some (gi (i + 1))]) rfl ?_
        refine gX_goto (tgt := 23) dX6_takeFrom_43 (by decide) ?_
        exact ih (i + 1) _ _ (by omega) (by omega) (by omega)
  refine gX_aloadn dX6_takeFrom_0 rfl ?_
  refine gX_gI 1 dX6_takeFrom_1 fdX6_9 rfl (Or.inl rfl) ho.1 ?_
  refine gX_aloadn dX6_takeFrom_4 rfl ?_
  refine gX_gR 0 dX6_takeFrom_5 fdX6_15 rfl rfl ho.1 ho.2.2.1 ?_
  refine gX_alen dX6_takeFrom_8 ho.2.1 (by decide) (by omega) ?_
  refine gX_aloadn dX6_takeFrom_9 rfl ?_
  refine gX_gR 0 dX6_takeFrom_10 fdX6_15 rfl rfl hr.1 hr.2.2.1 ?_
  refine gX_alen dX6_takeFrom_13 hr.2.1 (by decide) (by omega) ?_
  refine gX_mmin dX6_takeFrom_14 lkX6_26 ⟨Nat.le_add_left _ _, Nat.le_add_left _ _⟩ (Nat.le_of_ble_eq_true rfl) ?_
  refine gX_mmin dX6_takeFrom_17 lkX6_26 ⟨Nat.le_add_left _ _, Nat.le_add_left _ _⟩ (Nat.le_of_ble_eq_true rfl) ?_
  have em : min (V o 1) (min (no : Int) (n : Int)) = ys.length := by rw [hy1]; omega
  rw [em]
  refine gX_istoren dX6_takeFrom_20 (show (2 : Nat) < 4 from by decide) (ls2 := [some (ga r), some (ga o), some (gi ys.length), none]) rfl ?_
  refine gX_iconst dX6_takeFrom_21 ⟨by decide, by decide⟩ ?_
  refine gX_istoren dX6_takeFrom_22 (show (3 : Nat) < 4 from by decide) (ls2 := [some (ga r), some (ga o), some (gi ys.length), some (gi 0)]) rfl ?_
  have h9 := lp (ys.length + 1) 0 (iX6_takeFrom.2.1.1) (iX6_takeFrom.2.1.2) (by omega) (by omega) (by omega)
  rw [rCp_0] at h9
  exact h9
set_option maxRecDepth 4000 in
theorem q_Row_holds {x : Int} (hr : gRow K R r n) (hx : rIs V r n xs) (hQ : Q (some (gi (if x ∈ xs then 1 else 0))) (K, R, V)) : gC l E (d + 2) iX6_holds [ga r, gi x] (K, R, V) Q := by
  refine gC_of kX6_holds (ls := [some (ga r), some (gi x), none]) rfl (Nat.le_of_ble_eq_true rfl) ?_
  have hn := hr.2.2.2
  have hl := hx.2.1
  have hx1 := hx.1
  have lp : ∀ (jj : Nat) (i : Int) (bc bs : Nat), xs.length - i < (jj : Int) → 0 ≤ i → i ≤ xs.length → (∀ (k : Nat) (y : Int), (k : Int) < i → xs[k]? = some y → y ≠ x) → gX l E (gFm E (d + 2) iX6_holds Q) 2 [some (ga r), some (gi x), some (gi i)] [] (K, R, V) bc bs := by
    intro jj
    induction jj with
    | zero =>
      intro i bc bs hj g0 g1 g2
      exfalso; omega
    | succ jj ih =>
      intro i bc bs hj g0 g1 g2
      refine gX_iloadn dX6_holds_2 rfl ?_
      refine gX_aloadn dX6_holds_3 rfl ?_
      refine gX_gI 1 dX6_holds_4 fdX6_9 rfl (Or.inl rfl) hr.1 ?_
      refine gX_icmpge (tgt := 27) dX6_holds_7 (by decide) (fun h1 => ?_) (fun h1 => ?_)
      · refine gX_iconst dX6_holds_27 ⟨by decide, by decide⟩ ?_
        refine gX_iret dX6_holds_28 (Or.inr ⟨rfl, Or.inl rfl⟩) ?_
        rw [if_neg] at hQ
        · exact hQ
        · intro hm
          obtain ⟨k, hk⟩ := List.getElem?_of_mem hm
          have := (List.getElem?_eq_some_iff.mp hk).1
          exact g2 k x (by omega) hk rfl
      · refine gX_aloadn dX6_holds_10 rfl ?_
        refine gX_iloadn dX6_holds_11 rfl ?_
        refine gX_virt (J := iX6_at) (av := [gi i]) (a := r) (st := []) dX6_holds_12 lkX6_32 kX6_at vX6_at (gFit_m (by decide)) hr.1 rfl rfl (Nat.le_of_ble_eq_true rfl) (Nat.zero_le _) (Nat.zero_le _) rfl ?_
        refine q_Row_at hr hx ?_
        show gX l E _ 15 [some (ga r), some (gi x), some (gi i)] [gi (lat xs i)] (K, R, V) _ _
        refine gX_iloadn dX6_holds_15 rfl ?_
        refine gX_icmpne (tgt := 21) dX6_holds_16 (by decide) (fun h2 => ?_) (fun h2 => ?_)
        · refine gX_iinc dX6_holds_21 rfl (show (2 : Nat) < 3 from by decide) ⟨by omega, by omega⟩ (ls2 := [some (ga r), some (gi x), some (gi (i + 1))]) rfl ?_
          refine gX_goto (tgt := 2) dX6_holds_24 (by decide) ?_
          refine ih (i + 1) _ _ (by omega) (by omega) (by omega) ?_
          intro k y hk hy
          by_cases hki : (k : Int) < i
          · exact g2 k y hki hy
          · have : (k : Int) = i := by omega
            rw [← this, lat_of hy] at h2
            exact h2
        · refine gX_iconst dX6_holds_19 ⟨by decide, by decide⟩ ?_
          refine gX_iret dX6_holds_20 (Or.inr ⟨rfl, Or.inr rfl⟩) ?_
          rw [if_pos] at hQ
          · exact hQ
          · have hg : xs[i.toNat]? = some xs[i.toNat] := List.getElem?_eq_getElem (by omega)
            have h9 := lat_of hg
            rw [Int.toNat_of_nonneg g0, h2] at h9
            rw [h9]
            exact List.getElem_mem _
  refine gX_iconst dX6_holds_0 ⟨by decide, by decide⟩ ?_
  refine gX_istoren dX6_holds_1 (show (2 : Nat) < 3 from by decide) (ls2 := [some (ga r), some (gi x), some (gi 0)]) rfl ?_
  exact lp (xs.length + 1) 0 _ _ (by omega) (by omega) (by omega) (fun k y hk => by omega)
/-- while the words behind a gap are moved up: those ahead of m have come -/
def lcut (xs : List Int) (f gap m : Nat) : List Int := xs.take f ++ (xs.drop (f + gap)).take (m - (f + gap)) ++ xs.drop (m - gap)
theorem lat_nat {xs : List Int} {j : Nat} (h : j < xs.length) : lat xs j = xs[j] := lat_of (List.getElem?_eq_getElem h)
theorem lput_nat {xs : List Int} {j : Nat} {x : Int} : lput xs j x = xs.set j x := by
  unfold lput
  rw [if_neg (by omega), Int.toNat_natCast]
theorem lcut_len {xs : List Int} {f gap m : Nat} (h1 : f + gap ≤ m) (h2 : m ≤ xs.length) : (lcut xs f gap m).length = xs.length := by
  unfold lcut
  simp only [List.length_append, List.length_take, List.length_drop]
  omega
theorem lcut_at {xs : List Int} {f gap m j : Nat} (h1 : f + gap ≤ m) (h2 : m ≤ xs.length) : (lcut xs f gap m)[j]? = if j < f then xs[j]? else if j + gap < m then xs[j + gap]? else xs[j]? := by
  unfold lcut
  have l1 : (xs.take f).length = f := by rw [List.length_take]; omega
  have l2 : ((xs.drop (f + gap)).take (m - (f + gap))).length = m - (f + gap) := by rw [List.length_take, List.length_drop]; omega
  have l3 : (xs.take f ++ (xs.drop (f + gap)).take (m - (f + gap))).length = m - gap := by rw [List.length_append, l1, l2]; omega
  by_cases c1 : j < f
  · rw [if_pos c1, List.getElem?_append_left (by omega), List.getElem?_append_left (by omega), List.getElem?_take_of_lt c1]
  · rw [if_neg c1]
    by_cases c2 : j + gap < m
    · rw [if_pos c2, List.getElem?_append_left (by omega), List.getElem?_append_right (by omega), l1, List.getElem?_take_of_lt (by omega), List.getElem?_drop]
      congr 1
      omega
    · rw [if_neg c2, List.getElem?_append_right (by omega), l3, List.getElem?_drop]
      congr 1
      omega
theorem lcut_s {xs : List Int} {f gap m : Nat} (h0 : 0 < gap) (h1 : f + gap ≤ m) (h2 : m < xs.length) : (lcut xs f gap m).set (m - gap) (lat (lcut xs f gap m) m) = lcut xs f gap (m + 1) := by
  have hl := lcut_len h1 (by omega : m ≤ xs.length)
  have hv : lat (lcut xs f gap m) m = xs[m] := by
    refine lat_of ?_
    rw [lcut_at h1 (by omega), if_neg (by omega), if_neg (by omega)]
    exact List.getElem?_eq_getElem h2
  rw [hv]
  apply List.ext_getElem?
  intro j
  rw [lcut_at (by omega) (by omega)]
  by_cases hj : j = m - gap
  · subst hj
    rw [List.getElem?_set_self (by omega), if_neg (by omega), if_pos (by omega), show m - gap + gap = m by omega]
    exact (List.getElem?_eq_getElem h2).symm
  · rw [List.getElem?_set_ne (Ne.symm hj), lcut_at h1 (by omega)]
    by_cases c1 : j < f
    · rw [if_pos c1, if_pos c1]
    · rw [if_neg c1, if_neg c1]
      by_cases c2 : j + gap < m
      · rw [if_pos c2, if_pos (by omega)]
      · rw [if_neg c2, if_neg (by omega)]
theorem lcut_0 {xs : List Int} {f gap : Nat} (h : f + gap ≤ xs.length) : lcut xs f gap (f + gap) = xs := by
  apply List.ext_getElem?
  intro j
  rw [lcut_at (Nat.le_refl _) h]
  by_cases c1 : j < f
  · rw [if_pos c1]
  · rw [if_neg c1, if_neg (by omega)]
theorem lcut_end {xs : List Int} {f gap : Nat} (h : f + gap ≤ xs.length) : (lcut xs f gap xs.length).take (xs.length - gap) = xs.take f ++ xs.drop (f + gap) := by
  apply List.ext_getElem?
  intro j
  have l1 : (xs.take f).length = f := by rw [List.length_take]; omega
  by_cases c0 : j < xs.length - gap
  · rw [List.getElem?_take_of_lt c0, lcut_at h (Nat.le_refl _)]
    by_cases c1 : j < f
    · rw [if_pos c1, List.getElem?_append_left (by omega), List.getElem?_take_of_lt c1]
    · rw [if_neg c1, if_pos (by omega), List.getElem?_append_right (by omega), l1, List.getElem?_drop]
      congr 1
      omega
  · rw [List.getElem?_eq_none (by rw [List.length_take, lcut_len h (Nat.le_refl _)]; omega), List.getElem?_eq_none (by rw [List.length_append, l1, List.length_drop]; omega)]
/-- a shorter row -/
theorem rIs.short {V : Int → Int → Int} {r : Int} {n : Nat} {xs : List Int} (h : rIs V r n xs) (m : Nat) (hm : m ≤ xs.length) : rIs (gup V r 1 m) r n (xs.take m) ∧ rFr V (gup V r 1 m) r := by
  have hl : (xs.take m).length = m := by rw [List.length_take]; omega
  refine ⟨⟨by rw [hl]; exact gup_s, by have := h.2.1; omega, fun j x hj => ?_⟩, fun a h1 h2 => gup_ne h1⟩
  have := (List.getElem?_eq_some_iff.mp hj).1
  rw [gup_o (Or.inl (by omega))]
  rw [List.getElem?_take_of_lt (by omega)] at hj
  exact h.2.2 j x hj
set_option maxRecDepth 4000 in
theorem q_Row_cut {f t : Int} (hr : gRow K R r n) (hx : rIs V r n xs) (h0 : 0 ≤ f) (h1 : f ≤ t) (h2 : t < xs.length) (hQ : ∀ V', rIs V' r n (xs.take f.toNat ++ xs.drop (t + 1).toNat) → rFr V V' r → Q none (K, R, V')) : gC l E (d + 2) iX6_cut [ga r, gi f, gi t] (K, R, V) Q := by
  refine gC_of kX6_cut (ls := [some (ga r), some (gi f), some (gi t), none, none]) rfl (Nat.le_of_ble_eq_true rfl) ?_
  have hn := hr.2.2.2
  have hl := hx.2.1
  have lp : ∀ (jj : Nat) (m : Int) (V1 : Int → Int → Int) (bc bs : Nat), xs.length - m < (jj : Int) → t + 1 ≤ m → m ≤ xs.length → rIs V1 r n (lcut xs f.toNat (t - f + 1).toNat m.toNat) → rFr V V1 r → gX l E (gFm E (d + 2) iX6_cut Q) 33 [some (ga r), some (gi f), some (gi t), some (gi (t - f + 1)), some (gi m)] [] (K, R, V1) bc bs := by
    intro jj
    induction jj with
    | zero =>
      intro m V1 bc bs hj g0 g1 hx1 hf1
      exfalso; omega
    | succ jj ih =>
      intro m V1 bc bs hj g0 g1 hx1 hf1
      refine gX_iload dX6_cut_33 rfl ?_
      have hz := hx1.1
      rw [lcut_len (by omega) (by omega)] at hz
      refine gX_aloadn dX6_cut_35 rfl ?_
      refine gX_gI 1 dX6_cut_36 fdX6_9 rfl (Or.inl rfl) hr.1 ?_
      refine gX_icmpge (tgt := 62) dX6_cut_39 (by decide) (fun h1 => ?_) (fun h1 => ?_)
      · refine gX_aloadn dX6_cut_62 rfl ?_
        refine gX_dup dX6_cut_63 rfl ?_
        refine gX_gI 1 dX6_cut_64 fdX6_9 rfl (Or.inl rfl) hr.1 ?_
        refine gX_iloadn dX6_cut_67 rfl ?_
        refine gX_isub dX6_cut_68 ⟨by omega, by omega⟩ ?_
        refine gX_pI 1 dX6_cut_69 fdX6_9 fpX6_9 rfl (Or.inl rfl) hr.1 ?_
        refine gX_vret dX6_cut_72 rfl ?_
        have em : m.toNat = xs.length := by omega
        rw [em] at hx1
        have hs := hx1.short (xs.length - (t - f + 1).toNat) (by rw [lcut_len (by omega) (Nat.le_refl _)]; omega)
        rw [lcut_end (by omega), show f.toNat + (t - f + 1).toNat = (t + 1).toNat by omega] at hs
        have ez : V1 r 1 - (t - f + 1) = ((xs.length - (t - f + 1).toNat : Nat) : Int) := by omega
        rw [ez]
        exact hQ _ hs.1 (hf1.trans hs.2)
      · refine gX_aloadn dX6_cut_42 rfl ?_
        refine gX_iload dX6_cut_43 rfl ?_
        refine gX_iloadn dX6_cut_45 rfl ?_
        refine gX_isub dX6_cut_46 ⟨by omega, by omega⟩ ?_
        refine gX_aloadn dX6_cut_47 rfl ?_
        refine gX_iload dX6_cut_48 rfl ?_
        refine gX_virt (J := iX6_at) (av := [gi m]) (a := r) (st := [gi (m - (t - f + 1)), ga r]) dX6_cut_50 lkX6_32 kX6_at vX6_at (gFit_m (by decide)) hr.1 rfl rfl (Nat.le_of_ble_eq_true rfl) (Nat.zero_le _) (Nat.zero_le _) rfl ?_
        refine q_Row_at hr hx1 ?_
        show gX l E _ 53 [some (ga r), some (gi f), some (gi t), some (gi (t - f + 1)), some (gi m)] [gi (lat (lcut xs f.toNat (t - f + 1).toNat m.toNat) m), gi (m - (t - f + 1)), ga r] (K, R, V1) _ _
        refine gX_virt (J := iX6_put) (av := [gi (m - (t - f + 1)), gi (lat (lcut xs f.toNat (t - f + 1).toNat m.toNat) m)]) (a := r) (st := []) dX6_cut_53 lkX6_40 kX6_put vX6_put (gFit_m (by decide)) hr.1 rfl rfl (Nat.le_of_ble_eq_true rfl) (Nat.zero_le _) (Nat.zero_le _) rfl ?_
        refine q_Row_put hr hx1 (fun V2 hx2 hf2 => ?_)
        show gX l E _ 56 [some (ga r), some (gi f), some (gi t), some (gi (t - f + 1)), some (gi m)] [] (K, R, V2) _ _
        refine gX_iinc dX6_cut_56 rfl (show (4 : Nat) < 5 from by decide) ⟨by omega, by omega⟩ (ls2 := [some (ga r), some (gi f), some (gi t), some (gi (t - f + 1)), some (gi (m + 1))]) rfl ?_
        refine gX_goto (tgt := 33) dX6_cut_59 (by decide) ?_
        have hm : (m : Int) = (m.toNat : Int) := by omega
        refine ih (m + 1) V2 _ _ (by omega) (by omega) (by omega) ?_ (hf1.trans hf2)
        have e : lput (lcut xs f.toNat (t - f + 1).toNat m.toNat) (m - (t - f + 1)) (lat (lcut xs f.toNat (t - f + 1).toNat m.toNat) m) = lcut xs f.toNat (t - f + 1).toNat (m + 1).toNat := by
          rw [show m - (t - f + 1) = ((m.toNat - (t - f + 1).toNat : Nat) : Int) by omega, lput_nat, show (m + 1).toNat = m.toNat + 1 by omega]
          have h9 := lcut_s (xs := xs) (f := f.toNat) (gap := (t - f + 1).toNat) (m := m.toNat) (by omega) (by omega) (by omega)
          rw [← hm] at h9
          exact h9
        rw [e] at hx2
        exact hx2
  refine gX_aloadn dX6_cut_0 rfl ?_
  refine gX_iloadn dX6_cut_1 rfl ?_
  refine gX_virt (J := iX6_has) (av := [gi f]) (a := r) (st := []) dX6_cut_2 lkX6_36 kX6_has vX6_has (gFit_m (by decide)) hr.1 rfl rfl (Nat.le_of_ble_eq_true rfl) (Nat.zero_le _) (Nat.zero_le _) rfl ?_
  refine q_Row_has hr hx ?_
  show gX l E _ 5 [some (ga r), some (gi f), some (gi t), none, none] [gi (lhas xs f)] (K, R, V) _ _
  have e1 : lhas xs f = 1 := by unfold lhas; rw [if_pos (by omega)]
  rw [e1]
  refine gX_ifeq (tgt := 21) dX6_cut_5 (by decide) (fun h1 => ?_) (fun h1 => ?_)
  · exfalso; omega
  · refine gX_aloadn dX6_cut_8 rfl ?_
    refine gX_iloadn dX6_cut_9 rfl ?_
    refine gX_virt (J := iX6_has) (av := [gi t]) (a := r) (st := []) dX6_cut_10 lkX6_36 kX6_has vX6_has (gFit_m (by decide)) hr.1 rfl rfl (Nat.le_of_ble_eq_true rfl) (Nat.zero_le _) (Nat.zero_le _) rfl ?_
    refine q_Row_has hr hx ?_
    show gX l E _ 13 [some (ga r), some (gi f), some (gi t), none, none] [gi (lhas xs t)] (K, R, V) _ _
    have e2 : lhas xs t = 1 := by unfold lhas; rw [if_pos (by omega)]
    rw [e2]
    refine gX_ifeq (tgt := 21) dX6_cut_13 (by decide) (fun h2 => ?_) (fun h2 => ?_)
    · exfalso; omega
    · refine gX_iloadn dX6_cut_16 rfl ?_
      refine gX_iloadn dX6_cut_17 rfl ?_
      refine gX_icmple (tgt := 22) dX6_cut_18 (by decide) (fun k1 => ?_) (fun k1 => ?_)
      · refine gX_iloadn dX6_cut_22 rfl ?_
        refine gX_iloadn dX6_cut_23 rfl ?_
        refine gX_isub dX6_cut_24 ⟨by omega, by omega⟩ ?_
        refine gX_iconst dX6_cut_25 ⟨by decide, by decide⟩ ?_
        refine gX_iadd dX6_cut_26 ⟨by omega, by omega⟩ ?_
        refine gX_istoren dX6_cut_27 (show (3 : Nat) < 5 from by decide) (ls2 := [some (ga r), some (gi f), some (gi t), some (gi ((t - f) + 1)), none]) rfl ?_
        refine gX_iloadn dX6_cut_28 rfl ?_
        refine gX_iconst dX6_cut_29 ⟨by decide, by decide⟩ ?_
        refine gX_iadd dX6_cut_30 ⟨by omega, by omega⟩ ?_
        refine gX_istore dX6_cut_31 (show (4 : Nat) < 5 from by decide) (ls2 := [some (ga r), some (gi f), some (gi t), some (gi ((t - f) + 1)), some (gi (t + 1))]) rfl ?_
        refine lp (xs.length + 1) (t + 1) V _ _ (by omega) (by omega) (by omega) ?_ (fun a _ _ => rfl)
        rw [show (t + 1).toNat = f.toNat + (t - f + 1).toNat by omega, lcut_0 (by omega)]
        exact hx
      · exfalso; omega
theorem rIs.grow {V : Int → Int → Int} {r : Int} {n : Nat} {xs : List Int} (h : rIs V r n xs) (g : Nat) (hg : xs.length + g ≤ n) : ∃ zs : List Int, zs.length = g ∧ rIs (gup V r 1 ((xs.length + g : Nat) : Int)) r n (xs ++ zs) ∧ rFr V (gup V r 1 ((xs.length + g : Nat) : Int)) r := by
  refine ⟨(List.range g).map (fun k => V (r + 1) ((xs.length + k : Nat) : Int)), by simp, ⟨?_, by simp; omega, fun j x hj => ?_⟩, fun a h1 h2 => gup_ne h1⟩
  · rw [gup_s]
    simp
  · rw [gup_o (Or.inl (by omega))]
    by_cases c : j < xs.length
    · rw [List.getElem?_append_left c] at hj
      exact h.2.2 j x hj
    · rw [List.getElem?_append_right (by omega), List.getElem?_map] at hj
      have hlt : j - xs.length < g := by
        by_cases q : j - xs.length < g
        · exact q
        · rw [List.getElem?_eq_none (by simp; omega)] at hj
          cases hj
      rw [List.getElem?_range hlt] at hj
      simp only [Option.map_some, Option.some.injEq] at hj
      rw [← hj, show xs.length + (j - xs.length) = j by omega]
theorem lput_at {ws : List Int} {i x : Int} {j : Nat} (h0 : 0 ≤ i) (h1 : i < ws.length) : (lput ws i x)[j]? = if (j : Int) = i then some x else ws[j]? := by
  unfold lput
  rw [if_neg (by omega)]
  by_cases c : (j : Int) = i
  · rw [if_pos c, show i.toNat = j by omega, List.getElem?_set_self (by omega)]
  · rw [if_neg c, List.getElem?_set_ne (by omega)]
theorem lput_len (ws : List Int) (i x : Int) : (lput ws i x).length = ws.length := by
  unfold lput
  split
  · rfl
  · rw [List.length_set]
set_option maxRecDepth 4000 in
theorem q_Row_insert {p o : Int} {no : Nat} {ys : List Int} (hr : gRow K R r n) (ho : gRow K R o no) (hne : o ≠ r) (hx : rIs V r n xs) (hy : rIs V o no ys) (h0 : 0 ≤ p) (h1 : p ≤ xs.length) (h2 : xs.length + ys.length ≤ n) (hQ : ∀ V', rIs V' r n (xs.take p.toNat ++ ys ++ xs.drop p.toNat) → rFr V V' r → Q none (K, R, V')) : gC l E (d + 2) iX6_insert [ga r, gi p, ga o] (K, R, V) Q := by
  refine gC_of kX6_insert (ls := [some (ga r), some (gi p), some (ga o), none, none, none]) rfl (Nat.le_of_ble_eq_true rfl) ?_
  have hn := hr.2.2.2
  have hl := hx.2.1
  have hz := hx.1
  have hyl := hy.2.1
  have ha := gRow_apart hr ho
  have hor : o ≠ r ∧ o ≠ r + 1 := ⟨hne, ha.1⟩
  have hor1 : o + 1 ≠ r ∧ o + 1 ≠ r + 1 := ⟨fun h => ha.2 h.symm, by omega⟩
  have lp2 : ∀ (jj : Nat) (i : Int) (V1 : Int → Int → Int) (ws : List Int) (bc bs : Nat), ys.length - i < (jj : Int) → 0 ≤ i → i ≤ ys.length → rIs V1 r n ws → rFr V V1 r → ws.length = xs.length + ys.length → (∀ j : Nat, (j : Int) < p → ws[j]? = xs[j]?) → (∀ j : Nat, p ≤ j → j < xs.length → ws[j + ys.length]? = xs[j]?) → (∀ j : Nat, (j : Int) < i → ws[p.toNat + j]? = ys[j]?) → gX l E (gFm E (d + 2) iX6_insert Q) 77 [some (ga r), some (gi p), some (ga o), some (gi ys.length), some (gi xs.length), some (gi i)] [] (K, R, V1) bc bs := by
    intro jj
    induction jj with
    | zero =>
      intro i V1 ws bc bs hj g0 g1 hx1 hf1 hl1 q1 q2 q3
      exfalso; omega
    | succ jj ih =>
      intro i V1 ws bc bs hj g0 g1 hx1 hf1 hl1 q1 q2 q3
      refine gX_iload dX6_insert_77 rfl ?_
      refine gX_iloadn dX6_insert_79 rfl ?_
      refine gX_icmpge (tgt := 103) dX6_insert_80 (by decide) (fun h1 => ?_) (fun h1 => ?_)
      · refine gX_vret dX6_insert_103 rfl ?_
        have ew : ws = xs.take p.toNat ++ ys ++ xs.drop p.toNat := by
          have l1 : (xs.take p.toNat).length = p.toNat := by rw [List.length_take]; omega
          apply List.ext_getElem?
          intro j
          by_cases c1 : (j : Int) < p
          · rw [q1 j c1, List.append_assoc, List.getElem?_append_left (by omega), List.getElem?_take_of_lt (by omega)]
          · by_cases c2 : (j : Int) < p + ys.length
            · rw [List.append_assoc, List.getElem?_append_right (by omega), l1, List.getElem?_append_left (by omega)]
              have h7 := q3 (j - p.toNat) (by omega)
              rw [show p.toNat + (j - p.toNat) = j by omega] at h7
              exact h7
            · by_cases c3 : j < ws.length
              · rw [List.getElem?_append_right (by rw [List.length_append]; omega), List.length_append, l1, List.getElem?_drop]
                have h7 := q2 (j - ys.length) (by omega) (by omega)
                rw [show j - ys.length + ys.length = j by omega] at h7
                rw [h7]
                congr 1
                omega
              · rw [List.getElem?_eq_none (by omega), List.getElem?_eq_none (by simp only [List.length_append, List.length_drop, l1]; omega)]
        rw [ew] at hx1
        exact hQ _ hx1 hf1
      · refine gX_aloadn dX6_insert_83 rfl ?_
        refine gX_iloadn dX6_insert_84 rfl ?_
        refine gX_iload dX6_insert_85 rfl ?_
        refine gX_iadd dX6_insert_87 ⟨by omega, by omega⟩ ?_
        refine gX_aloadn dX6_insert_88 rfl ?_
        refine gX_iload dX6_insert_89 rfl ?_
        refine gX_virt (J := iX6_at) (av := [gi i]) (a := o) (st := [gi (p + i), ga r]) dX6_insert_91 lkX6_32 kX6_at vX6_at (gFit_m (by decide)) ho.1 rfl rfl (Nat.le_of_ble_eq_true rfl) (Nat.zero_le _) (Nat.zero_le _) rfl ?_
        refine q_Row_at ho (hy.kept (hf1 o hor.1 hor.2) (hf1 (o + 1) hor1.1 hor1.2)) ?_
        show gX l E _ 94 [some (ga r), some (gi p), some (ga o), some (gi ys.length), some (gi xs.length), some (gi i)] [gi (lat ys i), gi (p + i), ga r] (K, R, V1) _ _
        refine gX_virt (J := iX6_put) (av := [gi (p + i), gi (lat ys i)]) (a := r) (st := []) dX6_insert_94 lkX6_40 kX6_put vX6_put (gFit_m (by decide)) hr.1 rfl rfl (Nat.le_of_ble_eq_true rfl) (Nat.zero_le _) (Nat.zero_le _) rfl ?_
        refine q_Row_put hr hx1 (fun V2 hx2 hf2 => ?_)
        show gX l E _ 97 [some (ga r), some (gi p), some (ga o), some (gi ys.length), some (gi xs.length), some (gi i)] [] (K, R, V2) _ _
        refine gX_iinc dX6_insert_97 rfl (show (5 : Nat) < 6 from by decide) ⟨by omega, by omega⟩ (ls2 := [some (ga r), some (gi p), some (ga o), some (gi ys.length), some (gi xs.length), some (gi (i + 1))]) rfl ?_
        refine gX_goto (tgt := 77) dX6_insert_100 (by decide) ?_
        have hv : lat ys i = ys[i.toNat] := by
          have h8 := lat_nat (xs := ys) (j := i.toNat) (by omega)
          rw [Int.toNat_of_nonneg (by omega)] at h8
          exact h8
        refine ih (i + 1) V2 _ _ _ (by omega) (by omega) (by omega) hx2 (hf1.trans hf2) (by rw [lput_len]; exact hl1) (fun j hj => ?_) (fun j hj1 hj2 => ?_) (fun j hj => ?_)
        · rw [lput_at (by omega) (by omega), if_neg (by omega)]
          exact q1 j hj
        · rw [lput_at (by omega) (by omega), if_neg (by omega)]
          exact q2 j hj1 hj2
        · rw [lput_at (by omega) (by omega)]
          by_cases c : (j : Int) = i
          · rw [if_pos (by omega), hv]
            have ej : i.toNat = j := by omega
            subst ej
            exact (List.getElem?_eq_getElem (by omega)).symm
          · rw [if_neg (by omega)]
            exact q3 j (by omega)
  have lp1 : ∀ (jj : Nat) (i : Int) (V1 : Int → Int → Int) (ws : List Int) (bc bs : Nat), i - p + 1 < (jj : Int) → p - 1 ≤ i → i < xs.length → rIs V1 r n ws → rFr V V1 r → ws.length = xs.length + ys.length → (∀ j : Nat, (j : Int) ≤ i → ws[j]? = xs[j]?) → (∀ j : Nat, i < j → j < xs.length → ws[j + ys.length]? = xs[j]?) → gX l E (gFm E (d + 2) iX6_insert Q) 48 [some (ga r), some (gi p), some (ga o), some (gi ys.length), some (gi xs.length), some (gi i)] [] (K, R, V1) bc bs := by
    intro jj
    induction jj with
    | zero =>
      intro i V1 ws bc bs hj g0 g1 hx1 hf1 hl1 q1 q2
      exfalso; omega
    | succ jj ih =>
      intro i V1 ws bc bs hj g0 g1 hx1 hf1 hl1 q1 q2
      refine gX_iload dX6_insert_48 rfl ?_
      refine gX_iloadn dX6_insert_50 rfl ?_
      refine gX_icmplt (tgt := 74) dX6_insert_51 (by decide) (fun h1 => ?_) (fun h1 => ?_)
      · refine gX_iconst dX6_insert_74 ⟨by decide, by decide⟩ ?_
        refine gX_istore dX6_insert_75 (show (5 : Nat) < 6 from by decide) (ls2 := [some (ga r), some (gi p), some (ga o), some (gi ys.length), some (gi xs.length), some (gi 0)]) rfl ?_
        exact lp2 (ys.length + 1) 0 V1 ws _ _ (by omega) (by omega) (by omega) hx1 hf1 hl1 (fun j hj => q1 j (by omega)) (fun j h5 h6 => q2 j (by omega) h6) (fun j hj => by omega)
      · refine gX_aloadn dX6_insert_54 rfl ?_
        refine gX_iload dX6_insert_55 rfl ?_
        refine gX_iloadn dX6_insert_57 rfl ?_
        refine gX_iadd dX6_insert_58 ⟨by omega, by omega⟩ ?_
        refine gX_aloadn dX6_insert_59 rfl ?_
        refine gX_iload dX6_insert_60 rfl ?_
        refine gX_virt (J := iX6_at) (av := [gi i]) (a := r) (st := [gi (i + ys.length), ga r]) dX6_insert_62 lkX6_32 kX6_at vX6_at (gFit_m (by decide)) hr.1 rfl rfl (Nat.le_of_ble_eq_true rfl) (Nat.zero_le _) (Nat.zero_le _) rfl ?_
        refine q_Row_at hr hx1 ?_
        show gX l E _ 65 [some (ga r), some (gi p), some (ga o), some (gi ys.length), some (gi xs.length), some (gi i)] [gi (lat ws i), gi (i + ys.length), ga r] (K, R, V1) _ _
        refine gX_virt (J := iX6_put) (av := [gi (i + ys.length), gi (lat ws i)]) (a := r) (st := []) dX6_insert_65 lkX6_40 kX6_put vX6_put (gFit_m (by decide)) hr.1 rfl rfl (Nat.le_of_ble_eq_true rfl) (Nat.zero_le _) (Nat.zero_le _) rfl ?_
        refine q_Row_put hr hx1 (fun V2 hx2 hf2 => ?_)
        show gX l E _ 68 [some (ga r), some (gi p), some (ga o), some (gi ys.length), some (gi xs.length), some (gi i)] [] (K, R, V2) _ _
        refine gX_iinc dX6_insert_68 rfl (show (5 : Nat) < 6 from by decide) ⟨by omega, by omega⟩ (ls2 := [some (ga r), some (gi p), some (ga o), some (gi ys.length), some (gi xs.length), some (gi (i + (-1)))]) rfl ?_
        refine gX_goto (tgt := 48) dX6_insert_71 (by decide) ?_
        have hv : lat ws i = xs[i.toNat] := by
          have h9 : ws[i.toNat]? = some xs[i.toNat] := by rw [q1 i.toNat (by omega)]; exact List.getElem?_eq_getElem (by omega)
          have h8 := lat_of h9
          rw [Int.toNat_of_nonneg (by omega)] at h8
          exact h8
        refine ih (i + (-1)) V2 _ _ _ (by omega) (by omega) (by omega) hx2 (hf1.trans hf2) (by rw [lput_len]; exact hl1) (fun j hj => ?_) (fun j hj1 hj2 => ?_)
        · rw [lput_at (by omega) (by omega), if_neg (by omega)]
          exact q1 j (by omega)
        · rw [lput_at (by omega) (by omega)]
          by_cases c : (j : Int) = i
          · rw [if_pos (by omega), hv]
            have ej : i.toNat = j := by omega
            subst ej
            exact (List.getElem?_eq_getElem (by omega)).symm
          · rw [if_neg (by omega)]
            exact q2 j (by omega) hj2
  refine gX_aloadn dX6_insert_0 rfl ?_
  refine gX_virt (J := iX6_length) (av := []) (a := o) (st := []) dX6_insert_1 lkX6_44 kX6_length vX6_length (gFit_m (by decide)) ho.1 rfl rfl (Nat.le_of_ble_eq_true rfl) (Nat.zero_le _) (Nat.zero_le _) rfl ?_
  refine q_Row_length ho hy ?_
  show gX l E _ 4 [some (ga r), some (gi p), some (ga o), none, none, none] [gi ys.length] (K, R, V) _ _
  refine gX_istoren dX6_insert_4 (show (3 : Nat) < 6 from by decide) (ls2 := [some (ga r), some (gi p), some (ga o), some (gi ys.length), none, none]) rfl ?_
  refine gX_aloadn dX6_insert_5 rfl ?_
  refine gX_gI 1 dX6_insert_6 fdX6_9 rfl (Or.inl rfl) hr.1 ?_
  rw [hz]
  refine gX_istore dX6_insert_9 (show (4 : Nat) < 6 from by decide) (ls2 := [some (ga r), some (gi p), some (ga o), some (gi ys.length), some (gi xs.length), none]) rfl ?_
  refine gX_iloadn dX6_insert_11 rfl ?_
  refine gX_iflt (tgt := 33) dX6_insert_12 (by decide) (fun h1 => ?_) (fun h1 => ?_)
  · exfalso; omega
  · refine gX_iloadn dX6_insert_15 rfl ?_
    refine gX_iload dX6_insert_16 rfl ?_
    refine gX_icmpgt (tgt := 33) dX6_insert_18 (by decide) (fun h2 => ?_) (fun h2 => ?_)
    · exfalso; omega
    · refine gX_iload dX6_insert_21 rfl ?_
      refine gX_iloadn dX6_insert_23 rfl ?_
      refine gX_iadd dX6_insert_24 ⟨by omega, by omega⟩ ?_
      refine gX_aloadn dX6_insert_25 rfl ?_
      refine gX_gR 0 dX6_insert_26 fdX6_15 rfl rfl hr.1 hr.2.2.1 ?_
      refine gX_alen dX6_insert_29 hr.2.1 (by decide) (by omega) ?_
      refine gX_icmple (tgt := 34) dX6_insert_30 (by decide) (fun h3 => ?_) (fun h3 => ?_)
      · refine gX_aloadn dX6_insert_34 rfl ?_
        refine gX_iload dX6_insert_35 rfl ?_
        refine gX_iloadn dX6_insert_37 rfl ?_
        refine gX_iadd dX6_insert_38 ⟨by omega, by omega⟩ ?_
        refine gX_pI 1 dX6_insert_39 fdX6_9 fpX6_9 rfl (Or.inl rfl) hr.1 ?_
        obtain ⟨zs, hzl, hgw, hgf⟩ := hx.grow ys.length (by omega)
        rw [show (xs.length : Int) + (ys.length : Int) = ((xs.length + ys.length : Nat) : Int) by omega]
        refine gX_iload dX6_insert_42 rfl ?_
        refine gX_iconst dX6_insert_44 ⟨by decide, by decide⟩ ?_
        refine gX_isub dX6_insert_45 ⟨by omega, by omega⟩ ?_
        refine gX_istore dX6_insert_46 (show (5 : Nat) < 6 from by decide) (ls2 := [some (ga r), some (gi p), some (ga o), some (gi ys.length), some (gi xs.length), some (gi (xs.length - 1))]) rfl ?_
        refine lp1 (xs.length + 1) (xs.length - 1) _ (xs ++ zs) _ _ (by omega) (by omega) (by omega) hgw hgf (by rw [List.length_append, hzl]) (fun j hj => ?_) (fun j hj1 hj2 => by omega)
        rw [List.getElem?_append_left (by omega)]
      · exfalso; omega
end ROW2
