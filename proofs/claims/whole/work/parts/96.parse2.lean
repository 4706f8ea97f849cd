/-! The reference's memory while a book is read (by hand). -/
def BI (V : Int → Int → Int) (tx : List Int) (gs : List gG) (st op lf : Int) : Prop :=
  rbIs V 10 tx gs ∧ (V 775 23 = dpt gs 21 op + lmN st ∧ V 775 24 = op ∧ V 775 26 = lmN st) ∧ ((V 775 27 = 0 ∨ V 775 27 = 1) ∧ (st = 3 → V 775 27 = 1) ∧ (st = 2 → V 775 27 = 0) ∧ (st = 1 → V 775 27 = 0) ∧ (st = 0 → 0 ≤ op → V 775 27 = 1)) ∧ 0 ≤ V 775 28 ∧ (∀ g : Int, 0 ≤ g → g < gs.length → 0 ≤ V 782 (200 + g) ∧ V 782 (200 + g) < V 775 28)
  ∧ (∀ h i : Int, -1 ≤ h → h < gs.length → 0 ≤ i → i < (rwL tx gs h).length → (∀ g : Int, 0 ≤ g → g < gs.length → (spA V 10 h i = V 782 (200 + g) ↔ cvQ (gq gs g) h i)) ∧ ((∀ g : Int, 0 ≤ g → g < gs.length → ¬ cvQ (gq gs g) h i) → (if isLm st = true ∧ h = op ∧ lf ≤ i then spA V 10 h i = V 775 25 else spA V 10 h i < 0)))
  ∧ (isLm st = true → 0 ≤ V 775 25 ∧ V 775 25 < V 775 28 ∧ (∀ g : Int, 0 ≤ g → g < gs.length → V 782 (200 + g) ≠ V 775 25) ∧ V 791 (dpt gs 21 op) = op ∧ V 792 (dpt gs 21 op) = V 775 25)
  ∧ ∀ n : Nat, 0 ≤ upG gs n op → V 791 (dpt gs 21 (upG gs n op) - 1) = (gq gs (upG gs n op)).2.1 ∧ V 792 (dpt gs 21 (upG gs n op) - 1) = V 782 (200 + upG gs n op)
theorem BI.word {V V' : Int → Int → Int} {tx : List Int} {gs : List gG} {st op lf w : Int} (h : BI V tx gs st op lf) (hp : PI tx gs st op lf) (hb : rbIs V' 10 (addW tx gs op w).1 (addW tx gs op w).2) (hk : ∀ k, k = 23 ∨ k = 24 ∨ k = 25 ∨ k = 26 ∨ k = 28 → V' 775 k = V 775 k) (h27 : V' 775 27 = 1) (h1 : V' 791 = V 791) (h2 : V' 792 = V 792) (h3 : V' 782 = V 782) (hs : ∀ x i : Int, -1 ≤ x → x < gs.length → 0 ≤ i → i < (rwL (addW tx gs op w).1 (addW tx gs op w).2 x).length → spA V' 10 x i = if x = op ∧ i = (rwL tx gs op).length then (if isLm st = true then V 775 25 else -1) else spA V 10 x i) : BI V' (addW tx gs op w).1 (addW tx gs op w).2 (if st = 2 ∨ st = 3 then 3 else 0) op lf := by
  obtain ⟨b1, ⟨b2, b3, b4⟩, b5, b6, b7, b8, b9, b10⟩ := h
  obtain ⟨⟨⟨a1, a2⟩, a3, a4⟩, b, c, d, e, f, g, p, u, v⟩ := hp
  have hl := addW_len tx gs op w
  have hh : ∀ k : Int, 0 ≤ k → k < gs.length → (gq (addW tx gs op w).2 k).2.1 = (gq gs k).2.1 := fun k k0 _ => (addW_f k0).2.1
  have il : isLm (if st = 2 ∨ st = 3 then 3 else 0) = isLm st := by
    unfold isLm
    by_cases z : st = 2 ∨ st = 3
    · rw [if_pos z, decide_eq_true z]; rfl
    · rw [if_neg z, decide_eq_false z]; rfl
  have iln : lmN (if st = 2 ∨ st = 3 then 3 else 0) = lmN st := by unfold lmN; rw [il]
  have ed : ∀ x, dpt (addW tx gs op w).2 21 x = dpt gs 21 x := fun x => dpt_sq hl hh 21 x
  have ecv : ∀ k x i : Int, 0 ≤ k → (cvQ (gq (addW tx gs op w).2 k) x i ↔ cvQ (gq gs k) x i) := fun k x i k0 => by
    unfold cvQ
    rw [(addW_f k0).2.1, (addW_f k0).2.2.1, (addW_f k0).2.2.2.1]
  refine ⟨hb, ⟨by rw [hk 23 (by omega), ed, iln]; exact b2, by rw [hk 24 (by omega)]; exact b3, by rw [hk 26 (by omega), iln]; exact b4⟩, ⟨Or.inr h27, fun _ => h27, fun z => by split at z <;> omega, fun z => by split at z <;> omega, fun _ _ => h27⟩, by rw [hk 28 (by omega)]; exact b6, fun k k0 k1 => ?_, fun x i x0 x1 i0 i1 => ?_, fun z => ?_, fun n z => ?_⟩
  · rw [h3, hk 28 (by omega)]; exact b7 k k0 (by omega)
  · rw [hl] at x1
    rw [hs x i x0 x1 i0 i1, h3, il, hk 25 (by omega)]
    by_cases cx : x = op ∧ i = (rwL tx gs op).length
    · rw [if_pos cx]
      have nc : ∀ k : Int, 0 ≤ k → k < gs.length → ¬ cvQ (gq gs k) x i := fun k k0 k1 z => by
        have := c.at k0 k1
        rw [← z.1, cx.1] at this
        have := z.2
        omega
      refine ⟨fun k k0 k1 => ?_, fun _ => ?_⟩
      · rw [hl] at k1
        rw [ecv k x i k0]
        refine ⟨fun z => ?_, fun z => absurd z (nc k k0 k1)⟩
        have k7 := b7 k k0 k1
        by_cases cl : isLm st = true
        · rw [if_pos cl] at z
          exact absurd z.symm ((b9 cl).2.2.1 k k0 k1)
        · rw [if_neg cl] at z; omega
      · by_cases cl : isLm st = true
        · have := (v cl).2.1
          rw [if_pos ⟨cl, cx.1, by omega⟩, if_pos cl]
        · rw [if_neg (fun z => cl z.1), if_neg cl]; omega
    · rw [if_neg cx]
      have i2 : i < (rwL tx gs x).length := by
        rw [addW_r x0 x1 a1 a2] at i1
        by_cases ex : x = op
        · rw [if_pos ex, List.length_append] at i1
          have i1 : i < ((rwL tx gs op).length + 1 : Nat) := i1
          rw [ex]
          have : i ≠ (rwL tx gs op).length := fun z => cx ⟨ex, z⟩
          omega
        · rw [if_neg ex] at i1; exact i1
      have b8' := b8 x i x0 x1 i0 i2
      refine ⟨fun k k0 k1 => ?_, fun hno => ?_⟩
      · rw [hl] at k1
        rw [ecv k x i k0]; exact b8'.1 k k0 k1
      · exact b8'.2 (fun k k0 k1 z => hno k k0 (by rw [hl]; exact k1) ((ecv k x i k0).mpr z))
  · rw [il] at z
    obtain ⟨z1, z2, z3, z4, z5⟩ := b9 z
    rw [hk 25 (by omega), hk 28 (by omega), h3, ed, h1, h2]
    exact ⟨z1, z2, fun k k0 k1 => z3 k k0 (by omega), z4, z5⟩
  · rw [upG_cg d hh n op a2] at z ⊢
    rw [h1, h2, h3, ed, (addW_f z).2.1]
    exact b10 n z
theorem BI.brk {V V' : Int → Int → Int} {tx : List Int} {gs : List gG} {st op lf : Int} (h : BI V tx gs st op lf) (hp : PI tx gs st op lf) (h20 : gs.length ≤ 20) (hst : isLm st = false) (hb : rbIs V' 10 tx gs) (h23 : V' 775 23 = dpt gs 21 op + 1) (h24 : V' 775 24 = op) (h25 : V' 775 25 = V 775 28) (h26 : V' 775 26 = 1) (h27 : V' 775 27 = 0) (h28 : V' 775 28 = V 775 28 + 1) (h1 : ∀ k, V' 791 k = if k = dpt gs 21 op then op else V 791 k) (h2 : ∀ k, V' 792 k = if k = dpt gs 21 op then V 775 28 else V 792 k) (h3 : V' 782 = V 782) (hs : ∀ x i, spA V' 10 x i = spA V 10 x i) : BI V' tx gs 2 op (rwL tx gs op).length := by
  obtain ⟨b1, ⟨b2, b3, b4⟩, b5, b6, b7, b8, b9, b10⟩ := h
  obtain ⟨⟨⟨a1, a2⟩, a3, a4⟩, b, c, d, e, f, g, p, u, v⟩ := hp
  refine ⟨hb, ⟨h23, h24, h26⟩, ⟨Or.inl h27, fun z => absurd z (by decide), fun _ => h27, fun z => absurd z (by decide), fun z => absurd z (by decide)⟩, by omega, fun k k0 k1 => ?_, fun x i x0 x1 i0 i1 => ?_, fun _ => ⟨by omega, by omega, fun k k0 k1 => ?_, by rw [h1, if_pos rfl], by rw [h2, if_pos rfl, h25]⟩, fun n z => ?_⟩
  · have := b7 k k0 k1
    rw [h3]; omega
  · rw [hs, h3]
    have z := b8 x i x0 x1 i0 i1
    refine ⟨z.1, fun hno => ?_⟩
    have y := z.2 hno
    rw [if_neg (fun q => by rw [hst] at q; exact absurd q.1 (by decide))] at y
    rw [if_neg (fun q => by have := q.2.2; rw [q.2.1] at i1; omega)]
    exact y
  · have := b7 k k0 k1
    rw [h3]; omega
  · have bd := upG_bd d n op a1 a2
    have dd := upG_dpt d h20 n op a1 a2
    have dp : 1 ≤ dpt gs 21 (upG gs n op) := by
      have := dpt_h d h20 z (show upG gs n op < gs.length by omega)
      have := (dpt_nn (gs := gs) 21 (gq gs (upG gs n op)).2.1).1
      omega
    rw [h1, h2, h3, if_neg (by omega), if_neg (by omega)]
    exact b10 n z
theorem BI.bar {V V' : Int → Int → Int} {tx : List Int} {gs : List gG} {st op lf kd H A Z : Int} (h : BI V tx gs st op lf) (hp : PI tx gs st op lf) (h20 : gs.length < 20) (hc : (st = 3 ∧ H = op ∧ A = lf ∧ Z = (rwL tx gs op).length - 1) ∨ (st = 0 ∧ 0 ≤ op ∧ H = (gq gs op).2.1 ∧ A = (gq gs op).2.2.1 ∧ Z = (gq gs op).2.2.2.1)) (hb : rbIs V' 10 tx (gs ++ [(kd, H, A, Z, 0, [])])) (h23 : V' 775 23 = V 775 23) (h24 : V' 775 24 = gs.length) (h26 : V' 775 26 = 0) (h27 : V' 775 27 = 0) (h28 : V' 775 28 = V 775 28) (h1 : V' 791 = V 791) (h2 : V' 792 = V 792) (h3 : ∀ k, V' 782 k = if k = 200 + gs.length then V 792 (V 775 23 - 1) else V 782 k) (hs : ∀ x i, spA V' 10 x i = spA V 10 x i) : BI V' tx (gs ++ [(kd, H, A, Z, 0, [])]) 1 gs.length lf ∧ V 791 (V 775 23 - 1) = H := by
  obtain ⟨b1, ⟨b2, b3, b4⟩, b5, b6, b7, b8, b9, b10⟩ := h
  obtain ⟨⟨⟨a1, a2⟩, a3, a4⟩, b, c, d, e, f, g, p, u, v⟩ := hp
  have hl : ((gs ++ [(kd, H, A, Z, 0, [])]).length : Int) = gs.length + 1 := by rw [List.length_append]; rfl
  have hq : ∀ k : Int, 0 ≤ k → k < gs.length → gq (gs ++ [(kd, H, A, Z, 0, [])]) k = gq gs k := fun k k0 k1 => by rw [gq_ap k0 (by omega), if_neg (by omega)]
  have hn : gq (gs ++ [(kd, H, A, Z, 0, [])]) gs.length = (kd, H, A, Z, 0, []) := by rw [gq_ap (by omega) (by omega), if_pos rfl]
  have hH : -1 ≤ H ∧ H < gs.length := by
    rcases hc with z | z
    · omega
    · have := d.at z.2.1 a2; omega
  -- the frame that is uppermost
  have top : V 791 (V 775 23 - 1) = H ∧ V 775 23 = 1 + dpt gs 21 H ∧ (0 ≤ V 792 (V 775 23 - 1) ∧ V 792 (V 775 23 - 1) < V 775 28) ∧ ∀ x i : Int, -1 ≤ x → x < gs.length → 0 ≤ i → i < (rwL tx gs x).length → (spA V 10 x i = V 792 (V 775 23 - 1) ↔ (x = H ∧ A ≤ i ∧ i ≤ Z)) := by
    rcases hc with ⟨z1, z2, z3, z4⟩ | ⟨z1, z2, z3, z4, z5⟩
    · have l1 : isLm st = true := isLm_t.mpr (Or.inr z1)
      obtain ⟨y1, y2, y3, y4, y5⟩ := b9 l1
      obtain ⟨v1, v2, v3, v4⟩ := v l1
      have e23 : V 775 23 = dpt gs 21 op + 1 := by rw [b2]; unfold lmN; rw [if_pos l1]
      have e1 : V 775 23 - 1 = dpt gs 21 op := by omega
      rw [e1, y4, y5, z2]
      refine ⟨rfl, by omega, ⟨y1, y2⟩, fun x i x0 x1 i0 i1 => ?_⟩
      have b8' := b8 x i x0 x1 i0 i1
      constructor
      · intro q
        have no : ∀ k : Int, 0 ≤ k → k < gs.length → ¬ cvQ (gq gs k) x i := fun k k0 k1 r => y3 k k0 k1 (((b8'.1 k k0 k1).mpr r).symm.trans q)
        have r := b8'.2 no
        by_cases cc : isLm st = true ∧ x = op ∧ lf ≤ i
        · refine ⟨cc.2.1, by omega, ?_⟩
          rw [cc.2.1] at i1
          omega
        · rw [if_neg cc] at r; omega
      · intro q
        have no : ∀ k : Int, 0 ≤ k → k < gs.length → ¬ cvQ (gq gs k) x i := fun k k0 k1 r => by
          have := v4 k k0 k1 (by rw [← r.1, q.1])
          have := r.2
          omega
        have r := b8'.2 no
        rw [if_pos ⟨l1, q.1, by omega⟩] at r
        exact r
    · have l0 : lmN st = 0 := by unfold lmN isLm; rw [z1]; rfl
      have e23 : V 775 23 = dpt gs 21 op := by omega
      have t := b10 0 z2
      have t1 : V 791 (dpt gs 21 op - 1) = (gq gs op).2.1 := t.1
      have t2 : V 792 (dpt gs 21 op - 1) = V 782 (200 + op) := t.2
      have dh := dpt_h d (by omega) z2 a2
      rw [e23, t1, t2]
      refine ⟨z3.symm, by rw [z3]; exact dh, b7 op z2 a2, fun x i x0 x1 i0 i1 => ?_⟩
      rw [(b8 x i x0 x1 i0 i1).1 op z2 a2, z3, z4, z5]
      exact Iff.rfl
  obtain ⟨t1, t2, t3, t4⟩ := top
  refine ⟨⟨hb, ⟨?_, h24, h26⟩, ⟨Or.inl h27, fun z => absurd z (by decide), fun z => absurd z (by decide), fun _ => h27, fun z => absurd z (by decide)⟩, by omega, fun k k0 k1 => ?_, fun x i x0 x1 i0 i1 => ?_, fun z => absurd z (by decide), fun m z => ?_⟩, t1⟩
  · rw [h23, t2]
    have hoN : dpt (gs ++ [(kd, H, A, Z, 0, [])]) 21 gs.length = 1 + dpt (gs ++ [(kd, H, A, Z, 0, [])]) 20 (gq (gs ++ [(kd, H, A, Z, 0, [])]) gs.length).2.1 := if_pos ⟨by omega, by omega⟩
    rw [hoN, hn]
    show _ = 1 + dpt (gs ++ [(kd, H, A, Z, 0, [])]) 20 H + 0
    rw [dpt_ap d 20 H hH.2, dpt_st d gs.length 21 H hH.2 (by omega), dpt_st d gs.length 20 H hH.2 (by omega)]
    omega
  · rw [h3, h28]
    by_cases ck : k = gs.length
    · rw [if_pos (by omega)]; exact t3
    · rw [if_neg (by omega)]; exact b7 k k0 (by omega)
  · by_cases cx : x = gs.length
    · exfalso
      rw [cx] at i1
      have er : rwL tx (gs ++ [(kd, H, A, Z, 0, [])]) gs.length = (gq (gs ++ [(kd, H, A, Z, 0, [])]) gs.length).2.2.2.2.2 := if_pos ⟨by omega, by omega⟩
      rw [er, hn] at i1
      have i1 : i < (0 : Int) := i1
      omega
    · have x2 : x < gs.length := by omega
      rw [rwL_ap x2] at i1
      rw [hs]
      have b8' := b8 x i x0 x2 i0 i1
      have key : ∀ k : Int, 0 ≤ k → k < gs.length + 1 → (spA V 10 x i = V' 782 (200 + k) ↔ cvQ (gq (gs ++ [(kd, H, A, Z, 0, [])]) k) x i) := fun k k0 k1 => by
        rw [h3]
        by_cases ck : k = gs.length
        · rw [if_pos (by omega), ck, hn]; exact t4 x i x0 x2 i0 i1
        · rw [if_neg (by omega), hq k k0 (by omega)]; exact b8'.1 k k0 (by omega)
      refine ⟨fun k k0 k1 => key k k0 (by omega), fun hno => ?_⟩
      rw [if_neg (fun z => absurd z.1 (by decide))]
      have no : ∀ k : Int, 0 ≤ k → k < gs.length → ¬ cvQ (gq gs k) x i := fun k k0 k1 r => hno k k0 (by omega) (by rw [hq k k0 k1]; exact r)
      have r := b8'.2 no
      by_cases cc : isLm st = true ∧ x = op ∧ lf ≤ i
      · exfalso
        have s3 : st = 3 := by
          have := isLm_t.mp cc.1
          rcases hc with y | y <;> omega
        rcases hc with y | y
        · refine hno gs.length (by omega) (by omega) ?_
          rw [hn]
          rw [cc.2.1] at i1
          show x = H ∧ A ≤ i ∧ i ≤ Z
          refine ⟨by omega, by omega, by omega⟩
        · omega
      · rw [if_neg cc] at r; exact r
  · cases m with
    | zero =>
      have e1 : upG (gs ++ [(kd, H, A, Z, 0, [])]) 0 gs.length = gs.length := rfl
      rw [e1, hn, h1, h2, h3, if_pos rfl]
      have hoN : dpt (gs ++ [(kd, H, A, Z, 0, [])]) 21 gs.length = 1 + dpt (gs ++ [(kd, H, A, Z, 0, [])]) 20 (gq (gs ++ [(kd, H, A, Z, 0, [])]) gs.length).2.1 := if_pos ⟨by omega, by omega⟩
      have e2 : dpt (gs ++ [(kd, H, A, Z, 0, [])]) 21 gs.length = V 775 23 := by
        rw [hoN, hn, t2]
        show 1 + dpt (gs ++ [(kd, H, A, Z, 0, [])]) 20 H = _
        rw [dpt_ap d 20 H hH.2, dpt_st d gs.length 21 H hH.2 (by omega), dpt_st d gs.length 20 H hH.2 (by omega)]
      rw [e2]
      exact ⟨t1, rfl⟩
    | succ m =>
      have e1 : upG (gs ++ [(kd, H, A, Z, 0, [])]) (m + 1) gs.length = upG gs m H := by
        show upG (gs ++ [(kd, H, A, Z, 0, [])]) m (if 0 ≤ (gs.length : Int) then (gq (gs ++ [(kd, H, A, Z, 0, [])]) gs.length).2.1 else -1) = _
        rw [if_pos (by omega), hn]
        exact upG_cg d (fun k k0 k1 => by rw [hq k k0 k1]) m H hH.2
      rw [e1] at z ⊢
      have bd := upG_bd d m H hH.1 hH.2
      rw [h1, h2, h3, if_neg (by omega), hq _ z (by omega), dpt_ap d 21 _ (by omega)]
      rcases hc with y | y
      · rw [y.2.1] at z ⊢; exact b10 m z
      · have e2 : upG gs m H = upG gs (m + 1) op := by
          show _ = upG gs m (if 0 ≤ op then (gq gs op).2.1 else -1)
          rw [if_pos y.2.1, y.2.2.1]
        rw [e2] at z ⊢; exact b10 (m + 1) z
theorem BI.fin {V V' : Int → Int → Int} {tx : List Int} {gs : List gG} {op lf : Int} (h : BI V tx gs 0 op lf) (hp : PI tx gs 0 op lf) (h20 : gs.length ≤ 20) (h0 : 0 ≤ op) (hb : rbIs V' 10 tx gs) (h23 : V' 775 23 = V 775 23 - 1) (h24 : V' 775 24 = (gq gs op).2.1) (h26 : V' 775 26 = 0) (h27 : V' 775 27 = 1) (h28 : V' 775 28 = V 775 28) (h1 : V' 791 = V 791) (h2 : V' 792 = V 792) (h3 : V' 782 = V 782) (hs : ∀ x i, spA V' 10 x i = spA V 10 x i) : BI V' tx gs 0 (gq gs op).2.1 lf := by
  obtain ⟨b1, ⟨b2, b3, b4⟩, b5, b6, b7, b8, b9, b10⟩ := h
  obtain ⟨⟨⟨a1, a2⟩, a3, a4⟩, b, c, d, e, f, g, p, u, v⟩ := hp
  have dh := dpt_h d h20 h0 a2
  refine ⟨hb, ⟨?_, h24, h26⟩, ⟨Or.inr h27, fun _ => h27, fun z => absurd z (by decide), fun z => absurd z (by decide), fun _ _ => h27⟩, by omega, fun k k0 k1 => by rw [h3, h28]; exact b7 k k0 k1, fun x i x0 x1 i0 i1 => ?_, fun z => absurd z (by decide), fun n z => ?_⟩
  · rw [h23, b2]; omega
  · rw [hs, h3]
    have z := b8 x i x0 x1 i0 i1
    refine ⟨z.1, fun hno => ?_⟩
    have y := z.2 hno
    rw [if_neg (fun q => absurd q.1 (by decide))] at y ⊢
    exact y
  · have e1 : upG gs n (gq gs op).2.1 = upG gs (n + 1) op := by
      show _ = upG gs n (if 0 ≤ op then (gq gs op).2.1 else -1)
      rw [if_pos h0]
    rw [e1] at z ⊢
    rw [h1, h2, h3]
    exact b10 (n + 1) z
theorem BI.rs {V : Int → Int → Int} {tx : List Int} {gs : List gG} {lf : Int} (h : BI V tx gs 0 (-1) lf) (hl : ∀ q ∈ gs, lvQ q) : rsIs V 10 tx gs := by
  obtain ⟨b1, b2, b5, b6, b7, b8, b9, b10⟩ := h
  refine ⟨fun g g0 g1 _ => ⟨(b7 g g0 g1).1, fun x i hx i0 i1 => (b8 x i hx.rg.1 hx.rg.2 i0 i1).1 g g0 g1⟩, fun x i hx i0 i1 hno => ?_⟩
  have y := (b8 x i hx.rg.1 hx.rg.2 i0 i1).2 (fun g g0 g1 z => ?_)
  · rw [if_neg (fun q => absurd q.1 (by decide))] at y; exact y
  · exact hno g g0 g1 (hl _ (gqM g0 g1)) z
