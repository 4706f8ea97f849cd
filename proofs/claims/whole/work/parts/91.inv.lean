/-! What stands of a book between calls and while it is at work (by hand). -/
/-- what no habit changes -/
def stG (gs : List gG) : Prop := (∀ k : Int, 0 ≤ k → k < gs.length → (0 ≤ (gq gs k).2.1 → 0 ≤ (gq gs k).2.2.1 ∧ (gq gs k).2.2.1 ≤ (gq gs k).2.2.2.1 ∧ (gq gs k).2.2.2.1 < (gq gs (gq gs k).2.1).2.2.2.2.2.length) ∧ dpt gs 5 k ≤ 4) ∧ ∀ j k : Int, 0 ≤ j → j < k → k < gs.length → (j ≤ (gq gs k).2.1 ∨ (gq gs k).2.1 ≤ (gq gs j).2.1) ∧ ((gq gs j).2.1 = (gq gs k).2.1 → 0 ≤ (gq gs k).2.1 → ((gq gs j).2.2.1 = (gq gs k).2.2.1 ∧ (gq gs j).2.2.2.1 = (gq gs k).2.2.2.1) ∨ (gq gs j).2.2.2.1 < (gq gs k).2.2.1)
/-- those on the text in the order of the text -/
def tmG (gs : List gG) : Prop := ∀ j k : Int, 0 ≤ j → j < k → k < gs.length → onT (gq gs j) = 1 → onT (gq gs k) = 1 → (gq gs j).2.2.1 ≤ (gq gs k).2.2.1
def wdB (xs : List Int) : Prop := ∀ x ∈ xs, 0 ≤ x ∧ x ≤ 63
def wdM (tx : List Int) (gs : List gG) : Prop := wdB tx ∧ ∀ k : Int, 0 ≤ k → k < gs.length → wdB (gq gs k).2.2.2.2.2
/-- a book between the calls -/
def bkP (tx : List Int) (gs : List gG) : Prop := bkOk tx gs ∧ PO gs
/-- beside what wkI says -/
def wkX (s : cS) : Prop := stG s.2.1 ∧ tmG s.2.1 ∧ wdM s.1 s.2.1
theorem wdB.at {xs : List Int} (h : wdB xs) {i : Int} (i0 : 0 ≤ i) (i1 : i < xs.length) : 0 ≤ lat xs i ∧ lat xs i ≤ 63 := by
  rw [lat_in i0 (by omega)]
  exact h _ (List.getElem_mem ..)
theorem wdB.of {xs : List Int} (h : ∀ i : Int, 0 ≤ i → i < xs.length → 0 ≤ lat xs i ∧ lat xs i ≤ 63) : wdB xs := fun x hx => by
  obtain ⟨i, i1, e⟩ := List.mem_iff_getElem.mp hx
  have := h i (by omega) (by omega)
  rw [lat_nat i1, e] at this
  exact this
theorem wdM.w {tx : List Int} {gs : List gG} (h : wdM tx gs) : wdW tx gs := fun x i i0 i1 => by
  unfold rwL at i1 ⊢
  split at i1
  · rename_i c
    rw [if_pos c]
    exact (h.2 x c.1 c.2).at i0 i1
  · rename_i c
    rw [if_neg c]
    exact h.1.at i0 i1
theorem wdW.m {tx : List Int} {gs : List gG} (h : wdW tx gs) : wdM tx gs := ⟨wdB.of fun i i0 i1 => by
    have := h (-1) i i0 (by rw [rwL_n]; exact i1)
    rw [rwL_n] at this
    exact this, fun k k0 k1 => wdB.of fun i i0 i1 => by
    have e : rwL tx gs k = (gq gs k).2.2.2.2.2 := if_pos ⟨k0, k1⟩
    have := h k i i0 (by rw [e]; exact i1)
    rw [e] at this
    exact this⟩
theorem gqI {gs : List gG} {q : gG} (h : q ∈ gs) : ∃ k : Int, 0 ≤ k ∧ k < gs.length ∧ gq gs k = q := by
  obtain ⟨i, i1, e⟩ := List.mem_iff_getElem.mp h
  refine ⟨i, by omega, by omega, ?_⟩
  unfold gq
  rw [List.getD_eq_getElem?_getD, show ((i : Nat) : Int).toNat = i from rfl, List.getElem?_eq_getElem i1, ← e]; rfl
theorem dpt_rk {gs : List gG} (hw : hoW gs) (hl : hlW gs) : ∀ (f : Nat) (k : Int), -1 ≤ k → k < (reN gs).length → dpt (reN gs) f k = dpt gs f (rkE (lvN gs gs.length) k)
  | 0, k, k0, k1 => rfl
  | f + 1, k, k0, k1 => by
    show (if 0 ≤ k ∧ k < (reN gs).length then 1 + dpt (reN gs) f (gq (reN gs) k).2.1 else 0) = (if 0 ≤ rkE (lvN gs gs.length) k ∧ rkE (lvN gs gs.length) k < gs.length then 1 + dpt gs f (gq gs (rkE (lvN gs gs.length) k)).2.1 else 0)
    by_cases c : k < 0
    · have e : rkE (lvN gs gs.length) k = -1 := if_pos c
      rw [if_neg (by omega), e, if_neg (by omega)]
    · have ho := rank_ho hw hl (show 0 ≤ k by omega) k1
      have hk := rank_hk (gs := gs) k0 k1
      have e : rkE (lvN gs gs.length) k = lvN gs gs.length k := if_neg c
      obtain ⟨i, i1, i2, i3, i4, i5⟩ := rank (gs := gs) (k := k) (by omega) k1
      rw [if_pos ⟨by omega, k1⟩, if_pos ⟨by omega, hk.2.2⟩, dpt_rk hw hl f _ ho.1 (by omega), ho.2.2, e]
theorem rank_lt {gs : List gG} {x y : Int} (x0 : -1 ≤ x) (xy : x < y) (y1 : y < (reN gs).length) : rkE (lvN gs gs.length) x < rkE (lvN gs gs.length) y := by
  obtain ⟨i, i1, i2, i3, i4, i5⟩ := rank (gs := gs) (k := y) (by omega) y1
  unfold rkE
  rw [if_neg (show ¬ y < 0 by omega)]
  by_cases c : x < 0
  · rw [if_pos c]; omega
  · rw [if_neg c]; exact rank_mo (by omega) xy y1
/-- the copy is a book -/
theorem wkX.bk {s : cS} (hf : wfS s) (hl : hlW s.2.1) (h : wkX s) : bkP s.1 (reN s.2.1) := by
  obtain ⟨tx, gs, c1, c2⟩ := s
  obtain ⟨w1, w2, w3, w4, w5, w6⟩ := hf
  obtain ⟨x1, x2, x3⟩ := h
  have w1 : spW tx gs := w1
  have w2 : rwW gs := w2
  have w3 : hoW gs := w3
  have hl : hlW gs := hl
  have x1 : stG gs := x1
  have x2 : tmG gs := x2
  have x3 : wdM tx gs := x3
  show bkP tx (reN gs)
  have sp : ∀ i : Nat, i < gs.length → lvQ (gq gs i) → 0 ≤ (gq gs i).2.2.1 ∧ (gq gs i).2.2.1 ≤ (gq gs i).2.2.2.1 ∧ (gq gs i).2.2.2.1 < (rwL tx gs (gq gs i).2.1).length := fun i i1 il => by
    have hi := w3.at (g := (i : Int)) (by omega) (by omega)
    by_cases c : (gq gs i).2.1 = -1
    · have := w1.1 _ (gqM (g := (i : Int)) (by omega) (by omega)) (onT_1.mpr ⟨il, c⟩)
      rw [c, rwL_n]
      exact this
    · have := (x1.1 i (by omega) (by omega)).1 (by omega)
      have e : rwL tx gs (gq gs i).2.1 = (gq gs (gq gs i).2.1).2.2.2.2.2 := if_pos ⟨by omega, by omega⟩
      rw [e]
      exact this
  refine ⟨⟨fun q hq => ?_, fun q hq => ?_, fun k q hq => ?_, ?_, fun k k0 k1 => ?_, fun q hq => ?_⟩, fun j k j0 jk k1 => ?_⟩
  · obtain ⟨k, k0, k1, e⟩ := gqI hq
    obtain ⟨i, i1, i2, i3, i4, i5⟩ := rank k0 k1
    rw [← e, i5]
    exact i2
  · obtain ⟨k, k0, k1, e⟩ := gqI hq
    have ho := rank_ho w3 hl k0 k1
    obtain ⟨i, i1, i2, i3, i4, i5⟩ := rank k0 k1
    rw [i4] at ho
    rw [← e, rank_rw ho.1 (by omega), ho.2.2, i5]
    exact sp i i1 i2
  · have k1 : k < (reN gs).length := by
      rcases Nat.lt_or_ge k (reN gs).length with z | z
      · exact z
      · rw [List.getElem?_eq_none z] at hq; cases hq
    have ho := rank_ho w3 hl (k := (k : Int)) (by omega) (by omega)
    have e1 : gq (reN gs) k = q := by unfold gq; rw [List.getD_eq_getElem?_getD, show ((k : Nat) : Int).toNat = k from rfl, hq]; rfl
    rw [e1] at ho
    exact ⟨ho.1, ho.2.1⟩
  · refine wdM.w ⟨x3.1, fun k k0 k1 => ?_⟩
    obtain ⟨i, i1, i2, i3, i4, i5⟩ := rank k0 k1
    rw [i5]
    exact x3.2 i (by omega) (by omega)
  · rw [dpt_rk w3 hl 5 k (by omega) k1]
    have hk := rank_hk (gs := gs) (h := k) (by omega) k1
    obtain ⟨i, i1, i2, i3, i4, i5⟩ := rank k0 k1
    have e : rkE (lvN gs gs.length) k = i := (if_neg (by omega)).trans i4
    rw [e]
    exact (x1.1 i (by omega) (by omega)).2
  · obtain ⟨k, k0, k1, e⟩ := gqI hq
    obtain ⟨i, i1, i2, i3, i4, i5⟩ := rank k0 k1
    rw [← e, i5]
    exact w2 (gq gs i) (gqM (gs := gs) (g := (i : Int)) (by omega) (by omega))
  · obtain ⟨a, a1, a2, a3, a4, a5⟩ := rank (gs := gs) (k := j) j0 (by omega)
    obtain ⟨i, i1, i2, i3, i4, i5⟩ := rank (gs := gs) (k := k) (by omega) k1
    have hj := rank_ho w3 hl (k := j) j0 (by omega)
    have hk := rank_ho w3 hl (k := k) (by omega) k1
    rw [a4] at hj
    rw [i4] at hk
    have mo := rank_mo j0 jk k1
    rw [a4, i4] at mo
    have st := x1.2 a i (by omega) mo (by omega)
    have ej : rkE (lvN gs gs.length) j = a := (if_neg (by omega)).trans a4
    have f1 : (gq (reN gs) j).2.2.1 = (gq gs a).2.2.1 := by rw [a5]; rfl
    have f2 : (gq (reN gs) j).2.2.2.1 = (gq gs a).2.2.2.1 := by rw [a5]; rfl
    have f3 : (gq (reN gs) k).2.2.1 = (gq gs i).2.2.1 := by rw [i5]; rfl
    have f4 : (gq (reN gs) k).2.2.2.1 = (gq gs i).2.2.2.1 := by rw [i5]; rfl
    refine ⟨?_, fun e => ?_⟩
    · rcases st.1 with z | z
      · left
        refine Decidable.byContradiction fun y => ?_
        have := rank_lt (gs := gs) hk.1 (show (gq (reN gs) k).2.1 < j by omega) (by omega)
        omega
      · right
        refine Decidable.byContradiction fun y => ?_
        have := rank_lt (gs := gs) hj.1 (show (gq (reN gs) j).2.1 < (gq (reN gs) k).2.1 by omega) (by omega)
        omega
    · rw [f1, f2, f3, f4]
      have eh : (gq gs a).2.1 = (gq gs i).2.1 := by rw [← hj.2.2, ← hk.2.2, e]
      have hi := w3.at (g := (i : Int)) (by omega) (by omega)
      by_cases c : (gq gs i).2.1 = -1
      · have oa := onT_1.mpr ⟨a2, eh.trans c⟩
        have oi := onT_1.mpr ⟨i2, c⟩
        have t := x2 a i (by omega) mo (by omega) oa oi
        have s1 := w1.1 _ (gqM (g := (i : Int)) (by omega) (by omega)) oi
        have s2 := w1.2 _ (gqM (g := (a : Int)) (by omega) (by omega)) _ (gqM (g := (i : Int)) (by omega) (by omega)) oa oi
        omega
      · exact st.2 eh (by omega)
/-- the exemplar is a work -/
theorem bkP.wk {tx : List Int} {gs : List gG} {c : List Int × List Int} (h : bkP tx gs) (h40 : tx.length ≤ 40) (h20 : gs.length ≤ 20) (h8 : ∀ k : Int, 0 ≤ k → k < gs.length → (gq gs k).2.2.2.2.2.length ≤ 8) : wfS (tx, gs, c) ∧ hlW gs ∧ wkX (tx, gs, c) := by
  obtain ⟨⟨b1, b2, b3, b4, b5, b6⟩, po⟩ := h
  have rl : ∀ k : Int, 0 ≤ k → k < gs.length → (rwL tx gs (gq gs k).2.1).length ≤ 40 := fun k k0 k1 => by
    unfold rwL
    split
    · rename_i z
      have := h8 _ z.1 z.2; omega
    · exact h40
  refine ⟨⟨⟨fun q hq ho => ?_, fun p hp q hq op oq => ?_⟩, b6, b3, fun q hq => ?_, h40, h20⟩, fun k k0 k1 lk => ?_, ⟨fun k k0 k1 => ⟨fun h0 => ?_, b5 k k0 k1⟩, fun j k j0 jk k1 => ⟨(po j k j0 jk k1).1, fun e _ => (po j k j0 jk k1).2 e⟩⟩, fun j k j0 jk k1 oj ok => ?_, b4.m⟩
  · have := b2 q hq
    rw [(onT_1.mp ho).2, rwL_n] at this
    exact this
  · obtain ⟨j, j0, j1, ej⟩ := gqI hp
    obtain ⟨k, k0, k1, ek⟩ := gqI hq
    have hp2 := (onT_1.mp op).2
    have hq2 := (onT_1.mp oq).2
    by_cases c : j = k
    · left; rw [← ej, ← ek, c]; exact ⟨rfl, rfl⟩
    · by_cases c2 : j < k
      · have := (po j k j0 c2 k1).2 (by rw [ej, ek, hp2, hq2])
        rw [ej, ek] at this
        omega
      · have := (po k j k0 (by omega) j1).2 (by rw [ej, ek, hp2, hq2])
        rw [ej, ek] at this
        omega
  · obtain ⟨k, k0, k1, ek⟩ := gqI hq
    have := b2 q hq
    have := rl k k0 k1
    rw [ek] at this
    omega
  · have := b3.at k0 k1
    by_cases c : (gq gs k).2.1 = -1
    · exact Or.inl c
    · exact Or.inr ⟨by omega, by omega, b1 _ (gqM (by omega) (by omega))⟩
  · have k1 : k < (gs.length : Int) := k1
    have h0 : 0 ≤ (gq gs k).2.1 := h0
    have := b2.at k0 k1
    have := b3.at k0 k1
    show 0 ≤ (gq gs k).2.2.1 ∧ (gq gs k).2.2.1 ≤ (gq gs k).2.2.2.1 ∧ (gq gs k).2.2.2.1 < ((gq gs (gq gs k).2.1).2.2.2.2.2.length : Int)
    have e : rwL tx gs (gq gs k).2.1 = (gq gs (gq gs k).2.1).2.2.2.2.2 := if_pos ⟨h0, by omega⟩
    rw [← e]
    exact b2.at k0 k1
  · have l1 := b2.at (k := j) j0 (by show j < (gs.length : Int); have k1 : k < (gs.length : Int) := k1; omega)
    have l2 := b2.at (k := k) (by omega) k1
    have oj : onT (gq gs j) = 1 := oj
    have ok : onT (gq gs k) = 1 := ok
    have := (po j k j0 jk k1).2 (by rw [(onT_1.mp oj).2, (onT_1.mp ok).2])
    show (gq gs j).2.2.1 ≤ (gq gs k).2.2.1
    omega
