/-! The reference: a gloss goes. Written by wip/whole/tools/mk_md23.py. -/
theorem gq_setN {gs : List gG} {k j : Nat} {q : gG} (h1 : k < gs.length) : gq (gs.set k q) j = if j = k then q else gq gs j := by
  have h := gq_set (gs := gs) (k := (k : Int)) (j := (j : Int)) (q := q) (by omega) (by omega) (by omega)
  rw [Int.toNat_natCast] at h
  rw [h]
  by_cases c : j = k
  · rw [if_pos c, if_pos (by omega)]
  · rw [if_neg c, if_neg (by omega)]
theorem hoW.setg {gs : List gG} (h : hoW gs) {k : Nat} {q : gG} (h1 : k < gs.length) (e : q.2.1 = (gq gs k).2.1) : hoW (gs.set k q) := fun j x hx => by
  by_cases c : k = j
  · subst c
    rw [List.getElem?_set_self h1] at hx
    cases hx
    rw [e]
    exact h.at (by omega) (by omega)
  · rw [List.getElem?_set_ne c] at hx
    exact h j x hx
theorem goL_ltq {gs : List gG} {n h k : Nat} (hk : k < h) : gq (goL gs n h) k = gq gs k := by
  unfold gq
  rw [List.getD_eq_getElem?_getD, List.getD_eq_getElem?_getD]
  have := goL_lt n h gs (k := k) hk
  rw [Int.toNat_natCast, this]
theorem goL_ch : ∀ (n h : Nat) (gs : List gG), hoW gs → h + n = gs.length → (goL gs n h).length = gs.length ∧ (∀ k : Nat, gq (goL gs n h) k = gq gs k ∨ (gq (goL gs n h) k = setGone (gq gs k) ∧ 0 ≤ (gq gs k).2.1 ∧ (gq gs k).2.1 < gs.length ∧ (gq (goL gs n h) (gq gs k).2.1).2.2.2.2.1 = 1)) ∧ ∀ k : Nat, h ≤ k → k < gs.length → 0 ≤ (gq gs k).2.1 → (gq (goL gs n h) (gq gs k).2.1).2.2.2.2.1 = 1 → (gq (goL gs n h) k).2.2.2.2.1 = 1
  | 0, h, gs, hw, he => ⟨rfl, fun k => Or.inl rfl, fun k h1 h2 => by omega⟩
  | n + 1, h, gs, hw, he => by
    have e1 : goL gs (n + 1) h = goL (if 0 ≤ (gq gs h).2.1 ∧ (gq gs h).2.1 < gs.length ∧ (gq gs (gq gs h).2.1).2.2.2.2.1 = 1 then gs.set h (setGone (gq gs h)) else gs) n (h + 1) := rfl
    rw [e1]
    have hwh := hw.at (g := (h : Int)) (by omega) (by omega)
    by_cases c : 0 ≤ (gq gs h).2.1 ∧ (gq gs h).2.1 < gs.length ∧ (gq gs (gq gs h).2.1).2.2.2.2.1 = 1
    · rw [if_pos c]
      have hl : h < gs.length := by omega
      have hw1 : hoW (gs.set h (setGone (gq gs h))) := hw.setg hl rfl
      obtain ⟨i1, i2, i3⟩ := goL_ch n (h + 1) (gs.set h (setGone (gq gs h))) hw1 (by rw [List.length_set]; omega)
      rw [List.length_set] at i1 i2 i3
      obtain ⟨j, ej⟩ : ∃ j : Nat, (gq gs h).2.1 = j := ⟨(gq gs h).2.1.toNat, by omega⟩
      rw [ej] at c
      have hj : j < h := by omega
      have ejr : gq (goL (gs.set h (setGone (gq gs h))) n (h + 1)) j = gq gs j := by rw [goL_ltq (by omega), gq_setN hl, if_neg (by omega)]
      refine ⟨i1, fun k => ?_, fun k h1 h2 h3 h4 => ?_⟩
      · have ik := i2 k
        rw [gq_setN hl] at ik
        by_cases ck : k = h
        · subst ck
          right
          rw [if_pos rfl] at ik
          refine ⟨?_, by omega, by omega, ?_⟩
          · rcases ik with ik | ik
            · exact ik
            · rw [ik.1]; rfl
          · rw [ej, ejr]; exact c.2.2
        · rw [if_neg ck] at ik
          exact ik
      · by_cases ck : k = h
        · subst ck
          have ik := i2 k
          rw [gq_setN hl, if_pos rfl] at ik
          rcases ik with ik | ik
          · rw [ik]; rfl
          · rw [ik.1]; rfl
        · have ik := i3 k (by omega) h2
          rw [gq_setN hl, if_neg ck] at ik
          exact ik h3 h4
    · rw [if_neg c]
      obtain ⟨i1, i2, i3⟩ := goL_ch n (h + 1) gs hw (by omega)
      refine ⟨i1, i2, fun k h1 h2 h3 h4 => ?_⟩
      by_cases ck : k = h
      · subst ck
        obtain ⟨j, ej⟩ : ∃ j : Nat, (gq gs k).2.1 = j := ⟨(gq gs k).2.1.toNat, by omega⟩
        rw [ej] at c h4 hwh
        rw [goL_ltq (by omega)] at h4
        exact absurd ⟨by omega, by omega, h4⟩ c
      · exact i3 k (by omega) h2 h3 h4
theorem awLen {gs : List gG} {g : Int} (hw : hoW gs) (h0 : 0 ≤ g) (h1 : g < gs.length) : (awayG gs g).length = gs.length := by
  have h := goL_ch (gs.length - (g.toNat + 1)) (g.toNat + 1) (gs.set g.toNat (setGone (gq gs g))) (hw.setg (by omega) (by rw [Int.toNat_of_nonneg h0]; rfl)) (by rw [List.length_set]; omega)
  rw [List.length_set] at h
  exact h.1
/-- what goes: the gloss, and those whose host goes -/
theorem away_ch {gs : List gG} {g : Int} (hw : hoW gs) (h0 : 0 ≤ g) (h1 : g < gs.length) {k : Int} (k0 : 0 ≤ k) : (gq (awayG gs g) k = gq gs k ∨ gq (awayG gs g) k = setGone (gq gs k)) ∧ (k = g → (gq (awayG gs g) k).2.2.2.2.1 = 1) ∧ (k ≠ g → gq (awayG gs g) k = gq gs k ∨ (0 ≤ (gq gs k).2.1 ∧ (gq gs k).2.1 < gs.length ∧ (gq (awayG gs g) (gq gs k).2.1).2.2.2.2.1 = 1)) ∧ (k < g → gq (awayG gs g) k = gq gs k) ∧ (g < k → k < gs.length → 0 ≤ (gq gs k).2.1 → (gq (awayG gs g) (gq gs k).2.1).2.2.2.2.1 = 1 → (gq (awayG gs g) k).2.2.2.2.1 = 1) := by
  obtain ⟨n, rfl⟩ : ∃ n : Nat, g = n := ⟨g.toNat, by omega⟩
  obtain ⟨m, rfl⟩ : ∃ m : Nat, k = m := ⟨k.toNat, by omega⟩
  have hn : n < gs.length := by omega
  obtain ⟨i1, i2, i3⟩ := goL_ch (gs.length - (n + 1)) (n + 1) (gs.set n (setGone (gq gs n))) (hw.setg hn rfl) (by rw [List.length_set]; omega)
  rw [List.length_set] at i1 i2 i3
  have ea : awayG gs n = goL (gs.set n (setGone (gq gs n))) (gs.length - (n + 1)) (n + 1) := by unfold awayG; rw [Int.toNat_natCast]
  rw [ea]
  have ik := i2 m
  rw [gq_setN hn] at ik
  refine ⟨?_, fun c => ?_, fun c => ?_, fun c => ?_, fun c c2 c3 c4 => ?_⟩
  · by_cases c : m = n
    · subst c
      rw [if_pos rfl] at ik
      right
      rcases ik with ik | ik
      · exact ik
      · rw [ik.1]; rfl
    · rw [if_neg c] at ik
      rcases ik with ik | ik
      · exact Or.inl ik
      · exact Or.inr ik.1
  · rw [if_pos (by omega)] at ik
    rcases ik with ik | ik
    · rw [ik]; rfl
    · rw [ik.1]; rfl
  · rw [if_neg (by omega)] at ik
    rcases ik with ik | ik
    · exact Or.inl ik
    · exact Or.inr ik.2
  · rw [goL_ltq (by omega), gq_setN hn, if_neg (by omega)]
  · have i4 := i3 m (by omega) (by omega)
    rw [gq_setN hn, if_neg (by omega)] at i4
    exact i4 c3 c4
/-- who is gone -/
def goI (V : Int → Int → Int) (gs : List gG) : Prop := ∀ g : Int, 0 ≤ g → g < gs.length → V 804 g = (gq gs g).2.2.2.2.1 ∧ ((gq gs g).2.2.2.2.1 = 0 ∨ (gq gs g).2.2.2.2.1 = 1)
/-- hosts of those that are there are there -/
def hlW (gs : List gG) : Prop := ∀ k : Int, 0 ≤ k → k < gs.length → lvQ (gq gs k) → hoK gs (gq gs k).2.1
theorem rbIs.lk {V V' : Int → Int → Int} {tx : List Int} {gs gs' : List gG} {b : Int} (h : rbIs V b tx gs) (hl : gs'.length = gs.length) (he : ∀ k : Int, 0 ≤ k → k < gs.length → (gq gs' k).1 = (gq gs k).1 ∧ (gq gs' k).2.1 = (gq gs k).2.1 ∧ (gq gs' k).2.2.2.2.2 = (gq gs k).2.2.2.2.2) (hf : ∀ a, a ≠ 778 → a ≠ 785 → a ≠ 804 → V' a = V a) : rbIs V' b tx gs' := by
  have h1 : rbIs V' b tx gs := by
    unfold rbIs rgIs
    rw [hf 776 (by omega) (by omega) (by omega), hf 777 (by omega) (by omega) (by omega), hf 779 (by omega) (by omega) (by omega), hf 780 (by omega) (by omega) (by omega), hf 781 (by omega) (by omega) (by omega), hf 783 (by omega) (by omega) (by omega), hf 784 (by omega) (by omega) (by omega)]
    exact h
  refine ⟨h1.1, h1.2.1, h1.2.2.1, by rw [hl]; exact h1.2.2.2.1, by rw [hl]; exact h1.2.2.2.2.1, fun k q hk => ?_⟩
  have hk2 : k < gs'.length := (List.getElem?_eq_some_iff.mp hk).1
  have g1 := h1.gl (g := (k : Int)) (by omega) (by omega)
  have e := he k (by omega) (by omega)
  rw [gq_of hk] at e
  unfold rgIs at g1 ⊢
  rw [e.1, e.2.1, e.2.2]
  exact g1
theorem rwLk {tx : List Int} {gs gs' : List gG} (hl : gs'.length = gs.length) (he : ∀ k : Int, 0 ≤ k → k < gs.length → (gq gs' k).2.2.2.2.2 = (gq gs k).2.2.2.2.2) (x : Int) : rwL tx gs' x = rwL tx gs x := by
  unfold rwL
  rw [hl]
  by_cases c : 0 ≤ x ∧ x < gs.length
  · rw [if_pos c, if_pos c]; exact he x c.1 c.2
  · rw [if_neg c, if_neg c]
theorem setGone_f (q : gG) : (setGone q).1 = q.1 ∧ (setGone q).2.1 = q.2.1 ∧ (setGone q).2.2.1 = q.2.2.1 ∧ (setGone q).2.2.2.1 = q.2.2.2.1 ∧ (setGone q).2.2.2.2.2 = q.2.2.2.2.2 ∧ (setGone q).2.2.2.2.1 = 1 := ⟨rfl, rfl, rfl, rfl, rfl, rfl⟩
theorem away_f {gs : List gG} {g : Int} (hw : hoW gs) (h0 : 0 ≤ g) (h1 : g < gs.length) {k : Int} (k0 : 0 ≤ k) : (gq (awayG gs g) k).1 = (gq gs k).1 ∧ (gq (awayG gs g) k).2.1 = (gq gs k).2.1 ∧ (gq (awayG gs g) k).2.2.1 = (gq gs k).2.2.1 ∧ (gq (awayG gs g) k).2.2.2.1 = (gq gs k).2.2.2.1 ∧ (gq (awayG gs g) k).2.2.2.2.2 = (gq gs k).2.2.2.2.2 := by
  rcases (away_ch hw h0 h1 k0).1 with e | e
  · rw [e]; exact ⟨rfl, rfl, rfl, rfl, rfl⟩
  · rw [e]; exact ⟨rfl, rfl, rfl, rfl, rfl⟩
theorem away_lv {gs : List gG} {g : Int} (hw : hoW gs) (h0 : 0 ≤ g) (h1 : g < gs.length) {k : Int} (k0 : 0 ≤ k) (hk : lvQ (gq (awayG gs g) k)) : lvQ (gq gs k) := by
  rcases (away_ch hw h0 h1 k0).1 with e | e
  · rw [e] at hk; exact hk
  · rw [e] at hk; exact absurd (show (1 : Int) = 0 from hk) Int.one_ne_zero
theorem hlW.away {gs : List gG} {g : Int} (hh : hlW gs) (hw : hoW gs) (h0 : 0 ≤ g) (h1 : g < gs.length) : hlW (awayG gs g) := fun k k0 k1 lk => by
  have hl := awLen hw h0 h1
  rw [(away_f hw h0 h1 k0).2.1]
  rw [hl] at k1
  have lk0 := away_lv hw h0 h1 k0 lk
  rcases hh k k0 k1 lk0 with e | ⟨e1, e2, e3⟩
  · exact Or.inl e
  · right
    refine ⟨e1, by omega, ?_⟩
    obtain ⟨-, c1, c2, c3, c4⟩ := away_ch hw h0 h1 k0
    unfold lvQ at *
    have wk := hw.at k0 k1
    rcases (away_ch hw h0 h1 e1).1 with y | y
    · rw [y]; exact e3
    · exfalso
      have y2 : (gq (awayG gs g) (gq gs k).2.1).2.2.2.2.1 = 1 := by rw [y]; rfl
      by_cases cg : g < k
      · have := c4 cg k1 e1 y2
        omega
      · rw [(away_ch hw h0 h1 e1).2.2.2.1 (by omega)] at y2
        omega
theorem rsIs.away {V V' : Int → Int → Int} {tx : List Int} {gs : List gG} {g : Int} (hs : rsIs V 10 tx gs) (hw : hoW gs) (h0 : 0 ≤ g) (h1 : g < gs.length) (lg : lvQ (gq gs g)) (h782 : V' 782 = V 782) (hc1 : ∀ h i : Int, hoK gs h → 0 ≤ i → i < (rwL tx gs h).length → spA V' 10 h i = spA V 10 h i ∨ (spA V' 10 h i = -1 ∧ spA V 10 h i = V 782 (20 * 10 + g) ∧ ∀ k : Int, 0 ≤ k → k < gs.length → lvQ (gq (awayG gs g) k) → V 782 (20 * 10 + k) ≠ V 782 (20 * 10 + g))) (hc2 : (∀ k : Int, 0 ≤ k → k < gs.length → lvQ (gq (awayG gs g) k) → V 782 (20 * 10 + k) ≠ V 782 (20 * 10 + g)) → ∀ i : Int, 0 ≤ i → i < (rwL tx gs (gq gs g).2.1).length → spA V 10 (gq gs g).2.1 i = V 782 (20 * 10 + g) → spA V' 10 (gq gs g).2.1 i = -1) : rsIs V' 10 tx (awayG gs g) := by
  have hl := awLen hw h0 h1
  have hrw := fun x => rwLk (tx := tx) hl (fun k k0 _ => (away_f hw h0 h1 k0).2.2.2.2) x
  have hho : ∀ h, hoK (awayG gs g) h → hoK gs h := fun h z => by
    rcases z with z | ⟨z1, z2, z3⟩
    · exact Or.inl z
    · exact Or.inr ⟨z1, by omega, away_lv hw h0 h1 z1 z3⟩
  have hcv : ∀ k h i : Int, 0 ≤ k → (cvQ (gq (awayG gs g) k) h i ↔ cvQ (gq gs k) h i) := fun k h i k0 => by
    obtain ⟨-, f2, f3, f4, -⟩ := away_f hw h0 h1 k0
    unfold cvQ
    rw [f2, f3, f4]
  refine ⟨fun k k0 k1 lk => ?_, fun h i hk i0 i1 hn => ?_⟩
  · rw [hl] at k1
    have lk0 := away_lv hw h0 h1 k0 lk
    rw [h782]
    obtain ⟨s1, s2⟩ := hs.1 k k0 k1 lk0
    refine ⟨s1, fun h i hk i0 i1 => ?_⟩
    rw [hrw] at i1
    rw [hcv k h i k0, ← s2 h i (hho h hk) i0 i1]
    rcases hc1 h i (hho h hk) i0 i1 with e | ⟨e1, e2, e3⟩
    · rw [e]
    · have := e3 k k0 k1 lk
      omega
  · rw [hrw] at i1
    by_cases cv : ∃ k : Int, 0 ≤ k ∧ k < gs.length ∧ lvQ (gq gs k) ∧ cvQ (gq gs k) h i
    · obtain ⟨k, k0, k1, lk, ck⟩ := cv
      have sk := ((hs.1 k k0 k1 lk).2 h i (hho h hk) i0 i1).mpr ck
      have ng : ¬ lvQ (gq (awayG gs g) k) := fun z => hn k k0 (by omega) z ((hcv k h i k0).mpr ck)
      have hkg : k = g := Decidable.byContradiction fun z => by
        rcases (away_ch hw h0 h1 k0).2.2.1 z with e | ⟨e1, e2, e3⟩
        · rw [e] at ng; exact ng lk
        · rw [← ck.1] at e1 e3
          rcases hk with hk | hk
          · omega
          · have := hk.2.2
            unfold lvQ at this
            omega
      subst hkg
      have := hc2 (fun k2 k20 k21 lk2 z => hn k2 k20 (by omega) lk2 ((hcv k2 h i k20).mpr (((hs.1 k2 k20 k21 (away_lv hw h0 h1 k20 lk2)).2 h i (hho h hk) i0 i1).mp (sk.trans z.symm)))) i i0 (by rw [← ck.1]; exact i1) (by rw [← ck.1]; exact sk)
      rw [← ck.1] at this
      omega
    · have e0 := hs.2 h i (hho h hk) i0 i1 (fun k k0 k1 lk ck => cv ⟨k, k0, k1, lk, ck⟩)
      rcases hc1 h i (hho h hk) i0 i1 with e | ⟨e1, -, -⟩ <;> omega
theorem goI.stp {V : Int → Int → Int} {gs : List gG} {i v : Int} (h : goI V gs) (i0 : 0 ≤ i) (i1 : i < gs.length) (hv : (v = 1 ∧ ((gq gs i).2.2.2.2.1 = 1 ∨ (0 ≤ (gq gs i).2.1 ∧ (gq gs i).2.1 < gs.length ∧ (gq gs (gq gs i).2.1).2.2.2.2.1 = 1))) ∨ (v = 0 ∧ (gq gs i).2.2.2.2.1 = 0 ∧ ¬ (0 ≤ (gq gs i).2.1 ∧ (gq gs i).2.1 < gs.length ∧ (gq gs (gq gs i).2.1).2.2.2.2.1 = 1))) : goI (gup V 804 i v) (if 0 ≤ (gq gs i).2.1 ∧ (gq gs i).2.1 < gs.length ∧ (gq gs (gq gs i).2.1).2.2.2.2.1 = 1 then gs.set i.toNat (setGone (gq gs i)) else gs) := by
  by_cases c : 0 ≤ (gq gs i).2.1 ∧ (gq gs i).2.1 < gs.length ∧ (gq gs (gq gs i).2.1).2.2.2.2.1 = 1
  · rw [if_pos c]
    intro k k0 k1
    rw [List.length_set] at k1
    rw [gq_set i0 i1 k0]
    by_cases e : k = i
    · rw [if_pos e, e]
      have : v = 1 := by omega
      rw [this]
      exact ⟨gup_s, Or.inr rfl⟩
    · rw [if_neg e, gup_c (Or.inr e)]
      exact h k k0 k1
  · rw [if_neg c]
    intro k k0 k1
    by_cases e : k = i
    · subst e
      refine ⟨?_, (h k k0 k1).2⟩
      rw [gup_s]
      omega
    · rw [gup_c (Or.inr e)]
      exact h k k0 k1
theorem rbIs.gst {V V' : Int → Int → Int} {tx : List Int} {gs : List gG} {i : Int} {c : Prop} [Decidable c] (h : rbIs V 10 tx gs) (i0 : 0 ≤ i) (i1 : i < gs.length) (hf : ∀ a, a ≠ 778 → a ≠ 785 → a ≠ 804 → V' a = V a) : rbIs V' 10 tx (if c then gs.set i.toNat (setGone (gq gs i)) else gs) := by
  by_cases cc : c
  · rw [if_pos cc]
    refine h.lk (List.length_set ..) (fun k k0 k1 => ?_) hf
    rw [gq_set i0 i1 k0]
    by_cases e : k = i
    · subst e; rw [if_pos rfl]; exact ⟨rfl, rfl, rfl⟩
    · rw [if_neg e]; exact ⟨rfl, rfl, rfl⟩
  · rw [if_neg cc]; exact h.lk rfl (fun k k0 k1 => ⟨rfl, rfl, rfl⟩) hf
theorem hoW.gst {gs : List gG} {i : Int} {c : Prop} [Decidable c] (h : hoW gs) (i0 : 0 ≤ i) (i1 : i < gs.length) : hoW (if c then gs.set i.toNat (setGone (gq gs i)) else gs) := by
  by_cases cc : c
  · rw [if_pos cc]; exact h.setg (by omega) (by rw [Int.toNat_of_nonneg i0]; rfl)
  · rw [if_neg cc]; exact h
/-- how many there are on a span -/
def glN (V : Int → Int → Int) (sp : Int) (n : Nat) : Int := cntB (fun k => decide (V 804 (k : Int) = 0) && decide (V 782 (200 + (k : Int)) = sp)) n
def goF (V V' : Int → Int → Int) : Prop := (∀ a, a ≠ 778 → a ≠ 785 → a ≠ 804 → V' a = V a) ∧ (∀ k, ¬ (400 ≤ k ∧ k < 440) → V' 778 k = V 778 k) ∧ ∀ k, ¬ (1600 ≤ k ∧ k < 1760) → V' 785 k = V 785 k
def clF (V V' : Int → Int → Int) : Prop := (∀ a, a ≠ 778 → a ≠ 785 → V' a = V a) ∧ (∀ k, ¬ (400 ≤ k ∧ k < 440) → V' 778 k = V 778 k) ∧ ∀ k, ¬ (1600 ≤ k ∧ k < 1760) → V' 785 k = V 785 k
theorem clF.trans {V V1 V2 : Int → Int → Int} (h : clF V V1) (h2 : clF V1 V2) : clF V V2 := ⟨fun a a1 a2 => (h2.1 a a1 a2).trans (h.1 a a1 a2), fun k hk => (h2.2.1 k hk).trans (h.2.1 k hk), fun k hk => (h2.2.2 k hk).trans (h.2.2 k hk)⟩
theorem clF.go {V V1 : Int → Int → Int} (h : clF V V1) : goF V V1 := ⟨fun a a1 a2 a3 => h.1 a a1 a2, h.2⟩
theorem goF.trans {V V1 V2 : Int → Int → Int} (h : goF V V1) (h2 : goF V1 V2) : goF V V2 := ⟨fun a a1 a2 a3 => (h2.1 a a1 a2 a3).trans (h.1 a a1 a2 a3), fun k hk => (h2.2.1 k hk).trans (h.2.1 k hk), fun k hk => (h2.2.2 k hk).trans (h.2.2 k hk)⟩
theorem cntBz {f : Nat → Bool} : ∀ {n : Nat}, cntB f n = 0 ↔ ∀ k, k < n → f k = false
  | 0 => ⟨fun _ k h => by omega, fun _ => rfl⟩
  | n + 1 => by
    rw [cntB_s]
    have hb := cntB_bd f n
    have ih := cntBz (f := f) (n := n)
    constructor
    · intro h k hk
      by_cases c : f n = true
      · rw [if_pos c] at h; omega
      · rw [if_neg c] at h
        by_cases e : k = n
        · subst e; exact Bool.eq_false_iff.mpr c
        · exact ih.mp (by omega) k (by omega)
    · intro h
      rw [if_neg (by rw [h n (by omega)]; decide), ih.mpr (fun k hk => h k (by omega))]; rfl
theorem glN_0 {V : Int → Int → Int} {sp : Int} {n : Nat} : glN V sp n = 0 ↔ ∀ k : Int, 0 ≤ k → k < n → V 804 k = 0 → V 782 (200 + k) ≠ sp := by
  unfold glN
  rw [cntBz]
  constructor
  · intro h k k0 k1 e z
    have := h k.toNat (by omega)
    rw [Int.toNat_of_nonneg k0] at this
    simp [e, z] at this
  · intro h k hk
    have := h k (by omega) (by omega)
    by_cases c : V 804 (k : Int) = 0
    · simp [c, this c]
    · simp [c]
theorem spA_go {V V' : Int → Int → Int} (h : ∀ a, a ≠ 804 → V' a = V a) (b x i : Int) : spA V' b x i = spA V b x i := by
  unfold spA
  rw [h 778 (by omega), h 785 (by omega)]
section MD23
variable {l : Launch} {E : gE} {d : Nat} {K : List gK} {R V : Int → Int → Int} {g h i sp m : Int} {n : Nat} {Q : gQ} {tx : List Int} {gs : List gG}
set_option maxRecDepth 4000 in
theorem m_glossesOn (hM : mdK K R) (hn : V 779 10 = n) (h20 : n ≤ 20) (hQ : Q (some (gi (glN V sp n))) (K, R, V)) : gC l E (d + 1) iX12_glossesOn [ga 775, gi sp] (K, R, V) Q := by
  refine gC_of kX12_glossesOn (ls := [some (ga 775), some (gi sp), none, none]) rfl (Nat.le_of_ble_eq_true rfl) ?_
  have lp : ∀ (jj : Nat) (i : Int) (m : Int) (bc bs : Nat), (n : Int) - i < (jj : Int) → 0 ≤ i → i ≤ n → m = cntB (fun k => decide (V 804 ((k : Nat) : Int) = 0) && decide (V 782 (200 + ((k : Nat) : Int)) = sp)) i.toNat → gX l E (gFm E (d + 1) iX12_glossesOn Q) 4 [some (ga 775), some (gi sp), some (gi m), some (gi i)] [] (K, R, V) bc bs := by
    intro jj
    induction jj with
    | zero =>
      intro i m bc bs hj q0 q1 q2
      exfalso; omega
    | succ jj ih =>
      intro i m bc bs hj q0 q1 q2
      refine gX_iloadn dX12_glossesOn_4 rfl ?_
      refine gX_aloadn dX12_glossesOn_5 rfl ?_
      refine gX_gR 4 dX12_glossesOn_6 fdX12_19 rfl rfl hM.1 (mR4 hM) ?_
      refine gX_bipush dX12_glossesOn_9 (by decide) ⟨by decide, by decide⟩ ?_
      refine gX_iald dX12_glossesOn_11 (mA4 hM) (by omega) (by omega) ?_
      rw [hn]
      refine gX_icmpge (tgt := 52) dX12_glossesOn_12 (by decide) (fun w1 => ?_) (fun w1 => ?_)
      · refine gX_iloadn dX12_glossesOn_52 rfl ?_
        refine gX_iret dX12_glossesOn_53 (Or.inl rfl) ?_
        have en : m = glN V sp n := by unfold glN; rw [q2, show i.toNat = n by omega]
        rw [en]
        exact hQ
      · have hcb := cntB_bd (fun k => decide (V 804 ((k : Nat) : Int) = 0) && decide (V 782 (200 + ((k : Nat) : Int)) = sp)) i.toNat
        refine gX_iloadn dX12_glossesOn_15 rfl ?_
        refine gX_aloadn dX12_glossesOn_16 rfl ?_
        refine gX_gR 45 dX12_glossesOn_17 fdX12_98 rfl rfl hM.1 (mR45 hM) ?_
        refine gX_iloadn dX12_glossesOn_20 rfl ?_
        refine gX_zald dX12_glossesOn_21 (mA45 hM) (by omega) (by omega) ?_
        refine gX_ifne (tgt := 43) dX12_glossesOn_22 (by decide) (fun w2 => ?_) (fun w2 => ?_)
        · refine gX_iconst dX12_glossesOn_43 ⟨by decide, by decide⟩ ?_
          refine gX_iadd dX12_glossesOn_44 ⟨by omega, by omega⟩ ?_
          refine gX_istoren dX12_glossesOn_45 (show (2 : Nat) < 4 from by decide) (ls2 := [some (ga 775), some (gi sp), some (gi (m + 0)), some (gi i)]) rfl ?_
          refine gX_iinc dX12_glossesOn_46 rfl (show (3 : Nat) < 4 from by decide) ⟨by omega, by omega⟩ (ls2 := [some (ga 775), some (gi sp), some (gi (m + 0)), some (gi (i + 1))]) rfl ?_
          refine gX_goto (tgt := 4) dX12_glossesOn_49 (by decide) ?_
          have eb : (i + 1).toNat = i.toNat + 1 := by omega
          have en : ((i.toNat : Nat) : Int) = i := by omega
          refine ih (i + 1) _ _ _ (by omega) (by omega) (by omega) ?_
          rw [eb, cntB_s, ← q2]
          show _ = m + (if (decide (V 804 ((i.toNat : Nat) : Int) = 0) && decide (V 782 (200 + ((i.toNat : Nat) : Int)) = sp)) = true then 1 else 0)
          rw [en]
          rw [if_neg (by rw [Bool.and_eq_true, decide_eq_true_eq, decide_eq_true_eq]; intro z; omega)]
        · refine gX_aloadn dX12_glossesOn_25 rfl ?_
          refine gX_gR 7 dX12_glossesOn_26 fdX12_28 rfl rfl hM.1 (mR7 hM) ?_
          refine gX_sipush dX12_glossesOn_29 (by decide) ⟨by decide, by decide⟩ ?_
          refine gX_iloadn dX12_glossesOn_32 rfl ?_
          refine gX_iadd dX12_glossesOn_33 ⟨by omega, by omega⟩ ?_
          refine gX_iald dX12_glossesOn_34 (mA7 hM) (by omega) (by omega) ?_
          refine gX_iloadn dX12_glossesOn_35 rfl ?_
          refine gX_icmpne (tgt := 43) dX12_glossesOn_36 (by decide) (fun w3 => ?_) (fun w3 => ?_)
          · refine gX_iconst dX12_glossesOn_43 ⟨by decide, by decide⟩ ?_
            refine gX_iadd dX12_glossesOn_44 ⟨by omega, by omega⟩ ?_
            refine gX_istoren dX12_glossesOn_45 (show (2 : Nat) < 4 from by decide) (ls2 := [some (ga 775), some (gi sp), some (gi (m + 0)), some (gi i)]) rfl ?_
            refine gX_iinc dX12_glossesOn_46 rfl (show (3 : Nat) < 4 from by decide) ⟨by omega, by omega⟩ (ls2 := [some (ga 775), some (gi sp), some (gi (m + 0)), some (gi (i + 1))]) rfl ?_
            refine gX_goto (tgt := 4) dX12_glossesOn_49 (by decide) ?_
            have eb : (i + 1).toNat = i.toNat + 1 := by omega
            have en : ((i.toNat : Nat) : Int) = i := by omega
            refine ih (i + 1) _ _ _ (by omega) (by omega) (by omega) ?_
            rw [eb, cntB_s, ← q2]
            show _ = m + (if (decide (V 804 ((i.toNat : Nat) : Int) = 0) && decide (V 782 (200 + ((i.toNat : Nat) : Int)) = sp)) = true then 1 else 0)
            rw [en]
            rw [if_neg (by rw [Bool.and_eq_true, decide_eq_true_eq, decide_eq_true_eq]; intro z; omega)]
          · refine gX_iconst dX12_glossesOn_39 ⟨by decide, by decide⟩ ?_
            refine gX_goto (tgt := 44) dX12_glossesOn_40 (by decide) ?_
            refine gX_iadd dX12_glossesOn_44 ⟨by omega, by omega⟩ ?_
            refine gX_istoren dX12_glossesOn_45 (show (2 : Nat) < 4 from by decide) (ls2 := [some (ga 775), some (gi sp), some (gi (m + 1)), some (gi i)]) rfl ?_
            refine gX_iinc dX12_glossesOn_46 rfl (show (3 : Nat) < 4 from by decide) ⟨by omega, by omega⟩ (ls2 := [some (ga 775), some (gi sp), some (gi (m + 1)), some (gi (i + 1))]) rfl ?_
            refine gX_goto (tgt := 4) dX12_glossesOn_49 (by decide) ?_
            have eb : (i + 1).toNat = i.toNat + 1 := by omega
            have en : ((i.toNat : Nat) : Int) = i := by omega
            refine ih (i + 1) _ _ _ (by omega) (by omega) (by omega) ?_
            rw [eb, cntB_s, ← q2]
            show _ = m + (if (decide (V 804 ((i.toNat : Nat) : Int) = 0) && decide (V 782 (200 + ((i.toNat : Nat) : Int)) = sp)) = true then 1 else 0)
            rw [en]
            rw [if_pos (by rw [Bool.and_eq_true, decide_eq_true_eq, decide_eq_true_eq]; exact ⟨by assumption, by assumption⟩)]
  refine gX_iconst dX12_glossesOn_0 ⟨by decide, by decide⟩ ?_
  refine gX_istoren dX12_glossesOn_1 (show (2 : Nat) < 4 from by decide) (ls2 := [some (ga 775), some (gi sp), some (gi 0), none]) rfl ?_
  refine gX_iconst dX12_glossesOn_2 ⟨by decide, by decide⟩ ?_
  refine gX_istoren dX12_glossesOn_3 (show (3 : Nat) < 4 from by decide) (ls2 := [some (ga 775), some (gi sp), some (gi 0), some (gi 0)]) rfl ?_
  exact lp (n + 1) 0 0 _ _ (by omega) (by omega) (by omega) rfl
theorem clF_spU {V1 : Int → Int → Int} {x : Int} (i0 : 0 ≤ i) (i1 : i < 40) (i8 : 0 ≤ h → i < 8) (h20 : h < 20) : clF V1 (spU V1 10 h i x) := by
  unfold spU
  by_cases c : h < 0
  · rw [if_pos c]
    exact ⟨fun a a1 a2 => gup_ne a1, fun k hk => gup_c (by omega), fun k hk => by rw [gup_ne (by omega)]⟩
  · rw [if_neg c]
    exact ⟨fun a a1 a2 => gup_ne a2, fun k hk => by rw [gup_ne (by omega)], fun k hk => gup_c (by have := i8 (by omega); omega)⟩
theorem spA_spU {V1 : Int → Int → Int} {x h' j : Int} (i0 : 0 ≤ i) (i1 : i < 40) (i8 : 0 ≤ h → i < 8) (z1 : -1 ≤ h') (z2 : h' < 20) (z3 : 0 ≤ j) (z4 : j < 40) (z5 : 0 ≤ h' → j < 8) (hh : -1 ≤ h ∧ h < 20) : spA (spU V1 10 h i x) 10 h' j = if h' = h ∧ j = i then x else spA V1 10 h' j := by
  unfold spA spU
  by_cases c : h < 0
  · rw [if_pos c]
    by_cases c2 : h' < 0
    · rw [if_pos c2, if_pos c2]
      by_cases e : j = i
      · rw [if_pos ⟨by omega, e⟩, e]; exact gup_s
      · rw [if_neg (fun z => e z.2)]; exact gup_c (by omega)
    · rw [if_neg c2, if_neg c2, if_neg (by omega), gup_ne (by omega)]
  · rw [if_neg c]
    have := i8 (by omega)
    by_cases c2 : h' < 0
    · rw [if_pos c2, if_pos c2, if_neg (by omega), gup_ne (by omega)]
    · rw [if_neg c2, if_neg c2]
      have := z5 (by omega)
      by_cases e : h' = h ∧ j = i
      · rw [if_pos e, e.1, e.2]; exact gup_s
      · rw [if_neg e]; exact gup_c (by omega)
set_option maxRecDepth 4000 in
theorem m_clearSpan (hM : mdK K R) (hn : V 779 10 = n) (h20 : n ≤ 20) (hh : -1 ≤ h ∧ h < 20) (hm : hsA V 10 h = m) (hm0 : 0 ≤ m ∧ m ≤ 40) (h8 : 0 ≤ h → m ≤ 8) (hQ : ∀ V', (∀ h' j : Int, -1 ≤ h' → h' < 20 → 0 ≤ j → j < 40 → (0 ≤ h' → j < 8) → spA V' 10 h' j = if h' = h ∧ j < m ∧ glN V sp n = 0 ∧ spA V 10 h j = sp then -1 else spA V 10 h' j) → clF V V' → Q none (K, R, V')) : gC l E (d + 2) iX12_clearSpan [ga 775, gi h, gi sp] (K, R, V) Q := by
  refine gC_of kX12_clearSpan (ls := [some (ga 775), some (gi h), some (gi sp), none]) rfl (Nat.le_of_ble_eq_true rfl) ?_
  refine gX_aloadn dX12_clearSpan_0 rfl ?_
  refine gX_iloadn dX12_clearSpan_1 rfl ?_
  refine gX_virt (J := iX12_glossesOn) (av := [gi sp]) (a := 775) (st := []) dX12_clearSpan_2 lkX12_304 kX12_glossesOn vX12_glossesOn (gFit_m (by decide)) hM.1 rfl rfl (Nat.le_of_ble_eq_true rfl) (Nat.zero_le _) (Nat.zero_le _) rfl ?_
  refine m_glossesOn hM hn h20 ?_
  show gX l E _ 5 [some (ga 775), some (gi h), some (gi sp), none] [gi (glN V sp n)] (K, R, V) _ _
  refine gX_ifne (tgt := 59) dX12_clearSpan_5 (by decide) (fun m1 => ?_) (fun m1 => ?_)
  · refine gX_vret dX12_clearSpan_59 rfl ?_
    refine hQ V (fun h9 j z1 z2 z3 z4 z5 => ?_) ⟨fun _ _ _ => rfl, fun _ _ => rfl, fun _ _ => rfl⟩
    rw [if_neg (fun z => by omega)]
  · refine gX_iconst dX12_clearSpan_8 ⟨by decide, by decide⟩ ?_
    refine gX_istoren dX12_clearSpan_9 (show (3 : Nat) < 4 from by decide) (ls2 := [some (ga 775), some (gi h), some (gi sp), some (gi 0)]) rfl ?_
    have lp : ∀ (jj : Nat) (i : Int) (V1 : Int → Int → Int) (bc bs : Nat), m - i < (jj : Int) → 0 ≤ i → i ≤ m → (∀ h' j : Int, -1 ≤ h' → h' < 20 → 0 ≤ j → j < 40 → (0 ≤ h' → j < 8) → spA V1 10 h' j = if h' = h ∧ j < i ∧ spA V 10 h j = sp then -1 else spA V 10 h' j) → clF V V1 → gX l E (gFm E (d + 2) iX12_clearSpan Q) 10 [some (ga 775), some (gi h), some (gi sp), some (gi i)] [] (K, R, V1) bc bs := by
      intro jj
      induction jj with
      | zero =>
        intro i V1 bc bs hj q0 q1 q2 q3
        exfalso; omega
      | succ jj ih =>
        intro i V1 bc bs hj q0 q1 q2 q3
        refine gX_iloadn dX12_clearSpan_10 rfl ?_
        refine gX_aloadn dX12_clearSpan_11 rfl ?_
        refine gX_bipush dX12_clearSpan_12 (by decide) ⟨by decide, by decide⟩ ?_
        refine gX_iloadn dX12_clearSpan_14 rfl ?_
        refine gX_virt (J := iX12_hostSize) (av := [gi 10, gi h]) (a := 775) (st := [gi i]) dX12_clearSpan_15 lkX12_194 kX12_hostSize vX12_hostSize (gFit_m (by decide)) hM.1 rfl rfl (Nat.le_of_ble_eq_true rfl) (Nat.zero_le _) (Nat.zero_le _) rfl ?_
        refine m_hostSize hM ⟨by omega, by omega⟩ (by omega) ?_
        show gX l E _ 18 [some (ga 775), some (gi h), some (gi sp), some (gi i)] [gi (hsA V1 10 h), gi i] (K, R, V1) _ _
        rw [show hsA V1 10 h = m by rw [← hm]; unfold hsA; rw [q3.1 776 (by omega) (by omega), q3.1 783 (by omega) (by omega)]]
        refine gX_icmpge (tgt := 59) dX12_clearSpan_18 (by decide) (fun b1 => ?_) (fun b1 => ?_)
        · refine gX_vret dX12_clearSpan_59 rfl ?_
          have em : i = m := by omega
          refine hQ V1 (fun h9 j z1 z2 z3 z4 z5 => ?_) q3
          rw [q2 h9 j z1 z2 z3 z4 z5, em]
          by_cases c2 : h9 = h ∧ j < m ∧ spA V 10 h j = sp
          · rw [if_pos c2, if_pos ⟨c2.1, c2.2.1, by assumption, c2.2.2⟩]
          · rw [if_neg c2, if_neg (fun z => c2 ⟨z.1, z.2.1, z.2.2.2⟩)]
        · have eh : spA V1 10 h i = spA V 10 h i := by rw [q2 h i (by omega) (by omega) q0 (by omega) (fun z => by have := h8 z; omega), if_neg (by omega)]
          refine gX_aloadn dX12_clearSpan_21 rfl ?_
          refine gX_bipush dX12_clearSpan_22 (by decide) ⟨by decide, by decide⟩ ?_
          refine gX_iloadn dX12_clearSpan_24 rfl ?_
          refine gX_iloadn dX12_clearSpan_25 rfl ?_
          refine gX_aloadn dX12_clearSpan_26 rfl ?_
          refine gX_bipush dX12_clearSpan_27 (by decide) ⟨by decide, by decide⟩ ?_
          refine gX_iloadn dX12_clearSpan_29 rfl ?_
          refine gX_iloadn dX12_clearSpan_30 rfl ?_
          refine gX_virt (J := iX12_spanAt) (av := [gi 10, gi h, gi i]) (a := 775) (st := [gi i, gi h, gi 10, ga 775]) dX12_clearSpan_31 lkX12_308 kX12_spanAt vX12_spanAt (gFit_m (by decide)) hM.1 rfl rfl (Nat.le_of_ble_eq_true rfl) (Nat.zero_le _) (Nat.zero_le _) rfl ?_
          refine m_spanAt hM ⟨by omega, by omega⟩ (by omega) ⟨by omega, by omega⟩ (fun z => by have := h8 z; omega) ?_
          show gX l E _ 34 [some (ga 775), some (gi h), some (gi sp), some (gi i)] [gi (spA V1 10 h i), gi i, gi h, gi 10, ga 775] (K, R, V1) _ _
          rw [eh]
          refine gX_iloadn dX12_clearSpan_34 rfl ?_
          refine gX_icmpne (tgt := 42) dX12_clearSpan_35 (by decide) (fun b2 => ?_) (fun b2 => ?_)
          · refine gX_aloadn dX12_clearSpan_42 rfl ?_
            refine gX_bipush dX12_clearSpan_43 (by decide) ⟨by decide, by decide⟩ ?_
            refine gX_iloadn dX12_clearSpan_45 rfl ?_
            refine gX_iloadn dX12_clearSpan_46 rfl ?_
            refine gX_virt (J := iX12_spanAt) (av := [gi 10, gi h, gi i]) (a := 775) (st := [gi i, gi h, gi 10, ga 775]) dX12_clearSpan_47 lkX12_308 kX12_spanAt vX12_spanAt (gFit_m (by decide)) hM.1 rfl rfl (Nat.le_of_ble_eq_true rfl) (Nat.zero_le _) (Nat.zero_le _) rfl ?_
            refine m_spanAt hM ⟨by omega, by omega⟩ (by omega) ⟨by omega, by omega⟩ (fun z => by have := h8 z; omega) ?_
            show gX l E _ 50 [some (ga 775), some (gi h), some (gi sp), some (gi i)] [gi (spA V1 10 h i), gi i, gi h, gi 10, ga 775] (K, R, V1) _ _
            rw [eh]
            refine gX_virt (J := iX12_setSpan) (av := [gi 10, gi h, gi i, gi (spA V 10 h i)]) (a := 775) (st := []) dX12_clearSpan_50 lkX12_207 kX12_setSpan vX12_setSpan (gFit_m (by decide)) hM.1 rfl rfl (Nat.le_of_ble_eq_true rfl) (Nat.zero_le _) (Nat.zero_le _) rfl ?_
            refine m_setSpan hM ⟨by omega, by omega⟩ (by omega) ⟨by omega, by omega⟩ (fun z => by have := h8 z; omega) ?_
            show gX l E _ 53 [some (ga 775), some (gi h), some (gi sp), some (gi i)] [] (K, R, spU V1 10 h i (spA V 10 h i)) _ _
            refine gX_iinc dX12_clearSpan_53 rfl (show (3 : Nat) < 4 from by decide) ⟨by omega, by omega⟩ (ls2 := [some (ga 775), some (gi h), some (gi sp), some (gi (i + 1))]) rfl ?_
            refine gX_goto (tgt := 10) dX12_clearSpan_56 (by decide) ?_
            refine ih (i + 1) _ _ _ (by omega) (by omega) (by omega) (fun h9 j z1 z2 z3 z4 z5 => ?_) (q3.trans (clF_spU (by omega) (by omega) (fun z => by have := h8 z; omega) (by omega)))
            rw [spA_spU (by omega) (by omega) (fun z => by have := h8 z; omega) z1 z2 z3 z4 z5 (by omega)]
            by_cases ce : h9 = h ∧ j = i
            · rw [if_pos ce, ce.1, ce.2]
              rw [if_neg (fun z => by omega)]
            · rw [if_neg ce, q2 h9 j z1 z2 z3 z4 z5]
              by_cases c2 : h9 = h ∧ j < i ∧ spA V 10 h j = sp
              · rw [if_pos c2, if_pos ⟨c2.1, by omega, c2.2.2⟩]
              · rw [if_neg c2, if_neg (fun z => c2 ⟨z.1, by omega, z.2.2⟩)]
          · refine gX_iconst dX12_clearSpan_38 ⟨by decide, by decide⟩ ?_
            refine gX_goto (tgt := 50) dX12_clearSpan_39 (by decide) ?_
            refine gX_virt (J := iX12_setSpan) (av := [gi 10, gi h, gi i, gi (-1)]) (a := 775) (st := []) dX12_clearSpan_50 lkX12_207 kX12_setSpan vX12_setSpan (gFit_m (by decide)) hM.1 rfl rfl (Nat.le_of_ble_eq_true rfl) (Nat.zero_le _) (Nat.zero_le _) rfl ?_
            refine m_setSpan hM ⟨by omega, by omega⟩ (by omega) ⟨by omega, by omega⟩ (fun z => by have := h8 z; omega) ?_
            show gX l E _ 53 [some (ga 775), some (gi h), some (gi sp), some (gi i)] [] (K, R, spU V1 10 h i (-1)) _ _
            refine gX_iinc dX12_clearSpan_53 rfl (show (3 : Nat) < 4 from by decide) ⟨by omega, by omega⟩ (ls2 := [some (ga 775), some (gi h), some (gi sp), some (gi (i + 1))]) rfl ?_
            refine gX_goto (tgt := 10) dX12_clearSpan_56 (by decide) ?_
            refine ih (i + 1) _ _ _ (by omega) (by omega) (by omega) (fun h9 j z1 z2 z3 z4 z5 => ?_) (q3.trans (clF_spU (by omega) (by omega) (fun z => by have := h8 z; omega) (by omega)))
            rw [spA_spU (by omega) (by omega) (fun z => by have := h8 z; omega) z1 z2 z3 z4 z5 (by omega)]
            by_cases ce : h9 = h ∧ j = i
            · rw [if_pos ce, ce.1, ce.2]
              rw [if_pos ⟨rfl, by omega, by omega⟩]
            · rw [if_neg ce, q2 h9 j z1 z2 z3 z4 z5]
              by_cases c2 : h9 = h ∧ j < i ∧ spA V 10 h j = sp
              · rw [if_pos c2, if_pos ⟨c2.1, by omega, c2.2.2⟩]
              · rw [if_neg c2, if_neg (fun z => c2 ⟨z.1, by omega, z.2.2⟩)]
    exact lp (m.toNat + 1) 0 V _ _ (by omega) (by omega) (by omega) (fun h9 j z1 z2 z3 z4 z5 => by rw [if_neg (by omega)]) ⟨fun _ _ _ => rfl, fun _ _ => rfl, fun _ _ => rfl⟩
set_option maxRecDepth 4000 in
theorem m_goes (hM : mdK K R) (hw : hoW gs) (hk : rbIs V 10 tx gs) (hs : rsIs V 10 tx gs) (hgo : goI V gs) (h0 : 0 ≤ g) (h1 : g < gs.length) (lg : lvQ (gq gs g)) (ho : hoK gs (gq gs g).2.1) (hQ : ∀ V', rbIs V' 10 tx (awayG gs g) → rsIs V' 10 tx (awayG gs g) → goI V' (awayG gs g) → goF V V' → Q none (K, R, V')) : gC l E (d + 3) iX12_goes [ga 775, gi g] (K, R, V) Q := by
  refine gC_of kX12_goes (ls := [some (ga 775), some (gi g), none, none, none]) rfl (Nat.le_of_ble_eq_true rfl) ?_
  have h20 := hk.2.2.2.2.1
  have hgl0 := hk.gl h0 h1
  have hrg := ho.rg
  obtain ⟨hx1, hx2, hx3⟩ := hk.hs hrg
  have lp : ∀ (jj : Nat) (i : Int) (j4 : Option gV) (V1 : Int → Int → Int) (gs1 : List gG) (bc bs : Nat), (gs1.length : Int) - i < (jj : Int) → 0 ≤ i → i ≤ gs1.length → gs1.length = gs.length → rbIs V1 10 tx gs1 → hoW gs1 → goI V1 gs1 → (∀ a, a ≠ 804 → V1 a = V a) → awayG gs g = goL gs1 (gs1.length - i.toNat) i.toNat → gX l E (gFm E (d + 3) iX12_goes Q) 22 [some (ga 775), some (gi g), some (gi ((gq gs g).2.1)), some (gi i), j4] [] (K, R, V1) bc bs := by
    intro jj
    induction jj with
    | zero =>
      intro i j4 V1 gs1 bc bs hj q0 q1 q2 q3 q4 q5 q6 q7
      exfalso; omega
    | succ jj ih =>
      intro i j4 V1 gs1 bc bs hj q0 q1 q2 q3 q4 q5 q6 q7
      refine gX_iloadn dX12_goes_22 rfl ?_
      refine gX_aloadn dX12_goes_23 rfl ?_
      refine gX_gR 4 dX12_goes_24 fdX12_19 rfl rfl hM.1 (mR4 hM) ?_
      refine gX_bipush dX12_goes_27 (by decide) ⟨by decide, by decide⟩ ?_
      refine gX_iald dX12_goes_29 (mA4 hM) (by omega) (by omega) ?_
      rw [q3.2.2.2.1]
      refine gX_icmpge (tgt := 86) dX12_goes_30 (by decide) (fun b1 => ?_) (fun b1 => ?_)
      · refine gX_aloadn dX12_goes_86 rfl ?_
        refine gX_iloadn dX12_goes_87 rfl ?_
        refine gX_aloadn dX12_goes_88 rfl ?_
        refine gX_gR 7 dX12_goes_89 fdX12_28 rfl rfl hM.1 (mR7 hM) ?_
        refine gX_sipush dX12_goes_92 (by decide) ⟨by decide, by decide⟩ ?_
        refine gX_iloadn dX12_goes_95 rfl ?_
        refine gX_iadd dX12_goes_96 ⟨by omega, by omega⟩ ?_
        refine gX_iald dX12_goes_97 (mA7 hM) (by omega) (by omega) ?_
        rw [q6 782 (by omega)]
        refine gX_virt (J := iX12_clearSpan) (av := [gi ((gq gs g).2.1), gi (V 782 (200 + g))]) (a := 775) (st := []) dX12_goes_98 lkX12_301 kX12_clearSpan vX12_clearSpan (gFit_m (by decide)) hM.1 rfl rfl (Nat.le_of_ble_eq_true rfl) (Nat.zero_le _) (Nat.zero_le _) rfl ?_
        refine m_clearSpan (n := gs1.length) (m := ((rwL tx gs (gq gs g).2.1).length : Int)) hM q3.2.2.2.1 (by omega) (by omega) (by rw [← hx1]; unfold hsA; rw [q6 776 (by omega), q6 783 (by omega)]) (by omega) (fun z => by have := hx3 z; omega) (fun V2 hc2 hf2 => ?_)
        show gX l E _ 101 [some (ga 775), some (gi g), some (gi ((gq gs g).2.1)), some (gi i), j4] [] (K, R, V2) _ _
        refine gX_vret dX12_goes_101 rfl ?_
        have ei : gs1.length - i.toNat = 0 := by omega
        rw [ei] at q7
        have q7 : awayG gs g = gs1 := q7
        have hd : ∀ k : Int, 0 ≤ k → k < gs.length → ((gq (awayG gs g) k).2.2.2.2.1 = 0 ↔ V1 804 k = 0) := fun k k0 k1 => by rw [q7, (q5 k k0 (by omega)).1]
        have hN : glN V1 (V 782 (200 + g)) gs1.length = 0 ↔ ∀ k : Int, 0 ≤ k → k < gs.length → lvQ (gq (awayG gs g) k) → V 782 (20 * 10 + k) ≠ V 782 (20 * 10 + g) := by
          rw [glN_0, q2, q6 782 (by omega)]
          constructor
          · intro z k k0 k1 lk; exact z k k0 k1 ((hd k k0 k1).mp lk)
          · intro z k k0 k1 lk; exact z k k0 k1 ((hd k k0 k1).mpr lk)
        have hsp1 := spA_go q6
        refine hQ V2 ?_ ?_ ?_ ?_
        · rw [q7]; exact q3.lk rfl (fun _ _ _ => ⟨rfl, rfl, rfl⟩) hf2.go.1
        · refine hs.away hw h0 h1 lg (by rw [hf2.1 782 (by omega) (by omega), q6 782 (by omega)]) (fun h9 i9 z1 z2 z3 => ?_) (fun z i9 z2 z3 z4 => ?_)
          · have zr := z1.rg
            obtain ⟨y1, y2, y3⟩ := hk.hs zr
            rw [hc2 h9 i9 (by omega) (by omega) z2 (by omega) (fun y => by have := y3 y; omega), hsp1, hsp1]
            by_cases cc : h9 = (gq gs g).2.1 ∧ i9 < (rwL tx gs (gq gs g).2.1).length ∧ glN V1 (V 782 (200 + g)) gs1.length = 0 ∧ spA V 10 (gq gs g).2.1 i9 = V 782 (200 + g)
            · rw [if_pos cc]; exact Or.inr ⟨rfl, by rw [cc.1]; exact cc.2.2.2, hN.mp cc.2.2.1⟩
            · rw [if_neg cc]; exact Or.inl rfl
          · rw [hc2 _ i9 (by omega) (by omega) z2 (by omega) (fun y => by have := hx3 y; omega), hsp1, if_pos ⟨rfl, z3, hN.mpr z, z4⟩]
        · rw [q7]; exact fun k k0 k1 => by rw [show V2 804 = V1 804 from hf2.1 804 (by omega) (by omega)]; exact q5 k k0 k1
        · exact goF.trans ⟨fun a a1 a2 a3 => q6 a a3, fun k hk => by rw [q6 778 (by omega)], fun k hk => by rw [q6 785 (by omega)]⟩ hf2.go
      · have hgl := q3.gl (g := i) (by omega) (by omega)
        have hwi := q4.at (g := i) (by omega) (by omega)
        have hgi := q5 i (by omega) (by omega)
        have hgh := fun z => q5 (gq gs1 i).2.1 z (by omega)
        refine gX_aloadn dX12_goes_33 rfl ?_
        refine gX_gR 6 dX12_goes_34 fdX12_25 rfl rfl hM.1 (mR6 hM) ?_
        refine gX_sipush dX12_goes_37 (by decide) ⟨by decide, by decide⟩ ?_
        refine gX_iloadn dX12_goes_40 rfl ?_
        refine gX_iadd dX12_goes_41 ⟨by omega, by omega⟩ ?_
        refine gX_iald dX12_goes_42 (mA6 hM) (by omega) (by omega) ?_
        rw [show V1 781 (200 + i) = (gq gs1 i).2.1 from hgl.2.1]
        refine gX_istore dX12_goes_43 (show (4 : Nat) < 5 from by decide) (ls2 := [some (ga 775), some (gi g), some (gi ((gq gs g).2.1)), some (gi i), some (gi ((gq gs1 i).2.1))]) rfl ?_
        refine gX_aloadn dX12_goes_45 rfl ?_
        refine gX_gR 45 dX12_goes_46 fdX12_98 rfl rfl hM.1 (mR45 hM) ?_
        refine gX_iloadn dX12_goes_49 rfl ?_
        refine gX_aloadn dX12_goes_50 rfl ?_
        refine gX_gR 45 dX12_goes_51 fdX12_98 rfl rfl hM.1 (mR45 hM) ?_
        refine gX_iloadn dX12_goes_54 rfl ?_
        refine gX_zald dX12_goes_55 (mA45 hM) (by omega) (by omega) ?_
        rw [hgi.1]
        refine gX_ifne (tgt := 74) dX12_goes_56 (by decide) (fun b2 => ?_) (fun b2 => ?_)
        · refine gX_iconst dX12_goes_74 ⟨by decide, by decide⟩ ?_
          refine gX_goto (tgt := 79) dX12_goes_75 (by decide) ?_
          refine gX_zast dX12_goes_79 (Or.inr rfl) (mA45 hM) (by omega) (by omega) ?_
          refine gX_iinc dX12_goes_80 rfl (show (3 : Nat) < 5 from by decide) ⟨by omega, by omega⟩ (ls2 := [some (ga 775), some (gi g), some (gi ((gq gs g).2.1)), some (gi (i + 1)), some (gi ((gq gs1 i).2.1))]) rfl ?_
          refine gX_goto (tgt := 22) dX12_goes_83 (by decide) ?_
          have e9 : goL gs1 (gs1.length - i.toNat) i.toNat = goL (if 0 ≤ (gq gs1 i).2.1 ∧ (gq gs1 i).2.1 < gs1.length ∧ (gq gs1 (gq gs1 i).2.1).2.2.2.2.1 = 1 then gs1.set i.toNat (setGone (gq gs1 i)) else gs1) (gs1.length - (i + 1).toNat) (i + 1).toNat := by
            rw [show gs1.length - i.toNat = (gs1.length - (i + 1).toNat) + 1 by omega]
            have en : ((i.toNat : Nat) : Int) = i := by omega
            show goL (if 0 ≤ (gq gs1 ((i.toNat : Nat) : Int)).2.1 ∧ (gq gs1 ((i.toNat : Nat) : Int)).2.1 < gs1.length ∧ (gq gs1 (gq gs1 ((i.toNat : Nat) : Int)).2.1).2.2.2.2.1 = 1 then gs1.set i.toNat (setGone (gq gs1 ((i.toNat : Nat) : Int))) else gs1) (gs1.length - (i + 1).toNat) (i.toNat + 1) = _
            rw [en, show i.toNat + 1 = (i + 1).toNat by omega]
          have hl9 : (if 0 ≤ (gq gs1 i).2.1 ∧ (gq gs1 i).2.1 < gs1.length ∧ (gq gs1 (gq gs1 i).2.1).2.2.2.2.1 = 1 then gs1.set i.toNat (setGone (gq gs1 i)) else gs1).length = gs1.length := by split; exact List.length_set .. ; rfl
          refine ih (i + 1) _ _ _ _ _ (by omega) (by omega) (by omega) (by omega) (q3.gst (by omega) (by omega) (fun a a1 a2 a3 => gup_ne a3)) (q4.gst (by omega) (by omega)) (q5.stp (by omega) (by omega) (by omega)) (fun a ha => by rw [gup_ne ha]; exact q6 a ha) (by rw [hl9]; exact q7.trans e9)
        · refine gX_iload dX12_goes_59 rfl ?_
          refine gX_iflt (tgt := 78) dX12_goes_61 (by decide) (fun b3 => ?_) (fun b3 => ?_)
          · refine gX_iconst dX12_goes_78 ⟨by decide, by decide⟩ ?_
            refine gX_zast dX12_goes_79 (Or.inl rfl) (mA45 hM) (by omega) (by omega) ?_
            refine gX_iinc dX12_goes_80 rfl (show (3 : Nat) < 5 from by decide) ⟨by omega, by omega⟩ (ls2 := [some (ga 775), some (gi g), some (gi ((gq gs g).2.1)), some (gi (i + 1)), some (gi ((gq gs1 i).2.1))]) rfl ?_
            refine gX_goto (tgt := 22) dX12_goes_83 (by decide) ?_
            have e9 : goL gs1 (gs1.length - i.toNat) i.toNat = goL (if 0 ≤ (gq gs1 i).2.1 ∧ (gq gs1 i).2.1 < gs1.length ∧ (gq gs1 (gq gs1 i).2.1).2.2.2.2.1 = 1 then gs1.set i.toNat (setGone (gq gs1 i)) else gs1) (gs1.length - (i + 1).toNat) (i + 1).toNat := by
              rw [show gs1.length - i.toNat = (gs1.length - (i + 1).toNat) + 1 by omega]
              have en : ((i.toNat : Nat) : Int) = i := by omega
              show goL (if 0 ≤ (gq gs1 ((i.toNat : Nat) : Int)).2.1 ∧ (gq gs1 ((i.toNat : Nat) : Int)).2.1 < gs1.length ∧ (gq gs1 (gq gs1 ((i.toNat : Nat) : Int)).2.1).2.2.2.2.1 = 1 then gs1.set i.toNat (setGone (gq gs1 ((i.toNat : Nat) : Int))) else gs1) (gs1.length - (i + 1).toNat) (i.toNat + 1) = _
              rw [en, show i.toNat + 1 = (i + 1).toNat by omega]
            have hl9 : (if 0 ≤ (gq gs1 i).2.1 ∧ (gq gs1 i).2.1 < gs1.length ∧ (gq gs1 (gq gs1 i).2.1).2.2.2.2.1 = 1 then gs1.set i.toNat (setGone (gq gs1 i)) else gs1).length = gs1.length := by split; exact List.length_set .. ; rfl
            refine ih (i + 1) _ _ _ _ _ (by omega) (by omega) (by omega) (by omega) (q3.gst (by omega) (by omega) (fun a a1 a2 a3 => gup_ne a3)) (q4.gst (by omega) (by omega)) (q5.stp (by omega) (by omega) (by omega)) (fun a ha => by rw [gup_ne ha]; exact q6 a ha) (by rw [hl9]; exact q7.trans e9)
          · refine gX_aloadn dX12_goes_64 rfl ?_
            refine gX_gR 45 dX12_goes_65 fdX12_98 rfl rfl hM.1 (mR45 hM) ?_
            refine gX_iload dX12_goes_68 rfl ?_
            refine gX_zald dX12_goes_70 (mA45 hM) (by omega) (by omega) ?_
            have hgh := hgh (by omega)
            rw [hgh.1]
            refine gX_ifeq (tgt := 78) dX12_goes_71 (by decide) (fun b4 => ?_) (fun b4 => ?_)
            · refine gX_iconst dX12_goes_78 ⟨by decide, by decide⟩ ?_
              refine gX_zast dX12_goes_79 (Or.inl rfl) (mA45 hM) (by omega) (by omega) ?_
              refine gX_iinc dX12_goes_80 rfl (show (3 : Nat) < 5 from by decide) ⟨by omega, by omega⟩ (ls2 := [some (ga 775), some (gi g), some (gi ((gq gs g).2.1)), some (gi (i + 1)), some (gi ((gq gs1 i).2.1))]) rfl ?_
              refine gX_goto (tgt := 22) dX12_goes_83 (by decide) ?_
              have e9 : goL gs1 (gs1.length - i.toNat) i.toNat = goL (if 0 ≤ (gq gs1 i).2.1 ∧ (gq gs1 i).2.1 < gs1.length ∧ (gq gs1 (gq gs1 i).2.1).2.2.2.2.1 = 1 then gs1.set i.toNat (setGone (gq gs1 i)) else gs1) (gs1.length - (i + 1).toNat) (i + 1).toNat := by
                rw [show gs1.length - i.toNat = (gs1.length - (i + 1).toNat) + 1 by omega]
                have en : ((i.toNat : Nat) : Int) = i := by omega
                show goL (if 0 ≤ (gq gs1 ((i.toNat : Nat) : Int)).2.1 ∧ (gq gs1 ((i.toNat : Nat) : Int)).2.1 < gs1.length ∧ (gq gs1 (gq gs1 ((i.toNat : Nat) : Int)).2.1).2.2.2.2.1 = 1 then gs1.set i.toNat (setGone (gq gs1 ((i.toNat : Nat) : Int))) else gs1) (gs1.length - (i + 1).toNat) (i.toNat + 1) = _
                rw [en, show i.toNat + 1 = (i + 1).toNat by omega]
              have hl9 : (if 0 ≤ (gq gs1 i).2.1 ∧ (gq gs1 i).2.1 < gs1.length ∧ (gq gs1 (gq gs1 i).2.1).2.2.2.2.1 = 1 then gs1.set i.toNat (setGone (gq gs1 i)) else gs1).length = gs1.length := by split; exact List.length_set .. ; rfl
              refine ih (i + 1) _ _ _ _ _ (by omega) (by omega) (by omega) (by omega) (q3.gst (by omega) (by omega) (fun a a1 a2 a3 => gup_ne a3)) (q4.gst (by omega) (by omega)) (q5.stp (by omega) (by omega) (by omega)) (fun a ha => by rw [gup_ne ha]; exact q6 a ha) (by rw [hl9]; exact q7.trans e9)
            · refine gX_iconst dX12_goes_74 ⟨by decide, by decide⟩ ?_
              refine gX_goto (tgt := 79) dX12_goes_75 (by decide) ?_
              refine gX_zast dX12_goes_79 (Or.inr rfl) (mA45 hM) (by omega) (by omega) ?_
              refine gX_iinc dX12_goes_80 rfl (show (3 : Nat) < 5 from by decide) ⟨by omega, by omega⟩ (ls2 := [some (ga 775), some (gi g), some (gi ((gq gs g).2.1)), some (gi (i + 1)), some (gi ((gq gs1 i).2.1))]) rfl ?_
              refine gX_goto (tgt := 22) dX12_goes_83 (by decide) ?_
              have e9 : goL gs1 (gs1.length - i.toNat) i.toNat = goL (if 0 ≤ (gq gs1 i).2.1 ∧ (gq gs1 i).2.1 < gs1.length ∧ (gq gs1 (gq gs1 i).2.1).2.2.2.2.1 = 1 then gs1.set i.toNat (setGone (gq gs1 i)) else gs1) (gs1.length - (i + 1).toNat) (i + 1).toNat := by
                rw [show gs1.length - i.toNat = (gs1.length - (i + 1).toNat) + 1 by omega]
                have en : ((i.toNat : Nat) : Int) = i := by omega
                show goL (if 0 ≤ (gq gs1 ((i.toNat : Nat) : Int)).2.1 ∧ (gq gs1 ((i.toNat : Nat) : Int)).2.1 < gs1.length ∧ (gq gs1 (gq gs1 ((i.toNat : Nat) : Int)).2.1).2.2.2.2.1 = 1 then gs1.set i.toNat (setGone (gq gs1 ((i.toNat : Nat) : Int))) else gs1) (gs1.length - (i + 1).toNat) (i.toNat + 1) = _
                rw [en, show i.toNat + 1 = (i + 1).toNat by omega]
              have hl9 : (if 0 ≤ (gq gs1 i).2.1 ∧ (gq gs1 i).2.1 < gs1.length ∧ (gq gs1 (gq gs1 i).2.1).2.2.2.2.1 = 1 then gs1.set i.toNat (setGone (gq gs1 i)) else gs1).length = gs1.length := by split; exact List.length_set .. ; rfl
              refine ih (i + 1) _ _ _ _ _ (by omega) (by omega) (by omega) (by omega) (q3.gst (by omega) (by omega) (fun a a1 a2 a3 => gup_ne a3)) (q4.gst (by omega) (by omega)) (q5.stp (by omega) (by omega) (by omega)) (fun a ha => by rw [gup_ne ha]; exact q6 a ha) (by rw [hl9]; exact q7.trans e9)
  refine gX_aloadn dX12_goes_0 rfl ?_
  refine gX_gR 6 dX12_goes_1 fdX12_25 rfl rfl hM.1 (mR6 hM) ?_
  refine gX_sipush dX12_goes_4 (by decide) ⟨by decide, by decide⟩ ?_
  refine gX_iloadn dX12_goes_7 rfl ?_
  refine gX_iadd dX12_goes_8 ⟨by omega, by omega⟩ ?_
  refine gX_iald dX12_goes_9 (mA6 hM) (by omega) (by omega) ?_
  rw [show V 781 (200 + g) = (gq gs g).2.1 from hgl0.2.1]
  refine gX_istoren dX12_goes_10 (show (2 : Nat) < 5 from by decide) (ls2 := [some (ga 775), some (gi g), some (gi ((gq gs g).2.1)), none, none]) rfl ?_
  refine gX_aloadn dX12_goes_11 rfl ?_
  refine gX_gR 45 dX12_goes_12 fdX12_98 rfl rfl hM.1 (mR45 hM) ?_
  refine gX_iloadn dX12_goes_15 rfl ?_
  refine gX_iconst dX12_goes_16 ⟨by decide, by decide⟩ ?_
  refine gX_zast dX12_goes_17 (Or.inr rfl) (mA45 hM) (by omega) (by omega) ?_
  refine gX_iloadn dX12_goes_18 rfl ?_
  refine gX_iconst dX12_goes_19 ⟨by decide, by decide⟩ ?_
  refine gX_iadd dX12_goes_20 ⟨by omega, by omega⟩ ?_
  refine gX_istoren dX12_goes_21 (show (3 : Nat) < 5 from by decide) (ls2 := [some (ga 775), some (gi g), some (gi ((gq gs g).2.1)), some (gi (g + 1)), none]) rfl ?_
  refine lp (gs.length + 1) (g + 1) none _ (gs.set g.toNat (setGone (gq gs g))) _ _ (by rw [List.length_set]; omega) (by omega) (by rw [List.length_set]; omega) (List.length_set ..) (hk.lk (List.length_set ..) (fun k k0 k1 => ?_) (fun a a1 a2 a3 => gup_ne a3)) (hw.setg (by omega) (by rw [Int.toNat_of_nonneg h0]; rfl)) (fun k k0 k1 => ?_) (fun a ha => gup_ne ha) ?_
  · rw [gq_set h0 h1 k0]
    by_cases e : k = g
    · subst e; rw [if_pos rfl]; exact ⟨rfl, rfl, rfl⟩
    · rw [if_neg e]; exact ⟨rfl, rfl, rfl⟩
  · rw [List.length_set] at k1
    rw [gq_set h0 h1 k0]
    by_cases e : k = g
    · subst e; rw [if_pos rfl]; exact ⟨gup_s, Or.inr rfl⟩
    · rw [if_neg e, gup_c (Or.inr e)]; exact hgo k k0 k1
  · rw [List.length_set]
    unfold awayG
    rw [show (g + 1).toNat = g.toNat + 1 by omega]
end MD23
