/-! The reference: the eye that skips. Written by wip/whole/tools/mk_md27.py. -/
theorem gqS {gs : List gG} {k : Nat} {q : gG} (h : k < gs.length) (j : Int) : gq (gs.set k q) j = if j.toNat = k then q else gq gs j := by
  unfold gq
  rw [List.getD_eq_getElem?_getD, List.getD_eq_getElem?_getD]
  by_cases c : j.toNat = k
  · rw [if_pos c, c, List.getElem?_set_self h]; rfl
  · rw [if_neg c, List.getElem?_set_ne (fun z => c z.symm)]
theorem gqX {H G : List gG} (hl : H.length = G.length) (h : ∀ j : Nat, j < G.length → gq H j = gq G j) : H = G := by
  refine List.ext_getElem hl (fun i h1 h2 => ?_)
  have := h i h2
  unfold gq at this
  rw [List.getD_eq_getElem?_getD, List.getD_eq_getElem?_getD, show ((i : Nat) : Int).toNat = i from rfl, List.getElem?_eq_getElem h1, List.getElem?_eq_getElem h2] at this
  exact this
def hgE (H G : List gG) : Prop := ∀ j : Int, (gq H j).2.1 = (gq G j).2.1 ∧ (gq H j).2.2.2.2.1 = (gq G j).2.2.2.2.1
theorem hgE.set {H G : List gG} (h : hgE H G) {k : Nat} (h1 : k < H.length) (h2 : k < G.length) : hgE (H.set k (setGone (gq H k))) (G.set k (setGone (gq G k))) := fun j => by
  rw [gqS h1, gqS h2]
  by_cases c : j.toNat = k
  · rw [if_pos c, if_pos c]; exact ⟨(h k).1, rfl⟩
  · rw [if_neg c, if_neg c]; exact h j
theorem goL_cg : ∀ (n h : Nat) (H G : List gG), H.length = G.length → h + n ≤ G.length → hgE H G → hgE (goL H n h) (goL G n h)
  | 0, _, _, _, _, _, e => e
  | n + 1, h, H, G, hl, hn, e => by
    have ec : (0 ≤ (gq H h).2.1 ∧ (gq H h).2.1 < H.length ∧ (gq H (gq H h).2.1).2.2.2.2.1 = 1) ↔ (0 ≤ (gq G h).2.1 ∧ (gq G h).2.1 < G.length ∧ (gq G (gq G h).2.1).2.2.2.2.1 = 1) := by
      rw [(e h).1, hl, (e (gq G h).2.1).2]
    show hgE (goL (if _ then _ else _) n (h + 1)) (goL (if _ then _ else _) n (h + 1))
    by_cases c : (0 ≤ (gq G h).2.1 ∧ (gq G h).2.1 < G.length ∧ (gq G (gq G h).2.1).2.2.2.2.1 = 1)
    · rw [if_pos c, if_pos (ec.mpr c)]
      exact goL_cg n (h + 1) _ _ (by rw [List.length_set, List.length_set, hl]) (by rw [List.length_set]; omega) (e.set (by omega) (by omega))
    · rw [if_neg c, if_neg (fun z => c (ec.mp z))]
      exact goL_cg n (h + 1) _ _ hl (by omega) e
theorem away_cg {H G : List gG} {g : Int} (hl : H.length = G.length) (g0 : 0 ≤ g) (g1 : g < G.length) (e : hgE H G) : hgE (awayG H g) (awayG G g) := by
  unfold awayG
  rw [hl]
  refine goL_cg _ _ _ _ (by rw [List.length_set, List.length_set, hl]) (by rw [List.length_set]; omega) ?_
  have := e.set (k := g.toNat) (by omega) (by omega)
  rw [Int.toNat_of_nonneg g0] at this
  exact this
/-- a gloss on the text after words f to t are left out -/
def lvQ1 (f t : Int) (q : gG) : gG := if onT q = 1 then spG q (plc q.2.2.1 f t) (plc (q.2.2.2.1 + 1) f t - 1) else q
def lvH : Nat → Nat → List gG → List gG
  | 0, _, H => H
  | n + 1, g, H => lvH n (g + 1) (if onT (gq H g) = 1 ∧ (gq H g).2.2.2.1 < (gq H g).2.2.1 then awayG H g else H)
def lrl (f t : Int) (k : Nat) (H G : List gG) : Prop := H.length = G.length ∧ ∀ j : Nat, j < G.length → gq H j = if j < k then gq G j else lvQ1 f t (gq G j)
def moQ (G : List gG) : Prop := ∀ j : Int, onT (gq G j) = 1 → (gq G j).2.2.1 ≤ (gq G j).2.2.2.1 + 1
theorem onT_spG (q : gG) (a b : Int) : onT (spG q a b) = onT q := rfl
theorem lvQ1_f (f t : Int) (q : gG) : (lvQ1 f t q).1 = q.1 ∧ (lvQ1 f t q).2.1 = q.2.1 ∧ (lvQ1 f t q).2.2.2.2 = q.2.2.2.2 ∧ onT (lvQ1 f t q) = onT q := by
  unfold lvQ1
  by_cases c : onT q = 1
  · rw [if_pos c]; exact ⟨rfl, rfl, rfl, rfl⟩
  · rw [if_neg c]; exact ⟨rfl, rfl, rfl, rfl⟩
theorem gG_x {p q : gG} (h1 : p.1 = q.1) (h2 : p.2.1 = q.2.1) (h3 : p.2.2.1 = q.2.2.1) (h4 : p.2.2.2.1 = q.2.2.2.1) (h5 : p.2.2.2.2.1 = q.2.2.2.2.1) (h6 : p.2.2.2.2.2 = q.2.2.2.2.2) : p = q := by
  obtain ⟨p1, p2, p3, p4, p5, p6⟩ := p
  obtain ⟨q1, q2, q3, q4, q5, q6⟩ := q
  cases h1; cases h2; cases h3; cases h4; cases h5; cases h6
  rfl
theorem gqO {gs : List gG} {j : Int} (h : gs.length ≤ j.toNat) : gq gs j = gDf := by
  unfold gq
  rw [List.getD_eq_getElem?_getD, List.getElem?_eq_none (by omega)]; rfl
theorem gqN (gs : List gG) (j : Int) : gq gs j = gq gs (j.toNat : Int) := rfl
theorem lrl.hg {f t : Int} {k : Nat} {H G : List gG} (h : lrl f t k H G) (j : Int) : (gq H j).1 = (gq G j).1 ∧ (gq H j).2.1 = (gq G j).2.1 ∧ (gq H j).2.2.2.2 = (gq G j).2.2.2.2 := by
  rw [gqN H, gqN G]
  by_cases c : j.toNat < G.length
  · rw [h.2 _ c]
    by_cases c2 : j.toNat < k
    · rw [if_pos c2]; exact ⟨rfl, rfl, rfl⟩
    · rw [if_neg c2]; have := lvQ1_f f t (gq G (j.toNat : Int)); exact ⟨this.1, this.2.1, this.2.2.1⟩
  · rw [gqO (gs := H) (by have := h.1; omega), gqO (gs := G) (by omega)]; exact ⟨rfl, rfl, rfl⟩
theorem plc_mo {a b f t : Int} (h : a ≤ b) (hf : f ≤ t) : plc a f t ≤ plc b f t := by
  have h1 := plc_cs a f t
  have h2 := plc_cs b f t
  omega
theorem hoW.eqh {H G : List gG} (h : hoW G) (hl : H.length = G.length) (e : ∀ j : Int, (gq H j).2.1 = (gq G j).2.1) : hoW H := fun k q hq => by
  have h1 : k < H.length := by
    rcases Nat.lt_or_ge k H.length with z | z
    · exact z
    · rw [List.getElem?_eq_none z] at hq; cases hq
  have e1 : gq H k = q := by unfold gq; rw [List.getD_eq_getElem?_getD, show ((k : Nat) : Int).toNat = k from rfl, hq]; rfl
  have := h.at (g := (k : Int)) (by omega) (by omega)
  rw [← e k, e1] at this
  exact this
theorem lrl.stp {f t : Int} {k : Nat} {H G : List gG} (h : lrl f t k H G) (ht : f ≤ t) (hk : k < G.length) (hw : hoW G) (hm : moQ G) : lrl f t (k + 1) (if onT (gq H k) = 1 ∧ (gq H k).2.2.2.1 < (gq H k).2.2.1 then awayG H k else H) (lv1 f t G k) ∧ hoW (lv1 f t G k) ∧ moQ (lv1 f t G k) ∧ (lv1 f t G k).length = G.length := by
  have e0 := h.2 k hk
  rw [if_neg (Nat.lt_irrefl k)] at e0
  have eo : onT (gq H k) = onT (gq G k) := by rw [e0]; exact (lvQ1_f f t _).2.2.2
  unfold lv1
  by_cases ho : onT (gq G k) = 1
  · rw [if_pos ho]
    have e1 : gq H k = spG (gq G k) (plc (gq G k).2.2.1 f t) (plc ((gq G k).2.2.2.1 + 1) f t - 1) := by rw [e0]; unfold lvQ1; rw [if_pos ho]
    have hp := plc_mo (f := f) (t := t) (hm k ho) ht
    have e2 : (gq H k).2.2.1 = plc (gq G k).2.2.1 f t := by rw [e1]; rfl
    have e3 : (gq H k).2.2.2.1 = plc ((gq G k).2.2.2.1 + 1) f t - 1 := by rw [e1]; rfl
    rw [← e1]
    have hg1 : ∀ j : Int, gq (G.set k (gq H k)) j = if j.toNat = k then gq H k else gq G j := gqS hk
    have hw1 : hoW (G.set k (gq H k)) := hw.setg hk (by rw [e1]; rfl)
    have hm1 : moQ (G.set k (gq H k)) := fun j => by
      rw [hg1]
      by_cases c : j.toNat = k
      · rw [if_pos c]; intro _; rw [e2, e3]; omega
      · rw [if_neg c]; exact hm j
    have hr1 : lrl f t (k + 1) H (G.set k (gq H k)) := ⟨by rw [List.length_set]; exact h.1, fun j hj => by
      rw [List.length_set] at hj
      rw [hg1]
      by_cases c : j = k
      · rw [if_pos (show ((j : Nat) : Int).toNat = k from c), if_pos (by omega), c]
      · rw [if_neg (show ¬ ((j : Nat) : Int).toNat = k from c), h.2 j hj]
        by_cases c2 : j < k
        · rw [if_pos c2, if_pos (by omega)]
        · rw [if_neg c2, if_neg (by omega)]⟩
    by_cases c : plc (gq G k).2.2.1 f t = plc ((gq G k).2.2.2.1 + 1) f t
    · rw [if_pos c, if_pos ⟨eo.trans ho, by rw [e2, e3]; omega⟩]
      have k0 : (0 : Int) ≤ (k : Int) := by omega
      have k1 : (k : Int) < (G.set k (gq H k)).length := by rw [List.length_set]; omega
      have hl := hr1.1
      have k2 : (k : Int) < H.length := by omega
      have hwH : hoW H := hw.eqh h.1 (fun j => (h.hg j).2.1)
      have hgE1 : hgE H (G.set k (gq H k)) := fun j => ⟨(hr1.hg j).2.1, by rw [(hr1.hg j).2.2]⟩
      have hc := away_cg hl k0 k1 hgE1
      refine ⟨⟨by rw [awLen hwH k0 k2, awLen hw1 k0 k1]; exact hl, fun j hj => ?_⟩, hw1.away k0 k1, fun j hj => ?_, by rw [awLen hw1 k0 k1, List.length_set]⟩
      · rw [awLen hw1 k0 k1] at hj
        have f1 := away_f hwH k0 k2 (k := (j : Int)) (by omega)
        have f2 := away_f hw1 k0 k1 (k := (j : Int)) (by omega)
        have r1 := hr1.2 j hj
        by_cases cj : j < k + 1
        · rw [if_pos cj] at r1 ⊢
          refine gG_x ?_ ?_ ?_ ?_ (hc j).2 ?_
          · rw [f1.1, f2.1, r1]
          · rw [f1.2.1, f2.2.1, r1]
          · rw [f1.2.2.1, f2.2.2.1, r1]
          · rw [f1.2.2.2.1, f2.2.2.2.1, r1]
          · rw [f1.2.2.2.2, f2.2.2.2.2, r1]
        · rw [if_neg cj] at r1 ⊢
          have c3 := (away_ch hw1 k0 k1 (k := (j : Int)) (by omega)).2.2.1 (by omega)
          have c4 := (away_ch hwH k0 k2 (k := (j : Int)) (by omega)).2.2.1 (by omega)
          by_cases hh : 0 ≤ (gq (G.set k (gq H k)) j).2.1
          · have n1 : lvQ1 f t (gq (awayG (G.set k (gq H k)) k) j) = gq (awayG (G.set k (gq H k)) k) j := by
              unfold lvQ1
              rw [if_neg (fun z => by have := (onT_1.mp z).2; rw [f2.2.1] at this; omega)]
            have n2 : lvQ1 f t (gq (G.set k (gq H k)) j) = gq (G.set k (gq H k)) j := by
              unfold lvQ1
              rw [if_neg (fun z => by have := (onT_1.mp z).2; omega)]
            rw [n1]
            rw [n2] at r1
            refine gG_x ?_ ?_ ?_ ?_ (hc j).2 ?_
            · rw [f1.1, f2.1, r1]
            · rw [f1.2.1, f2.2.1, r1]
            · rw [f1.2.2.1, f2.2.2.1, r1]
            · rw [f1.2.2.2.1, f2.2.2.2.1, r1]
            · rw [f1.2.2.2.2, f2.2.2.2.2, r1]
          · have y1 : gq (awayG (G.set k (gq H k)) k) j = gq (G.set k (gq H k)) j := by
              rcases c3 with z | z
              · exact z
              · exact absurd z.1 hh
            have y2 : gq (awayG H k) j = gq H j := by
              rcases c4 with z | z
              · exact z
              · have := (hr1.hg j).2.1
                exact absurd z.1 (by omega)
            rw [y1, y2, r1]
      · by_cases cj : j.toNat < G.length
        · have f2 := away_f hw1 k0 k1 (k := (j.toNat : Int)) (by omega)
          have a1 := (away_ch hw1 k0 k1 (k := (j.toNat : Int)) (by omega)).1
          rw [gqN] at hj ⊢
          rw [f2.2.2.1, f2.2.2.2.1]
          refine hm1 _ ?_
          rcases a1 with z | z
          · rw [← z]; exact hj
          · have := (onT_1.mp hj).1
            rw [z] at this
            cases this
        · rw [gqO (by rw [awLen hw1 k0 k1, List.length_set]; omega)]
          decide
    · rw [if_neg c, if_neg (fun z => by rw [e2, e3] at z; omega)]
      exact ⟨hr1, hw1, hm1, List.length_set ..⟩
  · rw [if_neg ho, if_neg (fun z => ho (by rw [← eo]; exact z.1))]
    refine ⟨⟨h.1, fun j hj => ?_⟩, hw, hm, rfl⟩
    rw [h.2 j hj]
    by_cases c : j = k
    · subst c
      rw [if_neg (by omega), if_pos (by omega)]
      unfold lvQ1
      rw [if_neg ho]
    · by_cases c2 : j < k
      · rw [if_pos c2, if_pos (by omega)]
      · rw [if_neg c2, if_neg (by omega)]
theorem lvH_G {f t : Int} (ht : f ≤ t) : ∀ (n k : Nat) (H G : List gG), lrl f t k H G → k + n = G.length → hoW G → moQ G → lvH n k H = lvG f t n k G
  | 0, k, H, G, h, hn, hw, hm => gqX h.1 (fun j hj => by have hj : j < G.length := hj; show gq H j = gq G j; rw [h.2 j hj, if_pos (by omega)])
  | n + 1, k, H, G, h, hn, hw, hm => by
    obtain ⟨a1, a2, a3, a4⟩ := h.stp ht (by omega) hw hm
    exact lvH_G ht n (k + 1) _ _ a1 (by omega) a2 a3
theorem lvH_lvG {f t : Int} {tx : List Int} {gs : List gG} (ht : f ≤ t) (hw : hoW gs) (hs : spW tx gs) : lvH gs.length 0 (gs.map (lvQ1 f t)) = lvG f t gs.length 0 gs := by
  refine lvH_G ht _ 0 _ _ ⟨List.length_map .., fun j hj => ?_⟩ (by omega) hw (fun j hj => ?_)
  · rw [if_neg (by omega)]
    unfold gq
    rw [List.getD_eq_getElem?_getD, List.getD_eq_getElem?_getD, List.getElem?_map, List.getElem?_eq_getElem (show ((j : Nat) : Int).toNat < gs.length from hj)]; rfl
  · by_cases c : j.toNat < gs.length
    · rw [gqN] at hj ⊢
      have := hs.1 _ (gqM (g := (j.toNat : Int)) (by omega) (by omega)) hj
      omega
    · rw [gqO (by omega)]; decide
/-- the text is changed, the rows are not -/
theorem rsIs.txt {V V' : Int → Int → Int} {tx tx' : List Int} {gs gs' : List gG} (hs : rsIs V 10 tx gs) (hl : gs'.length = gs.length) (he : ∀ k : Int, 0 ≤ k → k < gs.length → (gq gs' k).2.1 = (gq gs k).2.1 ∧ (gq gs' k).2.2.2.2 = (gq gs k).2.2.2.2 ∧ (onT (gq gs k) ≠ 1 → gq gs' k = gq gs k)) (h782 : V' 782 = V 782) (h785 : V' 785 = V 785) (hA : ∀ i : Int, 0 ≤ i → i < tx'.length → ∀ k : Int, 0 ≤ k → k < gs.length → lvQ (gq gs k) → (V' 778 (400 + i) = V 782 (200 + k) ↔ cvQ (gq gs' k) (-1) i)) (hB : ∀ i : Int, 0 ≤ i → i < tx'.length → (∀ k : Int, 0 ≤ k → k < gs.length → lvQ (gq gs k) → ¬ cvQ (gq gs' k) (-1) i) → V' 778 (400 + i) < 0) : rsIs V' 10 tx' gs' := by
  have elv : ∀ k : Int, 0 ≤ k → k < gs.length → (lvQ (gq gs' k) ↔ lvQ (gq gs k)) := fun k k0 k1 => by unfold lvQ; rw [(he k k0 k1).2.1]
  have eho : ∀ h, hoK gs' h → hoK gs h := fun h z => by
    rcases z with z | ⟨z1, z2, z3⟩
    · exact Or.inl z
    · exact Or.inr ⟨z1, by omega, (elv h z1 (by omega)).mp z3⟩
  have erw : ∀ x : Int, 0 ≤ x → x < gs.length → rwL tx' gs' x = rwL tx gs x := fun x x0 x1 => by
    unfold rwL
    rw [if_pos ⟨x0, by omega⟩, if_pos ⟨x0, x1⟩, (he x x0 x1).2.1]
  have ecv : ∀ k : Int, 0 ≤ k → k < gs.length → lvQ (gq gs k) → ∀ h i : Int, 0 ≤ h → (cvQ (gq gs' k) h i ↔ cvQ (gq gs k) h i) := fun k k0 k1 lk h i h0 => by
    by_cases c : onT (gq gs k) = 1
    · have := (onT_1.mp c).2
      have e := (he k k0 k1).1
      unfold cvQ
      omega
    · rw [(he k k0 k1).2.2 c]
  refine ⟨fun k k0 k1 lk => ?_, fun h i hk i0 i1 hno => ?_⟩
  · rw [elv k k0 (by omega)] at lk
    rw [h782]
    obtain ⟨s1, s2⟩ := hs.1 k k0 (by omega) lk
    refine ⟨s1, fun h i hk i0 i1 => ?_⟩
    have hk2 := eho h hk
    by_cases hm : 0 ≤ h
    · have h1 : h < gs.length := by have := hk2; unfold hoK at this; omega
      rw [erw h hm h1] at i1
      rw [spRw h785 hm, ecv k k0 (by omega) lk h i hm]
      exact s2 h i hk2 i0 i1
    · have hh : h = -1 := by have := hk2; unfold hoK at this; omega
      subst hh
      rw [rwL_n] at i1
      rw [spTx]
      exact hA i i0 i1 k k0 (by omega) lk
  · have hk2 := eho h hk
    by_cases hm : 0 ≤ h
    · have h1 : h < gs.length := by have := hk2; unfold hoK at this; omega
      rw [erw h hm h1] at i1
      rw [spRw h785 hm]
      exact hs.2 h i hk2 i0 i1 (fun k k0 k1 lk z => hno k k0 (by omega) ((elv k k0 k1).mpr lk) ((ecv k k0 k1 lk h i hm).mpr z))
    · have hh : h = -1 := by have := hk2; unfold hoK at this; omega
      subst hh
      rw [rwL_n] at i1
      rw [spTx]
      exact hB i i0 i1 (fun k k0 k1 lk z => hno k k0 (by omega) ((elv k k0 k1).mpr lk) z)
theorem rbIs.txt {V V' : Int → Int → Int} {tx tx' : List Int} {gs gs' : List gG} (h : rbIs V 10 tx gs) (hl : gs'.length = gs.length) (he : ∀ k : Int, 0 ≤ k → k < gs.length → (gq gs' k).1 = (gq gs k).1 ∧ (gq gs' k).2.1 = (gq gs k).2.1 ∧ (gq gs' k).2.2.2.2.2 = (gq gs k).2.2.2.2.2) (hn : V' 776 10 = tx'.length) (h40 : tx'.length ≤ 40) (ht : ∀ j : Int, 0 ≤ j → j < tx'.length → V' 777 (400 + j) = lat tx' j) (hf : ∀ a, a ≠ 776 → a ≠ 777 → a ≠ 778 → a ≠ 804 → V' a = V a) : rbIs V' 10 tx' gs' := by
  have h1 : rbIs V' 10 tx' gs := by
    refine ⟨hn, h40, fun j x hx => ?_, ?_, h.2.2.2.2.1, fun k q hq => ?_⟩
    · have hj : j < tx'.length := by
        rcases Nat.lt_or_ge j tx'.length with z | z
        · exact z
        · rw [List.getElem?_eq_none z] at hx; cases hx
      have := ht j (by omega) (by omega)
      rw [lat_of hx] at this
      exact this
    · rw [hf 779 (by omega) (by omega) (by omega) (by omega)]; exact h.2.2.2.1
    · have := h.2.2.2.2.2 k q hq
      unfold rgIs at this ⊢
      rw [hf 780 (by omega) (by omega) (by omega) (by omega), hf 781 (by omega) (by omega) (by omega) (by omega), hf 783 (by omega) (by omega) (by omega) (by omega), hf 784 (by omega) (by omega) (by omega) (by omega)]
      exact this
  exact h1.lk hl he (fun a _ _ _ => rfl)
theorem lat_cut {xs : List Int} {f m j : Int} (f0 : 0 ≤ f) (m0 : 0 ≤ m) (h : f + m ≤ xs.length) (j0 : 0 ≤ j) : lat (xs.take f.toNat ++ xs.drop (f + m).toNat) j = if j < f then lat xs j else lat xs (j + m) := by
  have hl : (xs.take f.toNat).length = f.toNat := by rw [List.length_take]; omega
  unfold lat
  by_cases c : j < f
  · rw [if_pos c, if_neg (by omega), if_neg (by omega), List.getD_eq_getElem?_getD, List.getD_eq_getElem?_getD, List.getElem?_append_left (by omega), List.getElem?_take, if_pos (by omega)]
  · rw [if_neg c, if_neg (by omega), if_neg (by omega), List.getD_eq_getElem?_getD, List.getD_eq_getElem?_getD, List.getElem?_append_right (by omega), hl, List.getElem?_drop]
    rw [show (f + m).toNat + (j.toNat - f.toNat) = (j + m).toNat by omega]
theorem len_cut {xs : List Int} {f m : Int} (f0 : 0 ≤ f) (m0 : 0 ≤ m) (h : f + m ≤ xs.length) : ((xs.take f.toNat ++ xs.drop (f + m).toNat).length : Int) = xs.length - m := by
  rw [List.length_append, List.length_take, List.length_drop]
  omega
/-- only text and text spans changed -/
def ctF (V V' : Int → Int → Int) : Prop := (∀ a, a ≠ 776 → a ≠ 777 → a ≠ 778 → V' a = V a) ∧ (∀ k, k ≠ 10 → V' 776 k = V 776 k) ∧ ∀ k, ¬ (400 ≤ k ∧ k < 440) → V' 777 k = V 777 k ∧ V' 778 k = V 778 k
theorem ctF.rf {V : Int → Int → Int} : ctF V V := ⟨fun _ _ _ _ => rfl, fun _ _ => rfl, fun _ _ => ⟨rfl, rfl⟩⟩
theorem ctF.trans {V V1 V2 : Int → Int → Int} (h : ctF V V1) (h2 : ctF V1 V2) : ctF V V2 := ⟨fun a a1 a2 a3 => (h2.1 a a1 a2 a3).trans (h.1 a a1 a2 a3), fun k hk => (h2.2.1 k hk).trans (h.2.1 k hk), fun k hk => ⟨((h2.2.2 k hk).1).trans (h.2.2 k hk).1, ((h2.2.2 k hk).2).trans (h.2.2 k hk).2⟩⟩
theorem ctF.wk {V V' : Int → Int → Int} (h : ctF V V') : wkF V V' := fun a k h3 h4 h5 => by
  by_cases c1 : a = 776
  · subst c1; exact h.2.1 k (fun z => h3 (by unfold inSl; omega))
  · by_cases c2 : a = 777
    · subst c2; exact (h.2.2 k (fun z => h3 (by unfold inSl; omega))).1
    · by_cases c3 : a = 778
      · subst c3; exact (h.2.2 k (fun z => h3 (by unfold inSl; omega))).2
      · rw [h.1 a c1 c2 c3]
theorem ctF.u6 {V V1 : Int → Int → Int} (h : ctF V V1) {x : Int} : ctF V (gup V1 776 10 x) := h.trans ⟨fun a a1 a2 a3 => gup_ne a1, fun k hk => gup_c (Or.inr hk), fun k hk => ⟨by rw [gup_ne (by omega)], by rw [gup_ne (by omega)]⟩⟩
theorem ctF.u7 {V V1 : Int → Int → Int} (h : ctF V V1) {k x : Int} (hk : 400 ≤ k ∧ k < 440) : ctF V (gup V1 777 k x) := h.trans ⟨fun a a1 a2 a3 => gup_ne a2, fun k' hk' => by rw [gup_ne (by omega)], fun k' hk' => ⟨gup_c (Or.inr (by omega)), by rw [gup_ne (by omega)]⟩⟩
theorem ctF.u8 {V V1 : Int → Int → Int} (h : ctF V V1) {k x : Int} (hk : 400 ≤ k ∧ k < 440) : ctF V (gup V1 778 k x) := h.trans ⟨fun a a1 a2 a3 => gup_ne a3, fun k' hk' => by rw [gup_ne (by omega)], fun k' hk' => ⟨by rw [gup_ne (by omega)], gup_c (Or.inr (by omega))⟩⟩
theorem gq_map1 {gs : List gG} {f : gG → gG} {k : Int} (k1 : k.toNat < gs.length) : gq (gs.map f) k = f (gq gs k) := by
  unfold gq
  rw [List.getD_eq_getElem?_getD, List.getD_eq_getElem?_getD, List.getElem?_map, List.getElem?_eq_getElem k1]; rfl
theorem rsIs.cut {V V' : Int → Int → Int} {tx : List Int} {gs : List gG} {f m : Int} (hs : rsIs V 10 tx gs) (hw : spW tx gs) (f0 : 0 ≤ f) (m0 : 1 ≤ m) (fm : f + m ≤ tx.length) (h782 : V' 782 = V 782) (h785 : V' 785 = V 785) (h778 : ∀ i : Int, 0 ≤ i → i < tx.length - m → V' 778 (400 + i) = if i < f then V 778 (400 + i) else V 778 (400 + (i + m))) : rsIs V' 10 (tx.take f.toNat ++ tx.drop (f + m).toNat) (gs.map (lvQ1 f (f + m - 1))) := by
  have hl := len_cut (xs := tx) f0 (by omega : (0 : Int) ≤ m) fm
  have key : ∀ i : Int, 0 ≤ i → i < tx.length - m → ∀ k : Int, 0 ≤ k → k < gs.length → lvQ (gq gs k) → (cvQ (gq (gs.map (lvQ1 f (f + m - 1))) k) (-1) i ↔ cvQ (gq gs k) (-1) (if i < f then i else i + m)) := fun i i0 i1 k k0 k1 lk => by
    rw [gq_map1 (by omega)]
    by_cases c : onT (gq gs k) = 1
    · have b := hw.1 _ (gqM k0 k1) c
      unfold lvQ1
      rw [if_pos c]
      show (-1 = (gq gs k).2.1 ∧ plc (gq gs k).2.2.1 f (f + m - 1) ≤ i ∧ i ≤ plc ((gq gs k).2.2.2.1 + 1) f (f + m - 1) - 1) ↔ (-1 = (gq gs k).2.1 ∧ (gq gs k).2.2.1 ≤ (if i < f then i else i + m) ∧ (if i < f then i else i + m) ≤ (gq gs k).2.2.2.1)
      have c1 := plc_cs (gq gs k).2.2.1 f (f + m - 1)
      have c2 := plc_cs ((gq gs k).2.2.2.1 + 1) f (f + m - 1)
      by_cases ci : i < f
      · rw [if_pos ci]; omega
      · rw [if_neg ci]; omega
    · unfold lvQ1
      rw [if_neg c]
      have : (gq gs k).2.1 ≠ -1 := fun z => c (onT_1.mpr ⟨lk, z⟩)
      unfold cvQ
      omega
  have hsp : ∀ i : Int, 0 ≤ i → i < tx.length - m → V' 778 (400 + i) = V 778 (400 + (if i < f then i else i + m)) := fun i i0 i1 => by
    rw [h778 i i0 i1]
    by_cases ci : i < f
    · rw [if_pos ci, if_pos ci]
    · rw [if_neg ci, if_neg ci]
  refine hs.txt (List.length_map ..) (fun k k0 k1 => ?_) h782 h785 (fun i i0 i1 k k0 k1 lk => ?_) (fun i i0 i1 hno => ?_)
  · rw [gq_map1 (by omega)]
    have := lvQ1_f f (f + m - 1) (gq gs k)
    exact ⟨this.2.1, this.2.2.1, fun c => by unfold lvQ1; rw [if_neg c]⟩
  · rw [hsp i i0 (by omega), key i i0 (by omega) k k0 k1 lk, ← spTx V]
    exact (hs.1 k k0 k1 lk).2 (-1) _ (Or.inl rfl) (by split <;> omega) (by rw [rwL_n]; split <;> omega)
  · rw [hsp i i0 (by omega), ← spTx V]
    exact hs.2 (-1) _ (Or.inl rfl) (by split <;> omega) (by rw [rwL_n]; split <;> omega) (fun k k0 k1 lk z => hno k k0 k1 lk ((key i i0 (by omega) k k0 k1 lk).mpr z))
/-- those on the text lie in it -/
def tbQ (n : Int) (H : List gG) : Prop := ∀ k : Int, 0 ≤ k → k < H.length → onT (gq H k) = 1 → 0 ≤ (gq H k).2.2.1 ∧ (gq H k).2.2.2.1 < n
theorem tbQ.away {n : Int} {H : List gG} {g : Int} (h : tbQ n H) (hw : hoW H) (g0 : 0 ≤ g) (g1 : g < H.length) : tbQ n (awayG H g) := fun k k0 k1 ho => by
  rw [awLen hw g0 g1] at k1
  have f2 := away_f hw g0 g1 (k := k) k0
  rw [f2.2.2.1, f2.2.2.2.1]
  refine h k k0 k1 ?_
  have := onT_1.mp ho
  exact onT_1.mpr ⟨away_lv hw g0 g1 k0 this.1, by rw [← f2.2.1]; exact this.2⟩
/-- what stands while glosses without words go -/
def loI (V : Int → Int → Int) (tx : List Int) (H : List gG) : Prop := rbIs V 10 tx H ∧ rsIs V 10 tx H ∧ goI V H ∧ hoW H ∧ hlW H ∧ tbQ tx.length H
theorem hlW.eqh {H G : List gG} (h : hlW G) (hl : H.length = G.length) (e : ∀ j : Int, (gq H j).2.1 = (gq G j).2.1 ∧ (gq H j).2.2.2.2 = (gq G j).2.2.2.2) : hlW H := fun k k0 k1 lk => by
  have l2 : lvQ (gq G k) := by unfold lvQ; rw [← (e k).2]; exact lk
  have := h k k0 (by omega) l2
  rw [(e k).1]
  rcases this with z | ⟨z1, z2, z3⟩
  · exact Or.inl z
  · exact Or.inr ⟨z1, by omega, by unfold lvQ; rw [(e _).2]; exact z3⟩
section MD27
variable {l : Launch} {E : gE} {d : Nat} {K : List gK} {R V : Int → Int → Int} {h g sp f m : Int} {Q : gQ} {s : cS} {q : gbH} {n : Nat}
def anyT (V : Int → Int → Int) (sp : Int) : Nat → Bool := anyB (fun i => decide (V 778 (400 + (i : Int)) = sp))
set_option maxRecDepth 4000 in
theorem m_isInText (hM : mdK K R) (hn : V 776 10 = n) (h40 : n ≤ 40) (hQ : Q (some (gi (b2i (anyT V sp n)))) (K, R, V)) : gC l E (d + 1) iX12_isInText [ga 775, gi sp] (K, R, V) Q := by
  refine gC_of kX12_isInText (ls := [some (ga 775), some (gi sp), none, none]) rfl (Nat.le_of_ble_eq_true rfl) ?_
  have lp : ∀ (jj : Nat) (i : Int) (bc bs : Nat), (n : Int) - i < (jj : Int) → 0 ≤ i → i ≤ n → gX l E (gFm E (d + 1) iX12_isInText Q) 4 [some (ga 775), some (gi sp), some (gi (b2i (anyT V sp i.toNat))), some (gi i)] [] (K, R, V) bc bs := by
    intro jj
    induction jj with
    | zero =>
      intro i bc bs hj q0 q1
      exfalso; omega
    | succ jj ih =>
      intro i bc bs hj q0 q1
      refine gX_iloadn dX12_isInText_4 rfl ?_
      refine gX_aloadn dX12_isInText_5 rfl ?_
      refine gX_gR 1 dX12_isInText_6 fdX12_7 rfl rfl hM.1 (mR1 hM) ?_
      refine gX_bipush dX12_isInText_9 (by decide) ⟨by decide, by decide⟩ ?_
      refine gX_iald dX12_isInText_11 (mA1 hM) (by omega) (by omega) ?_
      rw [hn]
      refine gX_icmpge (tgt := 45) dX12_isInText_12 (by decide) (fun w1 => ?_) (fun w1 => ?_)
      · refine gX_iloadn dX12_isInText_45 rfl ?_
        refine gX_iret dX12_isInText_46 (Or.inr ⟨rfl, b2i_01 _⟩) ?_
        rw [show i.toNat = n by omega]
        exact hQ
      · refine gX_iloadn dX12_isInText_15 rfl ?_
        refine gX_ifne (tgt := 33) dX12_isInText_16 (by decide) (fun w2 => ?_) (fun w2 => ?_)
        · refine gX_iconst dX12_isInText_33 ⟨by decide, by decide⟩ ?_
          refine gX_goto (tgt := 38) dX12_isInText_34 (by decide) ?_
          refine gX_istoren dX12_isInText_38 (show (2 : Nat) < 4 from by decide) (ls2 := [some (ga 775), some (gi sp), some (gi 1), some (gi i)]) rfl ?_
          refine gX_iinc dX12_isInText_39 rfl (show (3 : Nat) < 4 from by decide) ⟨by omega, by omega⟩ (ls2 := [some (ga 775), some (gi sp), some (gi 1), some (gi (i + 1))]) rfl ?_
          refine gX_goto (tgt := 4) dX12_isInText_42 (by decide) ?_
          have eb : (i + 1).toNat = i.toNat + 1 := by omega
          have en : ((i.toNat : Nat) : Int) = i := by omega
          have e9 : b2i (anyT V sp (i + 1).toNat) = 1 := by
            rw [eb]
            have e8 : anyT V sp (i.toNat + 1) = (anyT V sp i.toNat || decide (V 778 (400 + ((i.toNat : Nat) : Int)) = sp)) := rfl
            rw [e8, en]
            by_cases cb : V 778 (400 + i) = sp
            · rw [decide_eq_true cb, Bool.or_true]; rfl
            · rw [decide_eq_false cb, Bool.or_false, b2i_1 (show ¬ b2i (anyT V sp i.toNat) = 0 by first | assumption | exact absurd (by assumption) cb)]; rfl
          have z9 := fun bc bs => ih (i + 1) bc bs (by omega) (by omega) (by omega)
          rw [e9] at z9
          exact z9 _ _
        · refine gX_aloadn dX12_isInText_19 rfl ?_
          refine gX_gR 3 dX12_isInText_20 fdX12_16 rfl rfl hM.1 (mR3 hM) ?_
          refine gX_sipush dX12_isInText_23 (by decide) ⟨by decide, by decide⟩ ?_
          refine gX_iloadn dX12_isInText_26 rfl ?_
          refine gX_iadd dX12_isInText_27 ⟨by omega, by omega⟩ ?_
          refine gX_iald dX12_isInText_28 (mA3 hM) (by omega) (by omega) ?_
          refine gX_iloadn dX12_isInText_29 rfl ?_
          refine gX_icmpne (tgt := 37) dX12_isInText_30 (by decide) (fun w3 => ?_) (fun w3 => ?_)
          · refine gX_iconst dX12_isInText_37 ⟨by decide, by decide⟩ ?_
            refine gX_istoren dX12_isInText_38 (show (2 : Nat) < 4 from by decide) (ls2 := [some (ga 775), some (gi sp), some (gi 0), some (gi i)]) rfl ?_
            refine gX_iinc dX12_isInText_39 rfl (show (3 : Nat) < 4 from by decide) ⟨by omega, by omega⟩ (ls2 := [some (ga 775), some (gi sp), some (gi 0), some (gi (i + 1))]) rfl ?_
            refine gX_goto (tgt := 4) dX12_isInText_42 (by decide) ?_
            have eb : (i + 1).toNat = i.toNat + 1 := by omega
            have en : ((i.toNat : Nat) : Int) = i := by omega
            have e9 : b2i (anyT V sp (i + 1).toNat) = 0 := by
              rw [eb]
              have e8 : anyT V sp (i.toNat + 1) = (anyT V sp i.toNat || decide (V 778 (400 + ((i.toNat : Nat) : Int)) = sp)) := rfl
              rw [e8, en]
              by_cases cb : V 778 (400 + i) = sp
              · exact absurd cb (by assumption)
              · rw [decide_eq_false cb, Bool.or_false, b2i_0 (show b2i (anyT V sp i.toNat) = 0 by assumption)]; rfl
            have z9 := fun bc bs => ih (i + 1) bc bs (by omega) (by omega) (by omega)
            rw [e9] at z9
            exact z9 _ _
          · refine gX_iconst dX12_isInText_33 ⟨by decide, by decide⟩ ?_
            refine gX_goto (tgt := 38) dX12_isInText_34 (by decide) ?_
            refine gX_istoren dX12_isInText_38 (show (2 : Nat) < 4 from by decide) (ls2 := [some (ga 775), some (gi sp), some (gi 1), some (gi i)]) rfl ?_
            refine gX_iinc dX12_isInText_39 rfl (show (3 : Nat) < 4 from by decide) ⟨by omega, by omega⟩ (ls2 := [some (ga 775), some (gi sp), some (gi 1), some (gi (i + 1))]) rfl ?_
            refine gX_goto (tgt := 4) dX12_isInText_42 (by decide) ?_
            have eb : (i + 1).toNat = i.toNat + 1 := by omega
            have en : ((i.toNat : Nat) : Int) = i := by omega
            have e9 : b2i (anyT V sp (i + 1).toNat) = 1 := by
              rw [eb]
              have e8 : anyT V sp (i.toNat + 1) = (anyT V sp i.toNat || decide (V 778 (400 + ((i.toNat : Nat) : Int)) = sp)) := rfl
              rw [e8, en]
              by_cases cb : V 778 (400 + i) = sp
              · rw [decide_eq_true cb, Bool.or_true]; rfl
              · rw [decide_eq_false cb, Bool.or_false, b2i_1 (show ¬ b2i (anyT V sp i.toNat) = 0 by first | assumption | exact absurd (by assumption) cb)]; rfl
            have z9 := fun bc bs => ih (i + 1) bc bs (by omega) (by omega) (by omega)
            rw [e9] at z9
            exact z9 _ _
  refine gX_iconst dX12_isInText_0 ⟨by decide, by decide⟩ ?_
  refine gX_istoren dX12_isInText_1 (show (2 : Nat) < 4 from by decide) (ls2 := [some (ga 775), some (gi sp), some (gi 0), none]) rfl ?_
  refine gX_iconst dX12_isInText_2 ⟨by decide, by decide⟩ ?_
  refine gX_istoren dX12_isInText_3 (show (3 : Nat) < 4 from by decide) (ls2 := [some (ga 775), some (gi sp), some (gi 0), some (gi 0)]) rfl ?_
  exact lp (n + 1) 0 _ _ (by omega) (by omega) (by omega)
set_option maxRecDepth 4000 in
theorem m_leaveOut (hM : mdK K R) (hs : wkI V s) (f0 : 0 ≤ f) (m0 : 1 ≤ m) (fm : f + m ≤ s.1.length) (hQ : ∀ V', wkI V' (lvS f (f + m - 1) s) → wkF V V' → Q none (K, R, V')) : gC l E (d + 4) iX12_leaveOut [ga 775, gi f, gi m] (K, R, V) Q := by
  refine gC_of kX12_leaveOut (ls := [some (ga 775), some (gi f), some (gi m), none]) rfl (Nat.le_of_ble_eq_true rfl) ?_
  have h40 := hs.1.2.1
  have h20 := hs.1.2.2.2.2.1
  have hlx := len_cut (xs := s.1) f0 (show (0 : Int) ≤ m by omega) fm
  have lp2 : ∀ (jj : Nat) (i : Int) (V2 : Int → Int → Int) (H : List gG) (bc bs : Nat), (H.length : Int) - i < (jj : Int) → 0 ≤ i → i ≤ H.length → H.length = s.2.1.length → loI V2 (s.1.take f.toNat ++ s.1.drop (f + m).toNat) H → (∀ a, a ≠ 776 → a ≠ 777 → a ≠ 778 → a ≠ 785 → a ≠ 804 → V2 a = V a) → wkF V V2 → lvG f (f + m - 1) s.2.1.length 0 s.2.1 = lvH (H.length - i.toNat) i.toNat H → gX l E (gFm E (d + 4) iX12_leaveOut Q) 78 [some (ga 775), some (gi f), some (gi m), some (gi i)] [] (K, R, V2) bc bs := by
    intro jj
    induction jj with
    | zero =>
      intro i V2 H bc bs hj q0 q1 q2 q3 q4 q5 q6
      exfalso; omega
    | succ jj ih =>
      intro i V2 H bc bs hj q0 q1 q2 q3 q4 q5 q6
      refine gX_iloadn dX12_leaveOut_78 rfl ?_
      refine gX_aloadn dX12_leaveOut_79 rfl ?_
      refine gX_gR 4 dX12_leaveOut_80 fdX12_19 rfl rfl hM.1 (mR4 hM) ?_
      refine gX_bipush dX12_leaveOut_83 (by decide) ⟨by decide, by decide⟩ ?_
      refine gX_iald dX12_leaveOut_85 (mA4 hM) (by omega) (by omega) ?_
      rw [q3.1.2.2.2.1]
      refine gX_icmpge (tgt := 139) dX12_leaveOut_86 (by decide) (fun b1 => ?_) (fun b1 => ?_)
      · refine gX_vret dX12_leaveOut_139 rfl ?_
        have ei : H.length - i.toNat = 0 := by omega
        rw [ei] at q6
        have q6 : lvG f (f + m - 1) s.2.1.length 0 s.2.1 = H := q6
        refine hQ V2 ?_ q5
        have hwf := lvS_wf (f := f) (t := f + m - 1) hs.2.2.2.2.1 f0 (by omega) (by omega)
        have e9 : lvS f (f + m - 1) s = ((s.1.take f.toNat ++ s.1.drop (f + m).toNat), H, s.2.2.1, s.2.2.2) := by
          unfold lvS
          rw [q6, show f + m - 1 + 1 = f + m by omega]
        rw [e9] at hwf ⊢
        exact ⟨q3.1, q3.2.1, q3.2.2.1, ⟨hs.2.2.2.1.1, hs.2.2.2.1.2.1, fun j j0 j1 => by rw [q4 789 (by omega) (by omega) (by omega) (by omega) (by omega), q4 788 (by omega) (by omega) (by omega) (by omega) (by omega)]; exact hs.2.2.2.1.2.2 j j0 j1⟩, hwf.1, q3.2.2.2.2.1⟩
      · have hgl := q3.1.gl (g := i) (by omega) (by omega)
        have hwi := q3.2.2.2.1.at (g := i) (by omega) (by omega)
        have hgi := q3.2.2.1 i (by omega) (by omega)
        refine gX_aloadn dX12_leaveOut_89 rfl ?_
        refine gX_gR 45 dX12_leaveOut_90 fdX12_98 rfl rfl hM.1 (mR45 hM) ?_
        refine gX_iloadn dX12_leaveOut_93 rfl ?_
        refine gX_zald dX12_leaveOut_94 (mA45 hM) (by omega) (by omega) ?_
        rw [hgi.1]
        refine gX_ifne (tgt := 133) dX12_leaveOut_95 (by decide) (fun b2 => ?_) (fun b2 => ?_)
        · refine gX_iinc dX12_leaveOut_133 rfl (show (3 : Nat) < 4 from by decide) ⟨by omega, by omega⟩ (ls2 := [some (ga 775), some (gi f), some (gi m), some (gi (i + 1))]) rfl ?_
          refine gX_goto (tgt := 78) dX12_leaveOut_136 (by decide) ?_
          have e6 : lvH (H.length - i.toNat) i.toNat H = lvH (H.length - (i + 1).toNat) (i + 1).toNat (if onT (gq H i) = 1 ∧ (gq H i).2.2.2.1 < (gq H i).2.2.1 then awayG H i else H) := by
            rw [show H.length - i.toNat = (H.length - (i + 1).toNat) + 1 by omega, show (i + 1).toNat = i.toNat + 1 by omega]
            have en : ((i.toNat : Nat) : Int) = i := by omega
            show lvH _ _ (if onT (gq H ((i.toNat : Nat) : Int)) = 1 ∧ (gq H ((i.toNat : Nat) : Int)).2.2.2.1 < (gq H ((i.toNat : Nat) : Int)).2.2.1 then awayG H ((i.toNat : Nat) : Int) else H) = _
            rw [en]
          rw [e6] at q6
          have ec : ¬ (onT (gq H i) = 1 ∧ (gq H i).2.2.2.1 < (gq H i).2.2.1) := fun z => by
            have z1 := onT_1.mp z.1
            first
            | omega
            | (obtain ⟨j, j1, j2⟩ := anyBx (b2i_1 (by assumption)); have j2 := of_decide_eq_true j2; rw [← spTx V2] at j2; have j3 := ((q3.2.1.1 i q0 (by omega) z1.1).2 (-1) j (Or.inl rfl) (by omega) (by rw [rwL_n]; omega)).mp j2; have j4 := j3.2; omega)
          rw [if_neg ec] at q6
          exact ih (i + 1) _ _ _ _ (by omega) (by omega) (by omega) q2 q3 q4 q5 q6
        · refine gX_aloadn dX12_leaveOut_98 rfl ?_
          refine gX_gR 6 dX12_leaveOut_99 fdX12_25 rfl rfl hM.1 (mR6 hM) ?_
          refine gX_sipush dX12_leaveOut_102 (by decide) ⟨by decide, by decide⟩ ?_
          refine gX_iloadn dX12_leaveOut_105 rfl ?_
          refine gX_iadd dX12_leaveOut_106 ⟨by omega, by omega⟩ ?_
          refine gX_iald dX12_leaveOut_107 (mA6 hM) (by omega) (by omega) ?_
          rw [show V2 781 (200 + i) = (gq H i).2.1 from hgl.2.1]
          refine gX_ifge (tgt := 133) dX12_leaveOut_108 (by decide) (fun b3 => ?_) (fun b3 => ?_)
          · refine gX_iinc dX12_leaveOut_133 rfl (show (3 : Nat) < 4 from by decide) ⟨by omega, by omega⟩ (ls2 := [some (ga 775), some (gi f), some (gi m), some (gi (i + 1))]) rfl ?_
            refine gX_goto (tgt := 78) dX12_leaveOut_136 (by decide) ?_
            have e6 : lvH (H.length - i.toNat) i.toNat H = lvH (H.length - (i + 1).toNat) (i + 1).toNat (if onT (gq H i) = 1 ∧ (gq H i).2.2.2.1 < (gq H i).2.2.1 then awayG H i else H) := by
              rw [show H.length - i.toNat = (H.length - (i + 1).toNat) + 1 by omega, show (i + 1).toNat = i.toNat + 1 by omega]
              have en : ((i.toNat : Nat) : Int) = i := by omega
              show lvH _ _ (if onT (gq H ((i.toNat : Nat) : Int)) = 1 ∧ (gq H ((i.toNat : Nat) : Int)).2.2.2.1 < (gq H ((i.toNat : Nat) : Int)).2.2.1 then awayG H ((i.toNat : Nat) : Int) else H) = _
              rw [en]
            rw [e6] at q6
            have ec : ¬ (onT (gq H i) = 1 ∧ (gq H i).2.2.2.1 < (gq H i).2.2.1) := fun z => by
              have z1 := onT_1.mp z.1
              first
              | omega
              | (obtain ⟨j, j1, j2⟩ := anyBx (b2i_1 (by assumption)); have j2 := of_decide_eq_true j2; rw [← spTx V2] at j2; have j3 := ((q3.2.1.1 i q0 (by omega) z1.1).2 (-1) j (Or.inl rfl) (by omega) (by rw [rwL_n]; omega)).mp j2; have j4 := j3.2; omega)
            rw [if_neg ec] at q6
            exact ih (i + 1) _ _ _ _ (by omega) (by omega) (by omega) q2 q3 q4 q5 q6
          · refine gX_aloadn dX12_leaveOut_111 rfl ?_
            refine gX_aloadn dX12_leaveOut_112 rfl ?_
            refine gX_gR 7 dX12_leaveOut_113 fdX12_28 rfl rfl hM.1 (mR7 hM) ?_
            refine gX_sipush dX12_leaveOut_116 (by decide) ⟨by decide, by decide⟩ ?_
            refine gX_iloadn dX12_leaveOut_119 rfl ?_
            refine gX_iadd dX12_leaveOut_120 ⟨by omega, by omega⟩ ?_
            refine gX_iald dX12_leaveOut_121 (mA7 hM) (by omega) (by omega) ?_
            refine gX_virt (J := iX12_isInText) (av := [gi (V2 782 (200 + i))]) (a := 775) (st := []) dX12_leaveOut_122 lkX12_349 kX12_isInText vX12_isInText (gFit_m (by decide)) hM.1 rfl rfl (Nat.le_of_ble_eq_true rfl) (Nat.zero_le _) (Nat.zero_le _) rfl ?_
            refine m_isInText (n := (s.1.take f.toNat ++ s.1.drop (f + m).toNat).length) hM q3.1.1 (by omega) ?_
            show gX l E _ 125 [some (ga 775), some (gi f), some (gi m), some (gi i)] [gi (b2i (anyT V2 (V2 782 (200 + i)) (s.1.take f.toNat ++ s.1.drop (f + m).toNat).length))] (K, R, V2) _ _
            refine gX_ifne (tgt := 133) dX12_leaveOut_125 (by decide) (fun b4 => ?_) (fun b4 => ?_)
            · refine gX_iinc dX12_leaveOut_133 rfl (show (3 : Nat) < 4 from by decide) ⟨by omega, by omega⟩ (ls2 := [some (ga 775), some (gi f), some (gi m), some (gi (i + 1))]) rfl ?_
              refine gX_goto (tgt := 78) dX12_leaveOut_136 (by decide) ?_
              have e6 : lvH (H.length - i.toNat) i.toNat H = lvH (H.length - (i + 1).toNat) (i + 1).toNat (if onT (gq H i) = 1 ∧ (gq H i).2.2.2.1 < (gq H i).2.2.1 then awayG H i else H) := by
                rw [show H.length - i.toNat = (H.length - (i + 1).toNat) + 1 by omega, show (i + 1).toNat = i.toNat + 1 by omega]
                have en : ((i.toNat : Nat) : Int) = i := by omega
                show lvH _ _ (if onT (gq H ((i.toNat : Nat) : Int)) = 1 ∧ (gq H ((i.toNat : Nat) : Int)).2.2.2.1 < (gq H ((i.toNat : Nat) : Int)).2.2.1 then awayG H ((i.toNat : Nat) : Int) else H) = _
                rw [en]
              rw [e6] at q6
              have ec : ¬ (onT (gq H i) = 1 ∧ (gq H i).2.2.2.1 < (gq H i).2.2.1) := fun z => by
                have z1 := onT_1.mp z.1
                first
                | omega
                | (obtain ⟨j, j1, j2⟩ := anyBx (b2i_1 (by assumption)); have j2 := of_decide_eq_true j2; rw [← spTx V2] at j2; have j3 := ((q3.2.1.1 i q0 (by omega) z1.1).2 (-1) j (Or.inl rfl) (by omega) (by rw [rwL_n]; omega)).mp j2; have j4 := j3.2; omega)
              rw [if_neg ec] at q6
              exact ih (i + 1) _ _ _ _ (by omega) (by omega) (by omega) q2 q3 q4 q5 q6
            · have eo : onT (gq H i) = 1 := onT_1.mpr ⟨by omega, by omega⟩
              have ec : onT (gq H i) = 1 ∧ (gq H i).2.2.2.1 < (gq H i).2.2.1 := ⟨eo, by
                have hb9 := q3.2.2.2.2.2 i q0 (by omega) eo
                refine Int.not_le.mp (fun z => ?_)
                have j3 := ((q3.2.1.1 i q0 (by omega) (onT_1.mp eo).1).2 (-1) (gq H i).2.2.1 (Or.inl rfl) hb9.1 (by rw [rwL_n]; omega)).mpr ⟨(onT_1.mp eo).2.symm, by omega, z⟩
                rw [spTx] at j3
                have j4 := anyB_f (k := (gq H i).2.2.1.toNat) (b2i_0 (by assumption)) (by omega)
                have j5 := of_decide_eq_false j4
                rw [Int.toNat_of_nonneg hb9.1] at j5
                exact j5 j3⟩
              refine gX_aloadn dX12_leaveOut_128 rfl ?_
              refine gX_iloadn dX12_leaveOut_129 rfl ?_
              refine gX_virt (J := iX12_goes) (av := [gi i]) (a := 775) (st := []) dX12_leaveOut_130 lkX12_353 kX12_goes vX12_goes (gFit_m (by decide)) hM.1 rfl rfl (Nat.le_of_ble_eq_true rfl) (Nat.zero_le _) (Nat.zero_le _) rfl ?_
              refine m_goes hM q3.2.2.2.1 q3.1 q3.2.1 q3.2.2.1 q0 (by omega) (onT_1.mp eo).1 (Or.inl (onT_1.mp eo).2) (fun V3 hb3 hr3 hg3 hf3 => ?_)
              show gX l E _ 133 [some (ga 775), some (gi f), some (gi m), some (gi i)] [] (K, R, V3) _ _
              refine gX_iinc dX12_leaveOut_133 rfl (show (3 : Nat) < 4 from by decide) ⟨by omega, by omega⟩ (ls2 := [some (ga 775), some (gi f), some (gi m), some (gi (i + 1))]) rfl ?_
              refine gX_goto (tgt := 78) dX12_leaveOut_136 (by decide) ?_
              have e6 : lvH (H.length - i.toNat) i.toNat H = lvH (H.length - (i + 1).toNat) (i + 1).toNat (if onT (gq H i) = 1 ∧ (gq H i).2.2.2.1 < (gq H i).2.2.1 then awayG H i else H) := by
                rw [show H.length - i.toNat = (H.length - (i + 1).toNat) + 1 by omega, show (i + 1).toNat = i.toNat + 1 by omega]
                have en : ((i.toNat : Nat) : Int) = i := by omega
                show lvH _ _ (if onT (gq H ((i.toNat : Nat) : Int)) = 1 ∧ (gq H ((i.toNat : Nat) : Int)).2.2.2.1 < (gq H ((i.toNat : Nat) : Int)).2.2.1 then awayG H ((i.toNat : Nat) : Int) else H) = _
                rw [en]
              rw [e6] at q6
              rw [if_pos ec] at q6
              have hl9 := awLen q3.2.2.2.1 q0 (show i < (H.length : Int) by omega)
              rw [← hl9] at q6
              exact ih (i + 1) _ (awayG H i) _ _ (by omega) (by omega) (by omega) (hl9.trans q2) ⟨hb3, hr3, hg3, q3.2.2.2.1.away q0 (by omega), q3.2.2.2.2.1.away q3.2.2.2.1 q0 (by omega), q3.2.2.2.2.2.away q3.2.2.2.1 q0 (by omega)⟩ (fun a a1 a2 a3 a4 a5 => (hf3.1 a a3 a4 a5).trans (q4 a a1 a2 a3 a4 a5)) (q5.trans hf3.wk) q6
  have lp : ∀ (jj : Nat) (i : Int) (V1 : Int → Int → Int) (bc bs : Nat), (s.1.length : Int) - m - i < (jj : Int) → f ≤ i → i + m ≤ s.1.length → ctF V V1 → V1 776 = V 776 → (∀ j : Int, 0 ≤ j → j < 40 → V1 777 (400 + j) = if f ≤ j ∧ j < i then V 777 (400 + (j + m)) else V 777 (400 + j)) → (∀ j : Int, 0 ≤ j → j < 40 → V1 778 (400 + j) = if f ≤ j ∧ j < i then V 778 (400 + (j + m)) else V 778 (400 + j)) → gX l E (gFm E (d + 4) iX12_leaveOut Q) 2 [some (ga 775), some (gi f), some (gi m), some (gi i)] [] (K, R, V1) bc bs := by
    intro jj
    induction jj with
    | zero =>
      intro i V1 bc bs hj q0 q1 q2 q3 q4 q5
      exfalso; omega
    | succ jj ih =>
      intro i V1 bc bs hj q0 q1 q2 q3 q4 q5
      refine gX_iloadn dX12_leaveOut_2 rfl ?_
      refine gX_iloadn dX12_leaveOut_3 rfl ?_
      refine gX_iadd dX12_leaveOut_4 ⟨by omega, by omega⟩ ?_
      refine gX_aloadn dX12_leaveOut_5 rfl ?_
      refine gX_gR 1 dX12_leaveOut_6 fdX12_7 rfl rfl hM.1 (mR1 hM) ?_
      refine gX_bipush dX12_leaveOut_9 (by decide) ⟨by decide, by decide⟩ ?_
      refine gX_iald dX12_leaveOut_11 (mA1 hM) (by omega) (by omega) ?_
      rw [q3, hs.1.1]
      refine gX_icmpge (tgt := 65) dX12_leaveOut_12 (by decide) (fun c1 => ?_) (fun c1 => ?_)
      · refine gX_aloadn dX12_leaveOut_65 rfl ?_
        refine gX_gR 1 dX12_leaveOut_66 fdX12_7 rfl rfl hM.1 (mR1 hM) ?_
        refine gX_bipush dX12_leaveOut_69 (by decide) ⟨by decide, by decide⟩ ?_
        refine gX_dup2 dX12_leaveOut_71 rfl rfl ?_
        refine gX_iald dX12_leaveOut_72 (mA1 hM) (by omega) (by omega) ?_
        rw [q3, hs.1.1]
        refine gX_iloadn dX12_leaveOut_73 rfl ?_
        refine gX_isub dX12_leaveOut_74 ⟨by omega, by omega⟩ ?_
        refine gX_iast dX12_leaveOut_75 (mA1 hM) (by omega) (by omega) ?_
        refine gX_iconst dX12_leaveOut_76 ⟨by decide, by decide⟩ ?_
        refine gX_istoren dX12_leaveOut_77 (show (3 : Nat) < 4 from by decide) (ls2 := [some (ga 775), some (gi f), some (gi m), some (gi 0)]) rfl ?_
        have ei : i = s.1.length - m := by omega
        subst ei
        have hct : ctF V (gup V1 776 10 (s.1.length - m)) := q2.u6
        have hmq : ∀ k : Int, 0 ≤ k → k < s.2.1.length → gq (s.2.1.map (lvQ1 f (f + m - 1))) k = lvQ1 f (f + m - 1) (gq s.2.1 k) := fun k k0 k1 => gq_map1 (by omega)
        have heq : ∀ j : Int, (gq (s.2.1.map (lvQ1 f (f + m - 1))) j).2.1 = (gq s.2.1 j).2.1 ∧ (gq (s.2.1.map (lvQ1 f (f + m - 1))) j).2.2.2.2 = (gq s.2.1 j).2.2.2.2 := fun j => by
          by_cases c : j.toNat < s.2.1.length
          · rw [gq_map1 c]; have := lvQ1_f f (f + m - 1) (gq s.2.1 j); exact ⟨this.2.1, this.2.2.1⟩
          · rw [gqO (by rw [List.length_map]; omega), gqO (by omega)]; exact ⟨rfl, rfl⟩
        refine lp2 (s.2.1.length + 1) 0 _ (s.2.1.map (lvQ1 f (f + m - 1))) _ _ (by rw [List.length_map]; omega) (by omega) (by omega) (List.length_map ..) ⟨?_, ?_, ?_, ?_, ?_, ?_⟩ (fun a a1 a2 a3 _ _ => hct.1 a a1 a2 a3) hct.wk (by rw [List.length_map]; exact (lvH_lvG (by omega) hs.2.2.2.2.1.2.2.1 hs.2.2.2.2.1.1).symm)
        · refine hs.1.txt (List.length_map ..) (fun k k0 k1 => ?_) (by rw [hlx]; exact gup_s) (by omega) (fun j j0 j1 => ?_) (fun a a1 a2 a3 _ => hct.1 a a1 a2 a3)
          · rw [hmq k k0 k1]; have := lvQ1_f f (f + m - 1) (gq s.2.1 k); exact ⟨this.1, this.2.1, by rw [this.2.2.1]⟩
          · rw [gup_ne (by omega), q4 j j0 (by omega), lat_cut f0 (by omega) (by omega) j0]
            by_cases c : j < f
            · rw [if_pos c, if_neg (by omega)]; exact hs.1.wd (by omega) (by omega)
            · rw [if_neg c, if_pos ⟨by omega, by omega⟩]; exact hs.1.wd (by omega) (by omega)
        · refine hs.2.1.cut hs.2.2.2.2.1.1 f0 m0 fm (hct.1 782 (by omega) (by omega) (by omega)) (hct.1 785 (by omega) (by omega) (by omega)) (fun j j0 j1 => ?_)
          rw [gup_ne (by omega), q5 j j0 (by omega)]
          by_cases c : j < f
          · rw [if_pos c, if_neg (by omega)]
          · rw [if_neg c, if_pos ⟨by omega, by omega⟩]
        · intro k k0 k1
          rw [List.length_map] at k1
          rw [hct.1 804 (by omega) (by omega) (by omega), hmq k k0 k1, (lvQ1_f f (f + m - 1) (gq s.2.1 k)).2.2.1]
          exact hs.2.2.1 k k0 k1
        · exact hs.2.2.2.2.1.2.2.1.eqh (List.length_map ..) (fun j => (heq j).1)
        · exact hs.2.2.2.2.2.eqh (List.length_map ..) heq
        · intro k k0 k1 ho
          rw [List.length_map] at k1
          rw [hmq k k0 k1] at ho ⊢
          rw [(lvQ1_f f (f + m - 1) (gq s.2.1 k)).2.2.2] at ho
          have b := hs.2.2.2.2.1.1.1 _ (gqM k0 k1) ho
          unfold lvQ1
          rw [if_pos ho]
          show 0 ≤ plc (gq s.2.1 k).2.2.1 f (f + m - 1) ∧ plc ((gq s.2.1 k).2.2.2.1 + 1) f (f + m - 1) - 1 < _
          have c1 := plc_cs (gq s.2.1 k).2.2.1 f (f + m - 1)
          have c2 := plc_cs ((gq s.2.1 k).2.2.2.1 + 1) f (f + m - 1)
          omega
      · refine gX_aloadn dX12_leaveOut_15 rfl ?_
        refine gX_gR 2 dX12_leaveOut_16 fdX12_13 rfl rfl hM.1 (mR2 hM) ?_
        refine gX_sipush dX12_leaveOut_19 (by decide) ⟨by decide, by decide⟩ ?_
        refine gX_iloadn dX12_leaveOut_22 rfl ?_
        refine gX_iadd dX12_leaveOut_23 ⟨by omega, by omega⟩ ?_
        refine gX_aloadn dX12_leaveOut_24 rfl ?_
        refine gX_gR 2 dX12_leaveOut_25 fdX12_13 rfl rfl hM.1 (mR2 hM) ?_
        refine gX_sipush dX12_leaveOut_28 (by decide) ⟨by decide, by decide⟩ ?_
        refine gX_iloadn dX12_leaveOut_31 rfl ?_
        refine gX_iadd dX12_leaveOut_32 ⟨by omega, by omega⟩ ?_
        refine gX_iloadn dX12_leaveOut_33 rfl ?_
        refine gX_iadd dX12_leaveOut_34 ⟨by omega, by omega⟩ ?_
        refine gX_iald dX12_leaveOut_35 (mA2 hM) (by omega) (by omega) ?_
        refine gX_iast dX12_leaveOut_36 (mA2 hM) (by omega) (by omega) ?_
        refine gX_aloadn dX12_leaveOut_37 rfl ?_
        refine gX_gR 3 dX12_leaveOut_38 fdX12_16 rfl rfl hM.1 (mR3 hM) ?_
        refine gX_sipush dX12_leaveOut_41 (by decide) ⟨by decide, by decide⟩ ?_
        refine gX_iloadn dX12_leaveOut_44 rfl ?_
        refine gX_iadd dX12_leaveOut_45 ⟨by omega, by omega⟩ ?_
        refine gX_aloadn dX12_leaveOut_46 rfl ?_
        refine gX_gR 3 dX12_leaveOut_47 fdX12_16 rfl rfl hM.1 (mR3 hM) ?_
        refine gX_sipush dX12_leaveOut_50 (by decide) ⟨by decide, by decide⟩ ?_
        refine gX_iloadn dX12_leaveOut_53 rfl ?_
        refine gX_iadd dX12_leaveOut_54 ⟨by omega, by omega⟩ ?_
        refine gX_iloadn dX12_leaveOut_55 rfl ?_
        refine gX_iadd dX12_leaveOut_56 ⟨by omega, by omega⟩ ?_
        refine gX_iald dX12_leaveOut_57 (mA3 hM) (by omega) (by omega) ?_
        refine gX_iast dX12_leaveOut_58 (mA3 hM) (by omega) (by omega) ?_
        refine gX_iinc dX12_leaveOut_59 rfl (show (3 : Nat) < 4 from by decide) ⟨by omega, by omega⟩ (ls2 := [some (ga 775), some (gi f), some (gi m), some (gi (i + 1))]) rfl ?_
        refine gX_goto (tgt := 2) dX12_leaveOut_62 (by decide) ?_
        refine ih (i + 1) _ _ _ (by omega) (by omega) (by omega) ((q2.u7 (by omega)).u8 (by omega)) ?_ ?_ ?_
        · rw [gup_ne (by omega), gup_ne (by omega)]; exact q3
        · intro j j0 j1
          rw [gup_ne (by omega)]
          by_cases c : j = i
          · subst c; rw [if_pos ⟨by omega, by omega⟩]; refine gup_s.trans ?_; rw [show 400 + j + m = 400 + (j + m) by omega, q4 (j + m) (by omega) (by omega), if_neg (by omega)]
          · rw [gup_c (Or.inr (by omega)), q4 j j0 j1]
            by_cases c2 : f ≤ j ∧ j < i
            · rw [if_pos c2, if_pos ⟨c2.1, by omega⟩]
            · rw [if_neg c2, if_neg (by omega)]
        · intro j j0 j1
          by_cases c : j = i
          · subst c; rw [if_pos ⟨by omega, by omega⟩]; refine gup_s.trans ?_; rw [gup_ne (by omega), show 400 + j + m = 400 + (j + m) by omega, q5 (j + m) (by omega) (by omega), if_neg (by omega)]
          · rw [gup_c (Or.inr (by omega)), gup_ne (by omega), q5 j j0 j1]
            by_cases c2 : f ≤ j ∧ j < i
            · rw [if_pos c2, if_pos ⟨c2.1, by omega⟩]
            · rw [if_neg c2, if_neg (by omega)]
  refine gX_iloadn dX12_leaveOut_0 rfl ?_
  refine gX_istoren dX12_leaveOut_1 (show (3 : Nat) < 4 from by decide) (ls2 := [some (ga 775), some (gi f), some (gi m), some (gi f)]) rfl ?_
  exact lp (s.1.length + 1) f V _ _ (by omega) (by omega) (by omega) ctF.rf rfl (fun j j0 j1 => by rw [if_neg (by omega)]) (fun j j0 j1 => by rw [if_neg (by omega)])
set_option maxRecDepth 4000 in
theorem m_doSkip (hM : mdK K R) (hh : 0 ≤ h ∧ h < 4) (hr : rhA V h q) (hi : hInv q) (hs : wkI V s) (hz : lat s.2.2.1 1 = 0) (hc0 : cBd s.2.2.1 2000) (ht0 : cBd s.2.2.2 2000) (hQ : ∀ V', wkI V' (wr2 q.2.2.2.1 q.2.2.2.2.1 s) → wkF V V' → chK 1 s (wr2 q.2.2.2.1 q.2.2.2.2.1 s) → Q none (K, R, V')) : gC l E (d + 5) iX12_doSkip [ga 775, gi h] (K, R, V) Q := by
  refine gC_of kX12_doSkip (ls := [some (ga 775), some (gi h), none, none, none, none, none]) rfl (Nat.le_of_ble_eq_true rfl) ?_
  have h40 := hs.1.2.1
  have h20 := hs.1.2.2.2.2.1
  have hm := hr.2.2.2.1 1 (by omega) (by omega)
  have hmb := hi.2.2.2.2.1 1
  have hrb := hi.2.2.2.2.2
  have lp : ∀ (jj : Nat) (i : Int) (j5 : Option gV) (j6 : Option gV) (V1 : Int → Int → Int) (s1 : cS) (n : Nat) (bc bs : Nat), (s1.1.length : Int) - i < (jj : Int) → 0 ≤ i → i ≤ s1.1.length → wkI V1 s1 → wkF V V1 → (s1.1.length : Int) - i ≤ n → cBd s1.2.2.1 (2000 + 40 - (s1.1.length - i)) → cBd s1.2.2.2 (2000 + 40 - (s1.1.length - i)) → chK 1 s s1 → (lat q.2.2.2.1 1 = -1 → s1 = s) → (lat q.2.2.2.1 1 ≠ -1 → skS (q.2.2.2.2.1) (lat q.2.2.2.1 1) 40 0 s = skS (q.2.2.2.2.1) (lat q.2.2.2.1 1) n i s1) → gX l E (gFm E (d + 5) iX12_doSkip Q) 17 [some (ga 775), some (gi h), some (gi (lat q.2.2.2.1 1)), some (gi (lat s1.2.2.1 1)), some (gi i), j5, j6] [] (K, R, V1) bc bs := by
    intro jj
    induction jj with
    | zero =>
      intro i j5 j6 V1 s1 n bc bs hj q0 q1 q2 q3 q4 q5 q6 q7 q8 q9
      exfalso; omega
    | succ jj ih =>
      intro i j5 j6 V1 s1 n bc bs hj q0 q1 q2 q3 q4 q5 q6 q7 q8 q9
      refine gX_iloadn dX12_doSkip_17 rfl ?_
      refine gX_ifle (tgt := 159) dX12_doSkip_18 (by decide) (fun b1 => ?_) (fun b1 => ?_)
      · refine gX_vret dX12_doSkip_159 rfl ?_
        have ew : wr2 q.2.2.2.1 (q.2.2.2.2.1) s = s1 := by
          unfold wr2
          by_cases z : lat q.2.2.2.1 1 = -1
          · rw [if_pos z, q8 z]
          · rw [if_neg z, q9 z]
            cases n with
            | zero => rfl
            | succ n => show (if i < s1.1.length then _ else s1) = s1; rw [if_neg (by omega)]
        rw [ew] at hQ
        exact hQ V1 q2 q3 q7
      · refine gX_iload dX12_doSkip_21 rfl ?_
        refine gX_aloadn dX12_doSkip_23 rfl ?_
        refine gX_gR 1 dX12_doSkip_24 fdX12_7 rfl rfl hM.1 (mR1 hM) ?_
        refine gX_bipush dX12_doSkip_27 (by decide) ⟨by decide, by decide⟩ ?_
        refine gX_iald dX12_doSkip_29 (mA1 hM) (by omega) (by omega) ?_
        rw [q2.1.1]
        refine gX_icmpge (tgt := 159) dX12_doSkip_30 (by decide) (fun b2 => ?_) (fun b2 => ?_)
        · refine gX_vret dX12_doSkip_159 rfl ?_
          have ew : wr2 q.2.2.2.1 (q.2.2.2.2.1) s = s1 := by
            unfold wr2
            by_cases z : lat q.2.2.2.1 1 = -1
            · rw [if_pos z, q8 z]
            · rw [if_neg z, q9 z]
              cases n with
              | zero => rfl
              | succ n => show (if i < s1.1.length then _ else s1) = s1; rw [if_neg (by omega)]
          rw [ew] at hQ
          exact hQ V1 q2 q3 q7
        · have hx40 := q2.1.2.1
          have hch := q5.2 1 (by omega) (by omega)
          have hxb := nxtL_in s1.1 i (q.2.2.2.2.1)
          have hrc := (hr.wk q3).2.2.2.2.1
          refine gX_iconst dX12_doSkip_33 ⟨by decide, by decide⟩ ?_
          refine gX_istore dX12_doSkip_34 (show (5 : Nat) < 7 from by decide) (ls2 := [some (ga 775), some (gi h), some (gi (lat q.2.2.2.1 1)), some (gi (lat s1.2.2.1 1)), some (gi i), some (gi (-1)), j6]) rfl ?_
          refine gX_iload dX12_doSkip_36 rfl ?_
          refine gX_iconst dX12_doSkip_38 ⟨by decide, by decide⟩ ?_
          refine gX_iadd dX12_doSkip_39 ⟨by omega, by omega⟩ ?_
          refine gX_istore dX12_doSkip_40 (show (6 : Nat) < 7 from by decide) (ls2 := [some (ga 775), some (gi h), some (gi (lat q.2.2.2.1 1)), some (gi (lat s1.2.2.1 1)), some (gi i), some (gi (-1)), some (gi (i + 1))]) rfl ?_
          have fin : ∀ (j6 : Option gV) (bc bs : Nat), gX l E (gFm E (d + 5) iX12_doSkip Q) 112 [some (ga 775), some (gi h), some (gi (lat q.2.2.2.1 1)), some (gi (lat s1.2.2.1 1)), some (gi i), some (gi (nxtL s1.1 i (q.2.2.2.2.1))), j6] [] (K, R, V1) bc bs := by
            intro j6 bc bs
            refine gX_iconst dX12_doSkip_112 ⟨by decide, by decide⟩ ?_
            refine gX_istore dX12_doSkip_113 (show (6 : Nat) < 7 from by decide) (ls2 := [some (ga 775), some (gi h), some (gi (lat q.2.2.2.1 1)), some (gi (lat s1.2.2.1 1)), some (gi i), some (gi (nxtL s1.1 i (q.2.2.2.2.1))), some (gi 0)]) rfl ?_
            refine gX_iload dX12_doSkip_115 rfl ?_
            refine gX_iflt (tgt := 132) dX12_doSkip_117 (by decide) (fun f1 => ?_) (fun f1 => ?_)
            · refine gX_iload dX12_doSkip_132 rfl ?_
              refine gX_ifeq (tgt := 153) dX12_doSkip_134 (by decide) (fun f2 => ?_) (fun f2 => by exfalso; omega)
              refine gX_iinc dX12_doSkip_153 rfl (show (4 : Nat) < 7 from by decide) ⟨by omega, by omega⟩ (ls2 := [some (ga 775), some (gi h), some (gi (lat q.2.2.2.1 1)), some (gi (lat s1.2.2.1 1)), some (gi (i + 1)), some (gi (nxtL s1.1 i (q.2.2.2.2.1))), some (gi 0)]) rfl ?_
              refine gX_goto (tgt := 17) dX12_doSkip_156 (by decide) ?_
              have e7 : skS (q.2.2.2.2.1) (lat q.2.2.2.1 1) n i s1 = skS (q.2.2.2.2.1) (lat q.2.2.2.1 1) ((n - 1) + 1) i s1 := by rw [show n - 1 + 1 = n by omega]
              have e6 : skS (q.2.2.2.2.1) (lat q.2.2.2.1 1) ((n - 1) + 1) i s1 = if i < s1.1.length then (if nxtL s1.1 i (q.2.2.2.2.1) = -1 then skS (q.2.2.2.2.1) (lat q.2.2.2.1 1) (n - 1) (i + 1) s1 else if tkn (lat s1.2.2.1 1 + 1) (lat q.2.2.2.1 1) = 1 then skS (q.2.2.2.2.1) (lat q.2.2.2.1 1) (n - 1) i (lvS (i + 1) (nxtL s1.1 i (q.2.2.2.2.1)) (tcS 1 (lat q.2.2.2.1 1) s1)) else skS (q.2.2.2.2.1) (lat q.2.2.2.1 1) (n - 1) (i + 1) (tcS 1 (lat q.2.2.2.1 1) s1)) else s1 := rfl
              rw [e7, e6, if_pos (by omega)] at q9
              rw [if_pos (by omega)] at q9
              exact ih (i + 1) _ _ _ s1 (n - 1) _ _ (by omega) (by omega) (by omega) q2 q3 (by omega) (q5.up (by omega)) (q6.up (by omega)) q7 (fun z => by omega) q9
            · refine gX_iinc dX12_doSkip_120 rfl (show (3 : Nat) < 7 from by decide) ⟨by omega, by omega⟩ (ls2 := [some (ga 775), some (gi h), some (gi (lat q.2.2.2.1 1)), some (gi ((lat s1.2.2.1 1) + 1)), some (gi i), some (gi (nxtL s1.1 i (q.2.2.2.2.1))), some (gi 0)]) rfl ?_
              refine gX_aloadn dX12_doSkip_123 rfl ?_
              refine gX_iconst dX12_doSkip_124 ⟨by decide, by decide⟩ ?_
              refine gX_iloadn dX12_doSkip_125 rfl ?_
              refine gX_iloadn dX12_doSkip_126 rfl ?_
              refine gX_virt (J := iX12_isTaken) (av := [gi 1, gi ((lat s1.2.2.1 1) + 1), gi (lat q.2.2.2.1 1)]) (a := 775) (st := []) dX12_doSkip_127 lkX12_342 kX12_isTaken vX12_isTaken (gFit_m (by decide)) hM.1 rfl rfl (Nat.le_of_ble_eq_true rfl) (Nat.zero_le _) (Nat.zero_le _) rfl ?_
              refine m_isTakenW hM q2 (by omega) (by omega) (by omega) (by omega) (q5.up (by omega)) (q6.up (by omega)) (fun V2 hw2 hf2 => ?_)
              show gX l E _ 130 [some (ga 775), some (gi h), some (gi (lat q.2.2.2.1 1)), some (gi ((lat s1.2.2.1 1) + 1)), some (gi i), some (gi (nxtL s1.1 i (q.2.2.2.2.1))), some (gi 0)] [gi (tkn (lat s1.2.2.1 1 + 1) (lat q.2.2.2.1 1))] (K, R, V2) _ _
              refine gX_istore dX12_doSkip_130 (show (6 : Nat) < 7 from by decide) (ls2 := [some (ga 775), some (gi h), some (gi (lat q.2.2.2.1 1)), some (gi ((lat s1.2.2.1 1) + 1)), some (gi i), some (gi (nxtL s1.1 i (q.2.2.2.2.1))), some (gi (tkn (lat s1.2.2.1 1 + 1) (lat q.2.2.2.1 1)))]) rfl ?_
              refine gX_iload dX12_doSkip_132 rfl ?_
              refine gX_ifeq (tgt := 153) dX12_doSkip_134 (by decide) (fun f3 => ?_) (fun f3 => ?_)
              · refine gX_iinc dX12_doSkip_153 rfl (show (4 : Nat) < 7 from by decide) ⟨by omega, by omega⟩ (ls2 := [some (ga 775), some (gi h), some (gi (lat q.2.2.2.1 1)), some (gi ((lat s1.2.2.1 1) + 1)), some (gi (i + 1)), some (gi (nxtL s1.1 i (q.2.2.2.2.1))), some (gi (tkn (lat s1.2.2.1 1 + 1) (lat q.2.2.2.1 1)))]) rfl ?_
                refine gX_goto (tgt := 17) dX12_doSkip_156 (by decide) ?_
                have e7 : skS (q.2.2.2.2.1) (lat q.2.2.2.1 1) n i s1 = skS (q.2.2.2.2.1) (lat q.2.2.2.1 1) ((n - 1) + 1) i s1 := by rw [show n - 1 + 1 = n by omega]
                have e6 : skS (q.2.2.2.2.1) (lat q.2.2.2.1 1) ((n - 1) + 1) i s1 = if i < s1.1.length then (if nxtL s1.1 i (q.2.2.2.2.1) = -1 then skS (q.2.2.2.2.1) (lat q.2.2.2.1 1) (n - 1) (i + 1) s1 else if tkn (lat s1.2.2.1 1 + 1) (lat q.2.2.2.1 1) = 1 then skS (q.2.2.2.2.1) (lat q.2.2.2.1 1) (n - 1) i (lvS (i + 1) (nxtL s1.1 i (q.2.2.2.2.1)) (tcS 1 (lat q.2.2.2.1 1) s1)) else skS (q.2.2.2.2.1) (lat q.2.2.2.1 1) (n - 1) (i + 1) (tcS 1 (lat q.2.2.2.1 1) s1)) else s1 := rfl
                rw [e7, e6, if_pos (by omega)] at q9
                rw [if_neg (by omega)] at q9
                have et := tkn_01 (lat s1.2.2.1 1 + 1) (lat q.2.2.2.1 1)
                have el9 : lat s1.2.2.1 1 + 1 = lat (tcS 1 (lat q.2.2.2.1 1) s1).2.2.1 1 := (bump_at (by omega) (by rw [q2.2.2.2.1.1]; omega)).symm
                rw [el9]
                have hc9 := tcS_c (m := lat q.2.2.2.1 1) q5 (h := 1) (by omega) (by omega)
                have ht9 := tcS_t (m := lat q.2.2.2.1 1) q6 (h := 1) (by omega) (by omega)
                exact ih (i + 1) _ _ _ (tcS 1 (lat q.2.2.2.1 1) s1) (n - 1) _ _ (by show (s1.1.length : Int) - _ < _; omega) (by omega) (by show _ ≤ (s1.1.length : Int); omega) hw2 (q3.trans hf2.wk) (by show (s1.1.length : Int) - _ ≤ _; omega) (hc9.up (by show _ ≤ 2000 + 40 - ((s1.1.length : Int) - _); omega)) (ht9.up (by show _ ≤ 2000 + 40 - ((s1.1.length : Int) - _); omega)) q7.bmp (fun z => by omega) (fun z => by rw [q9 z, if_neg (by omega)])
              · refine gX_aloadn dX12_doSkip_137 rfl ?_
                refine gX_iload dX12_doSkip_138 rfl ?_
                refine gX_iconst dX12_doSkip_140 ⟨by decide, by decide⟩ ?_
                refine gX_iadd dX12_doSkip_141 ⟨by omega, by omega⟩ ?_
                refine gX_iload dX12_doSkip_142 rfl ?_
                refine gX_iload dX12_doSkip_144 rfl ?_
                refine gX_isub dX12_doSkip_146 ⟨by omega, by omega⟩ ?_
                refine gX_virt (J := iX12_leaveOut) (av := [gi (i + 1), gi ((nxtL s1.1 i (q.2.2.2.2.1)) - i)]) (a := 775) (st := []) dX12_doSkip_147 lkX12_356 kX12_leaveOut vX12_leaveOut (gFit_m (by decide)) hM.1 rfl rfl (Nat.le_of_ble_eq_true rfl) (Nat.zero_le _) (Nat.zero_le _) rfl ?_
                refine m_leaveOut (d := d) (s := tcS 1 (lat q.2.2.2.1 1) s1) hM hw2 (by omega) (by omega) (by show _ ≤ (s1.1.length : Int); omega) (fun V3 hw3 hf3 => ?_)
                show gX l E _ 150 [some (ga 775), some (gi h), some (gi (lat q.2.2.2.1 1)), some (gi ((lat s1.2.2.1 1) + 1)), some (gi i), some (gi (nxtL s1.1 i (q.2.2.2.2.1))), some (gi (tkn (lat s1.2.2.1 1 + 1) (lat q.2.2.2.1 1)))] [] (K, R, V3) _ _
                refine gX_goto (tgt := 156) dX12_doSkip_150 (by decide) ?_
                refine gX_goto (tgt := 17) dX12_doSkip_156 (by decide) ?_
                have e7 : skS (q.2.2.2.2.1) (lat q.2.2.2.1 1) n i s1 = skS (q.2.2.2.2.1) (lat q.2.2.2.1 1) ((n - 1) + 1) i s1 := by rw [show n - 1 + 1 = n by omega]
                have e6 : skS (q.2.2.2.2.1) (lat q.2.2.2.1 1) ((n - 1) + 1) i s1 = if i < s1.1.length then (if nxtL s1.1 i (q.2.2.2.2.1) = -1 then skS (q.2.2.2.2.1) (lat q.2.2.2.1 1) (n - 1) (i + 1) s1 else if tkn (lat s1.2.2.1 1 + 1) (lat q.2.2.2.1 1) = 1 then skS (q.2.2.2.2.1) (lat q.2.2.2.1 1) (n - 1) i (lvS (i + 1) (nxtL s1.1 i (q.2.2.2.2.1)) (tcS 1 (lat q.2.2.2.1 1) s1)) else skS (q.2.2.2.2.1) (lat q.2.2.2.1 1) (n - 1) (i + 1) (tcS 1 (lat q.2.2.2.1 1) s1)) else s1 := rfl
                rw [e7, e6, if_pos (by omega)] at q9
                rw [if_neg (by omega)] at q9
                have et := tkn_01 (lat s1.2.2.1 1 + 1) (lat q.2.2.2.1 1)
                have el9 : lat s1.2.2.1 1 + 1 = lat (tcS 1 (lat q.2.2.2.1 1) s1).2.2.1 1 := (bump_at (by omega) (by rw [q2.2.2.2.1.1]; omega)).symm
                rw [el9]
                have hc9 := tcS_c (m := lat q.2.2.2.1 1) q5 (h := 1) (by omega) (by omega)
                have ht9 := tcS_t (m := lat q.2.2.2.1 1) q6 (h := 1) (by omega) (by omega)
                rw [show i + 1 + (nxtL s1.1 i (q.2.2.2.2.1) - i) - 1 = nxtL s1.1 i (q.2.2.2.2.1) by omega] at hw3
                have hl9 : ((lvS (i + 1) (nxtL s1.1 i (q.2.2.2.2.1)) (tcS 1 (lat q.2.2.2.1 1) s1)).1.length : Int) = s1.1.length - (nxtL s1.1 i (q.2.2.2.2.1) - i) := by
                  show ((s1.1.take (i + 1).toNat ++ s1.1.drop (nxtL s1.1 i (q.2.2.2.2.1) + 1).toNat).length : Int) = _
                  rw [show nxtL s1.1 i (q.2.2.2.2.1) + 1 = i + 1 + (nxtL s1.1 i (q.2.2.2.2.1) - i) by omega]
                  exact len_cut (by omega) (by omega) (by omega)
                exact ih i _ _ _ (lvS (i + 1) (nxtL s1.1 i (q.2.2.2.2.1)) (tcS 1 (lat q.2.2.2.1 1) s1)) (n - 1) _ _ (by omega) (by omega) (by omega) hw3 ((q3.trans hf2.wk).trans hf3) (by omega) (hc9.up (by omega)) (ht9.up (by omega)) q7.bmp (fun z => by omega) (fun z => by rw [q9 z, if_pos (by omega)])
          have lpj : ∀ (jj : Nat) (j : Int) (lk : Int) (k : Nat) (bc bs : Nat), (s1.1.length : Int) + 1 - j < (jj : Int) → i + 1 ≤ j ∧ j ≤ s1.1.length → j = i + 1 + 41 - k → ((lk = -1 ∧ nxtF s1.1 (lat s1.1 i) (i + q.2.2.2.2.1) k j = nxtL s1.1 i (q.2.2.2.2.1)) ∨ (0 ≤ lk ∧ lk = nxtL s1.1 i (q.2.2.2.2.1))) → gX l E (gFm E (d + 5) iX12_doSkip Q) 42 [some (ga 775), some (gi h), some (gi (lat q.2.2.2.1 1)), some (gi (lat s1.2.2.1 1)), some (gi i), some (gi lk), some (gi j)] [] (K, R, V1) bc bs := by
            intro jj
            induction jj with
            | zero =>
              intro j lk k bc bs hjj q10 q11 q12
              exfalso; omega
            | succ jj ihj =>
              intro j lk k bc bs hjj q10 q11 q12
              refine gX_iload dX12_doSkip_42 rfl ?_
              refine gX_iload dX12_doSkip_44 rfl ?_
              refine gX_aloadn dX12_doSkip_46 rfl ?_
              refine gX_gR 34 dX12_doSkip_47 fdX12_80 rfl rfl hM.1 (mR34 hM) ?_
              refine gX_iloadn dX12_doSkip_50 rfl ?_
              refine gX_iald dX12_doSkip_51 (mA34 hM) (by omega) (by omega) ?_
              rw [hrc]
              refine gX_iadd dX12_doSkip_52 ⟨by omega, by omega⟩ ?_
              refine gX_icmpgt (tgt := 112) dX12_doSkip_53 (by decide) (fun k1 => ?_) (fun k1 => ?_)
              · have ex : lk = nxtL s1.1 i (q.2.2.2.2.1) := by
                  rcases q12 with z | z
                  · rw [z.1, ← z.2]
                    cases k with
                    | zero => rfl
                    | succ k => show _ = if j ≤ i + q.2.2.2.2.1 ∧ j < s1.1.length then _ else -1; rw [if_neg (by omega)]
                  · exact z.2
                rw [ex]
                exact fin _ _ _
              · refine gX_iload dX12_doSkip_56 rfl ?_
                refine gX_aloadn dX12_doSkip_58 rfl ?_
                refine gX_gR 1 dX12_doSkip_59 fdX12_7 rfl rfl hM.1 (mR1 hM) ?_
                refine gX_bipush dX12_doSkip_62 (by decide) ⟨by decide, by decide⟩ ?_
                refine gX_iald dX12_doSkip_64 (mA1 hM) (by omega) (by omega) ?_
                rw [q2.1.1]
                refine gX_icmpge (tgt := 112) dX12_doSkip_65 (by decide) (fun k2 => ?_) (fun k2 => ?_)
                · have ex : lk = nxtL s1.1 i (q.2.2.2.2.1) := by
                    rcases q12 with z | z
                    · rw [z.1, ← z.2]
                      cases k with
                      | zero => rfl
                      | succ k => show _ = if j ≤ i + q.2.2.2.2.1 ∧ j < s1.1.length then _ else -1; rw [if_neg (by omega)]
                    · exact z.2
                  rw [ex]
                  exact fin _ _ _
                · refine gX_iload dX12_doSkip_68 rfl ?_
                  refine gX_ifge (tgt := 112) dX12_doSkip_70 (by decide) (fun k3 => ?_) (fun k3 => ?_)
                  · have ex : lk = nxtL s1.1 i (q.2.2.2.2.1) := by
                      rcases q12 with z | z
                      · rw [z.1, ← z.2]
                        cases k with
                        | zero => rfl
                        | succ k => show _ = if j ≤ i + q.2.2.2.2.1 ∧ j < s1.1.length then _ else -1; rw [if_neg (by omega)]
                      · exact z.2
                    rw [ex]
                    exact fin _ _ _
                  · have hwj := q2.1.wd (i := j) (by omega) (by omega)
                    have hwi := q2.1.wd (i := i) (by omega) (by omega)
                    rw [show 40 * 10 + j = 400 + j by omega] at hwj
                    rw [show 40 * 10 + i = 400 + i by omega] at hwi
                    refine gX_aloadn dX12_doSkip_73 rfl ?_
                    refine gX_gR 2 dX12_doSkip_74 fdX12_13 rfl rfl hM.1 (mR2 hM) ?_
                    refine gX_sipush dX12_doSkip_77 (by decide) ⟨by decide, by decide⟩ ?_
                    refine gX_iload dX12_doSkip_80 rfl ?_
                    refine gX_iadd dX12_doSkip_82 ⟨by omega, by omega⟩ ?_
                    refine gX_iald dX12_doSkip_83 (mA2 hM) (by omega) (by omega) ?_
                    rw [hwj]
                    refine gX_aloadn dX12_doSkip_84 rfl ?_
                    refine gX_gR 2 dX12_doSkip_85 fdX12_13 rfl rfl hM.1 (mR2 hM) ?_
                    refine gX_sipush dX12_doSkip_88 (by decide) ⟨by decide, by decide⟩ ?_
                    refine gX_iload dX12_doSkip_91 rfl ?_
                    refine gX_iadd dX12_doSkip_93 ⟨by omega, by omega⟩ ?_
                    refine gX_iald dX12_doSkip_94 (mA2 hM) (by omega) (by omega) ?_
                    rw [hwi]
                    refine gX_icmpne (tgt := 103) dX12_doSkip_95 (by decide) (fun k4 => ?_) (fun k4 => ?_)
                    · refine gX_iconst dX12_doSkip_103 ⟨by decide, by decide⟩ ?_
                      refine gX_istore dX12_doSkip_104 (show (5 : Nat) < 7 from by decide) (ls2 := [some (ga 775), some (gi h), some (gi (lat q.2.2.2.1 1)), some (gi (lat s1.2.2.1 1)), some (gi i), some (gi (-1)), some (gi j)]) rfl ?_
                      refine gX_iinc dX12_doSkip_106 rfl (show (6 : Nat) < 7 from by decide) ⟨by omega, by omega⟩ (ls2 := [some (ga 775), some (gi h), some (gi (lat q.2.2.2.1 1)), some (gi (lat s1.2.2.1 1)), some (gi i), some (gi (-1)), some (gi (j + 1))]) rfl ?_
                      refine gX_goto (tgt := 42) dX12_doSkip_109 (by decide) ?_
                      have e8 : nxtF s1.1 (lat s1.1 i) (i + q.2.2.2.2.1) k j = if j ≤ i + q.2.2.2.2.1 ∧ j < s1.1.length then (if lat s1.1 j = lat s1.1 i then j else nxtF s1.1 (lat s1.1 i) (i + q.2.2.2.2.1) (k - 1) (j + 1)) else -1 := by
                        obtain ⟨k9, e9⟩ : ∃ k9, k = k9 + 1 := ⟨k - 1, by omega⟩
                        subst e9
                        rfl
                      have q12 : nxtF s1.1 (lat s1.1 i) (i + q.2.2.2.2.1) k j = nxtL s1.1 i (q.2.2.2.2.1) := by rcases q12 with z | z; exact z.2; exfalso; omega
                      rw [e8, if_pos ⟨by omega, by omega⟩] at q12
                      rw [if_neg (by assumption)] at q12
                      exact ihj (j + 1) _ (k - 1) _ _ (by omega) (by omega) (by omega) (Or.inl ⟨rfl, q12⟩)
                    · refine gX_iload dX12_doSkip_98 rfl ?_
                      refine gX_goto (tgt := 104) dX12_doSkip_100 (by decide) ?_
                      refine gX_istore dX12_doSkip_104 (show (5 : Nat) < 7 from by decide) (ls2 := [some (ga 775), some (gi h), some (gi (lat q.2.2.2.1 1)), some (gi (lat s1.2.2.1 1)), some (gi i), some (gi j), some (gi j)]) rfl ?_
                      refine gX_iinc dX12_doSkip_106 rfl (show (6 : Nat) < 7 from by decide) ⟨by omega, by omega⟩ (ls2 := [some (ga 775), some (gi h), some (gi (lat q.2.2.2.1 1)), some (gi (lat s1.2.2.1 1)), some (gi i), some (gi j), some (gi (j + 1))]) rfl ?_
                      refine gX_goto (tgt := 42) dX12_doSkip_109 (by decide) ?_
                      have e8 : nxtF s1.1 (lat s1.1 i) (i + q.2.2.2.2.1) k j = if j ≤ i + q.2.2.2.2.1 ∧ j < s1.1.length then (if lat s1.1 j = lat s1.1 i then j else nxtF s1.1 (lat s1.1 i) (i + q.2.2.2.2.1) (k - 1) (j + 1)) else -1 := by
                        obtain ⟨k9, e9⟩ : ∃ k9, k = k9 + 1 := ⟨k - 1, by omega⟩
                        subst e9
                        rfl
                      have q12 : nxtF s1.1 (lat s1.1 i) (i + q.2.2.2.2.1) k j = nxtL s1.1 i (q.2.2.2.2.1) := by rcases q12 with z | z; exact z.2; exfalso; omega
                      rw [e8, if_pos ⟨by omega, by omega⟩] at q12
                      rw [if_pos (by assumption)] at q12
                      exact ihj (j + 1) _ (k - 1) _ _ (by omega) (by omega) (by omega) (Or.inr ⟨by omega, q12⟩)
          exact lpj (s1.1.length + 2) (i + 1) (-1) 41 _ _ (by omega) (by omega) (by omega) (Or.inl ⟨rfl, rfl⟩)
  refine gX_aloadn dX12_doSkip_0 rfl ?_
  refine gX_gR 33 dX12_doSkip_1 fdX12_77 rfl rfl hM.1 (mR33 hM) ?_
  refine gX_bipush dX12_doSkip_4 (by decide) ⟨by decide, by decide⟩ ?_
  refine gX_iloadn dX12_doSkip_6 rfl ?_
  refine gX_imul dX12_doSkip_7 ⟨by omega, by omega⟩ ?_
  refine gX_iconst dX12_doSkip_8 ⟨by decide, by decide⟩ ?_
  refine gX_iadd dX12_doSkip_9 ⟨by omega, by omega⟩ ?_
  refine gX_iald dX12_doSkip_10 (mA33 hM) (by omega) (by omega) ?_
  rw [hm]
  refine gX_istoren dX12_doSkip_11 (show (2 : Nat) < 7 from by decide) (ls2 := [some (ga 775), some (gi h), some (gi (lat q.2.2.2.1 1)), none, none, none, none]) rfl ?_
  refine gX_iconst dX12_doSkip_12 ⟨by decide, by decide⟩ ?_
  refine gX_istoren dX12_doSkip_13 (show (3 : Nat) < 7 from by decide) (ls2 := [some (ga 775), some (gi h), some (gi (lat q.2.2.2.1 1)), some (gi 0), none, none, none]) rfl ?_
  refine gX_iconst dX12_doSkip_14 ⟨by decide, by decide⟩ ?_
  refine gX_istore dX12_doSkip_15 (show (4 : Nat) < 7 from by decide) (ls2 := [some (ga 775), some (gi h), some (gi (lat q.2.2.2.1 1)), some (gi 0), some (gi 0), none, none]) rfl ?_
  have z9 := fun bc bs => lp (s.1.length + 1) 0 none none V s 40 bc bs (by omega) (by omega) (by omega) hs wkF.rf (by omega) (hc0.up (by omega)) (ht0.up (by omega)) (chK.rf 1 s) (fun _ => rfl) (fun _ => rfl)
  rw [hz] at z9
  exact z9 _ _
end MD27
