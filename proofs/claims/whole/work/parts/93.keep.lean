/-! What each habit keeps (by hand). -/
def sqG (gs gs' : List gG) : Prop := gs'.length = gs.length ∧ ∀ k : Int, 0 ≤ k → k < gs.length → (gq gs' k).2.1 = (gq gs k).2.1 ∧ (gq gs' k).2.2.2.2.2.length = (gq gs k).2.2.2.2.2.length ∧ (0 ≤ (gq gs k).2.1 → (gq gs' k).2.2.1 = (gq gs k).2.2.1 ∧ (gq gs' k).2.2.2.1 = (gq gs k).2.2.2.1)
def sqR (gs gs' : List gG) : Prop := gs'.length = gs.length ∧ ∀ k : Int, 0 ≤ k → k < gs.length → (gq gs' k).2.1 = (gq gs k).2.1 ∧ (gq gs' k).2.2.2.2.2 = (gq gs k).2.2.2.2.2 ∧ (0 ≤ (gq gs k).2.1 → (gq gs' k).2.2.1 = (gq gs k).2.2.1 ∧ (gq gs' k).2.2.2.1 = (gq gs k).2.2.2.1)
theorem sqR.g {gs gs' : List gG} (h : sqR gs gs') : sqG gs gs' := ⟨h.1, fun k k0 k1 => ⟨(h.2 k k0 k1).1, by rw [(h.2 k k0 k1).2.1], (h.2 k k0 k1).2.2⟩⟩
theorem sqR.rf (gs : List gG) : sqR gs gs := ⟨rfl, fun _ _ _ => ⟨rfl, rfl, fun _ => ⟨rfl, rfl⟩⟩⟩
theorem sqR.trans {a b c : List gG} (h : sqR a b) (h2 : sqR b c) : sqR a c := ⟨h2.1.trans h.1, fun k k0 k1 => by
  have x := h.2 k k0 k1
  have y := h2.2 k k0 (by rw [h.1]; exact k1)
  refine ⟨y.1.trans x.1, y.2.1.trans x.2.1, fun z => ?_⟩
  have u := x.2.2 z
  have v := y.2.2 (by rw [x.1]; exact z)
  exact ⟨v.1.trans u.1, v.2.trans u.2⟩⟩
theorem sqR.away {gs : List gG} {g : Int} (hw : hoW gs) (g0 : 0 ≤ g) (g1 : g < gs.length) : sqR gs (awayG gs g) := ⟨awLen hw g0 g1, fun k k0 k1 => by
  have f := away_f hw g0 g1 k0
  exact ⟨f.2.1, f.2.2.2.2, fun _ => ⟨f.2.2.1, f.2.2.2.1⟩⟩⟩
theorem sqR.map {gs : List gG} {f : gG → gG} (hf : ∀ q, (f q).2.1 = q.2.1 ∧ (f q).2.2.2.2.2 = q.2.2.2.2.2 ∧ (¬ onT q = 1 → f q = q)) : sqR gs (gs.map f) := ⟨List.length_map .., fun k k0 k1 => by
  rw [gq_map1 (by omega)]
  refine ⟨(hf _).1, (hf _).2.1, fun z => ?_⟩
  rw [(hf _).2.2 (fun y => by have := (onT_1.mp y).2; omega)]
  exact ⟨rfl, rfl⟩⟩
theorem dpt_sq {gs gs' : List gG} (hl : gs'.length = gs.length) (hh : ∀ k : Int, 0 ≤ k → k < gs.length → (gq gs' k).2.1 = (gq gs k).2.1) : ∀ (f : Nat) (k : Int), dpt gs' f k = dpt gs f k
  | 0, k => rfl
  | f + 1, k => by
    show (if 0 ≤ k ∧ k < gs'.length then 1 + dpt gs' f (gq gs' k).2.1 else 0) = (if 0 ≤ k ∧ k < gs.length then 1 + dpt gs f (gq gs k).2.1 else 0)
    rw [hl]
    by_cases c : 0 ≤ k ∧ k < gs.length
    · rw [if_pos c, if_pos c, hh k c.1 c.2, dpt_sq hl hh f]
    · rw [if_neg c, if_neg c]
theorem stG.sq {gs gs' : List gG} (h : stG gs) (hw : hoW gs) (hq : sqG gs gs') : stG gs' := by
  obtain ⟨hl, hk⟩ := hq
  refine ⟨fun k k0 k1 => ?_, fun j k j0 jk k1 => ?_⟩
  · have k2 : k < gs.length := by omega
    have x := hk k k0 k2
    have y := h.1 k k0 k2
    have z := hw.at k0 k2
    rw [dpt_sq hl (fun k k0 k1 => (hk k k0 k1).1)]
    refine ⟨fun h0 => ?_, y.2⟩
    rw [x.1] at h0 ⊢
    have u := x.2.2 h0
    rw [u.1, u.2, (hk _ h0 (by omega)).2.1]
    exact y.1 h0
  · have k2 : k < gs.length := by omega
    have xj := hk j j0 (by omega)
    have xk := hk k (by omega) k2
    have y := h.2 j k j0 jk k2
    rw [xj.1, xk.1]
    refine ⟨y.1, fun e e0 => ?_⟩
    have uj := xj.2.2 (by omega)
    have uk := xk.2.2 e0
    rw [uj.1, uj.2, uk.1, uk.2]
    exact y.2 e e0
theorem wdM.rw {tx tx' : List Int} {gs gs' : List gG} (h : wdM tx gs) (ht : wdB tx') (hq : sqR gs gs') : wdM tx' gs' := ⟨ht, fun k k0 k1 => by
  rw [hq.1] at k1
  rw [(hq.2 k k0 k1).2.1]
  exact h.2 k k0 k1⟩
theorem tmG.away {gs : List gG} {g : Int} (h : tmG gs) (hw : hoW gs) (g0 : 0 ≤ g) (g1 : g < gs.length) : tmG (awayG gs g) := fun j k j0 jk k1 oj ok => by
  rw [awLen hw g0 g1] at k1
  have fj := away_f hw g0 g1 j0
  have fk := away_f hw g0 g1 (k := k) (by omega)
  rw [fj.2.2.1, fk.2.2.1]
  have aj := onT_1.mp oj
  have ak := onT_1.mp ok
  exact h j k j0 jk k1 (onT_1.mpr ⟨away_lv hw g0 g1 j0 aj.1, by rw [← fj.2.1]; exact aj.2⟩) (onT_1.mpr ⟨away_lv hw g0 g1 (by omega) ak.1, by rw [← fk.2.1]; exact ak.2⟩)
theorem wkX.away {s : cS} {g : Int} {c : List Int × List Int} (h : wkX s) (hw : hoW s.2.1) (g0 : 0 ≤ g) (g1 : g < s.2.1.length) : wkX (s.1, awayG s.2.1 g, c) := ⟨h.1.sq hw (sqR.away hw g0 g1).g, h.2.1.away hw g0 g1, h.2.2.rw h.2.2.1 (sqR.away hw g0 g1)⟩
theorem wdB.take {xs : List Int} (h : wdB xs) (n : Nat) : wdB (xs.take n) := fun x hx => h x (List.mem_of_mem_take hx)
theorem wdB.drop {xs : List Int} (h : wdB xs) (n : Nat) : wdB (xs.drop n) := fun x hx => h x (List.mem_of_mem_drop hx)
theorem wdB.app {xs ys : List Int} (h : wdB xs) (h2 : wdB ys) : wdB (xs ++ ys) := fun x hx => by
  rcases List.mem_append.mp hx with z | z
  · exact h x z
  · exact h2 x z
theorem wdB.put {xs : List Int} (h : wdB xs) {i x : Int} (hx : 0 ≤ x ∧ x ≤ 63) : wdB (lput xs i x) := fun y hy => by
  unfold lput at hy
  split at hy
  · exact h y hy
  · rcases List.mem_or_eq_of_mem_set hy with z | z
    · exact h y z
    · rw [z]; exact hx
-- what is left out
theorem lvH_k {f : Nat → Nat → List gG → List gG} : ∀ (n k : Nat) (H : List gG), hoW H → k + n ≤ H.length → sqR H (lvH n k H) ∧ (tmG H → tmG (lvH n k H))
  | 0, k, H, hw, hn => ⟨sqR.rf H, fun h => h⟩
  | n + 1, k, H, hw, hn => by
    show sqR H (lvH n (k + 1) (if _ then _ else _)) ∧ (tmG H → tmG (lvH n (k + 1) (if _ then _ else _)))
    split
    · have g1 : (k : Int) < H.length := by omega
      have := lvH_k (f := f) n (k + 1) (awayG H k) (hw.away (by omega) g1) (by rw [awLen hw (by omega) g1]; omega)
      exact ⟨(sqR.away hw (by omega) g1).trans this.1, fun h => this.2 (h.away hw (by omega) g1)⟩
    · exact lvH_k (f := f) n (k + 1) H hw (by omega)
theorem wkX.lv {s : cS} {f t : Int} (h : wkX s) (hw : wfS s) (h1 : f ≤ t) : wkX (lvS f t s) := by
  have e := lvH_lvG (f := f) (t := t) h1 hw.2.2.1 hw.1
  have q1 : sqR s.2.1 (s.2.1.map (lvQ1 f t)) := sqR.map (fun q => by
    have := lvQ1_f f t q
    exact ⟨this.2.1, by rw [this.2.2.1], fun c => if_neg c⟩)
  have hoM : hoW (s.2.1.map (lvQ1 f t)) := hw.2.2.1.eqh q1.1 (fun j => by
    by_cases c : j.toNat < s.2.1.length
    · rw [gq_map1 c]; exact (lvQ1_f f t _).2.1
    · rw [gqO (by rw [List.length_map]; omega), gqO (by omega)])
  have tM : tmG (s.2.1.map (lvQ1 f t)) := fun j k j0 jk k1 oj ok => by
    rw [List.length_map] at k1
    rw [gq_map1 (by omega)] at oj ⊢
    rw [gq_map1 (by omega)] at ok ⊢
    rw [(lvQ1_f f t _).2.2.2] at oj ok
    have := h.2.1 j k j0 jk k1 oj ok
    unfold lvQ1
    rw [if_pos oj, if_pos ok]
    exact plc_mo this h1
  have k := lvH_k (f := fun _ _ x => x) s.2.1.length 0 (s.2.1.map (lvQ1 f t)) hoM (by rw [List.length_map]; omega)
  rw [e] at k
  have q2 := q1.trans k.1
  exact ⟨h.1.sq hw.2.2.1 q2.g, k.2 tM, h.2.2.rw ((h.2.2.1.take _).app (h.2.2.1.drop _)) q2⟩
theorem skS_X {rc m : Int} : ∀ (n : Nat) (i : Int) (s : cS), 0 ≤ i → wfS s → wkX s → wkX (skS rc m n i s)
  | 0, i, s, i0, hw, h => h
  | n + 1, i, s, i0, hw, h => by
    show wkX (if _ then (if _ then _ else if _ then _ else _) else _)
    split
    · split
      · exact skS_X n (i + 1) s (by omega) hw h
      · split
        · rename_i c1 c2 c3
          have b := nxtL_in s.1 i rc
          exact skS_X n i _ i0 (lvS_wf (s := tcS 1 m s) (tcS_wf hw) (by omega) (by omega) (show _ < (s.1.length : Int) by omega)).1 (wkX.lv (s := tcS 1 m s) h (tcS_wf hw) (by omega))
        · exact skS_X n (i + 1) _ (by omega) (tcS_wf hw) h
    · exact h
theorem tuS_X {m : Int} : ∀ (n : Nat) (i : Int) (s : cS), 0 ≤ i → wkX s → wkX (tuS m n i s)
  | 0, i, s, i0, h => h
  | n + 1, i, s, i0, h => by
    show wkX (if _ then (if _ then (if _ then _ else _) else _) else _)
    split
    · rename_i c
      split
      · split
        · exact tuS_X n (i + 2) _ (by omega) ⟨h.1, h.2.1, ⟨(h.2.2.1.put (h.2.2.1.at (by omega) c)).put (h.2.2.1.at i0 (by omega)), h.2.2.2⟩⟩
        · exact tuS_X n (i + 1) _ (by omega) h
      · exact tuS_X n (i + 1) s (by omega) h
    · exact h
theorem drS_X {m : Int} : ∀ (n g : Nat) (s : cS), g + n ≤ s.2.1.length → hoW s.2.1 → wkX s → wkX (drS m n g s)
  | 0, g, s, gn, hw, h => h
  | n + 1, g, s, gn, hw, h => by
    show wkX (if _ then (if _ then _ else _) else _)
    have g1 : (g : Int) < s.2.1.length := by omega
    split
    · split
      · exact drS_X n (g + 1) _ (by show g + 1 + n ≤ (awayG s.2.1 g).length; rw [awLen hw (by omega) g1]; omega) (hw.away (by omega) g1) (h.away hw (by omega) g1)
      · exact drS_X n (g + 1) _ (by show g + 1 + n ≤ s.2.1.length; omega) hw h
    · exact drS_X n (g + 1) s (by omega) hw h
theorem wkX.mv {s : cS} {g : Nat} {c : List Int × List Int} (h : wkX s) (hw : wfS s) (g1 : g < s.2.1.length) (hm : mvC s.1 s.2.1 (gq s.2.1 g) = true) : wkX (s.1, s.2.1.set g (shG (gq s.2.1 g) 1), c) := by
  obtain ⟨m1, m2, m3, m4, m5, m6, m7⟩ := mvC_of hm
  have o2 := onT_1.mp m1
  have eg : ∀ k : Int, gq (s.2.1.set g (shG (gq s.2.1 g) 1)) k = if k.toNat = g then shG (gq s.2.1 g) 1 else gq s.2.1 k := gqS g1
  have sq : sqR s.2.1 (s.2.1.set g (shG (gq s.2.1 g) 1)) := ⟨List.length_set .., fun k k0 k1 => by
    rw [eg]
    by_cases c : k.toNat = g
    · rw [if_pos c]
      have e : k = g := by omega
      subst e
      exact ⟨rfl, rfl, fun z => by omega⟩
    · rw [if_neg c]; exact ⟨rfl, rfl, fun _ => ⟨rfl, rfl⟩⟩⟩
  refine ⟨h.1.sq hw.2.2.1 sq.g, fun j k j0 jk k1 oj ok => ?_, h.2.2.rw h.2.2.1 sq⟩
  have k1 : k < ((s.2.1.set g (shG (gq s.2.1 g) 1)).length : Int) := k1
  rw [List.length_set] at k1
  have oj : onT (gq (s.2.1.set g (shG (gq s.2.1 g) 1)) j) = 1 := oj
  have ok : onT (gq (s.2.1.set g (shG (gq s.2.1 g) 1)) k) = 1 := ok
  show (gq (s.2.1.set g (shG (gq s.2.1 g) 1)) j).2.2.1 ≤ (gq (s.2.1.set g (shG (gq s.2.1 g) 1)) k).2.2.1
  rw [eg] at oj ok ⊢
  rw [eg k]
  by_cases cj : j.toNat = g
  · have ej : j = g := by omega
    subst ej
    have ck : ¬ k.toNat = g := by omega
    rw [if_pos cj, if_neg ck]
    rw [if_neg ck] at ok
    have t := h.2.1 g k j0 jk k1 m1 ok
    show (gq s.2.1 g).2.2.1 + 1 ≤ _
    refine Decidable.byContradiction fun z => ?_
    have := alnC_k m4 j0 (by omega) (by omega) k1 m1 ok (shr_1.mpr ⟨by rw [(onT_1.mp ok).2, o2.2], by omega⟩)
    omega
  · rw [if_neg cj] at oj ⊢
    by_cases ck : k.toNat = g
    · have ek : k = g := by omega
      subst ek
      rw [if_pos ck]
      have t := h.2.1 j g j0 jk k1 oj m1
      show _ ≤ (gq s.2.1 g).2.2.1 + 1
      omega
    · rw [if_neg ck] at ok ⊢
      exact h.2.1 j k j0 jk k1 oj ok
theorem mvS_X {m : Int} : ∀ (n g : Nat) (s : cS), g + n ≤ s.2.1.length → wfS s → wkX s → wkX (mvS m n g s)
  | 0, g, s, gn, hw, h => h
  | n + 1, g, s, gn, hw, h => by
    show wkX (if _ then (if _ then _ else _) else _)
    split
    · rename_i c
      split
      · refine mvS_X n (g + 1) _ (by show g + 1 + n ≤ (s.2.1.set g _).length; rw [List.length_set]; omega) ?_ (h.mv hw (by omega) c)
        have w1 := (mvS_h (m := 1) 1 g s (by omega) hw).1
        have e : mvS 1 1 g s = if mvC s.1 s.2.1 (gq s.2.1 g) = true then (if tkn (lat s.2.2.1 5 + 1) 1 = 1 then (s.1, s.2.1.set g (shG (gq s.2.1 g) 1), (tcS 5 1 s).2.2) else tcS 5 1 s) else s := rfl
        rw [e, if_pos c, if_pos (by unfold tkn; rw [if_pos ⟨by omega, by omega⟩])] at w1
        exact w1
      · exact mvS_X n (g + 1) _ (by show g + 1 + n ≤ s.2.1.length; omega) (tcS_wf hw) h
    · exact mvS_X n (g + 1) s (by omega) hw h
theorem wkX.sl {s : cS} {g : Nat} {wy : Int} {c : List Int × List Int} (hwy : 0 ≤ wy ∧ wy ≤ 2) (h : wkX s) (hw : wfS s) (g1 : g < s.2.1.length) (ho : onT (gq s.2.1 g) = 1) : wkX ((slO wy s.1 s.2.1 (gq s.2.1 g)).1, (slO wy s.1 s.2.1 (gq s.2.1 g)).2, c) := by
  have q1 : sqR s.2.1 (s.2.1.map (slF wy (gq s.2.1 g))) := sqR.map (fun q => by
    have := slF_f wy (gq s.2.1 g) q
    exact ⟨this.2.1, by rw [this.2.2], fun c => slF_off c⟩)
  rw [slO_gs, slO_tx hwy]
  refine ⟨h.1.sq hw.2.2.1 q1.g, fun j k j0 jk k1 oj ok => ?_, h.2.2.rw (((h.2.2.1.take _).app (h.2.2.2 g (by omega) (by omega))).app (h.2.2.1.drop _)) q1⟩
  have k1 : k < ((s.2.1.map (slF wy (gq s.2.1 g))).length : Int) := k1
  rw [List.length_map] at k1
  have oj : onT (gq (s.2.1.map (slF wy (gq s.2.1 g))) j) = 1 := oj
  have ok : onT (gq (s.2.1.map (slF wy (gq s.2.1 g))) k) = 1 := ok
  show (gq (s.2.1.map (slF wy (gq s.2.1 g))) j).2.2.1 ≤ (gq (s.2.1.map (slF wy (gq s.2.1 g))) k).2.2.1
  rw [gq_map1 (by omega)] at oj ok ⊢
  rw [gq_map1 (by omega)]
  rw [slF_onT] at oj ok
  have t := h.2.1 j k j0 jk k1 oj ok
  have mg : gq s.2.1 g ∈ s.2.1 := gqM (by omega) (by omega)
  have mj : gq s.2.1 j ∈ s.2.1 := gqM j0 (by omega)
  have mk : gq s.2.1 k ∈ s.2.1 := gqM (by omega) k1
  have bg := hw.1.1 _ mg ho
  have bj := hw.1.1 _ mj oj
  have bk := hw.1.1 _ mk ok
  have rg := hw.2.1 _ mg
  have s1 := slF_on (wy := wy) oj rg (hw.1.2 _ mj _ mg oj ho) bj.2.1 bg.2.1
  have s2 := slF_on (wy := wy) ok rg (hw.1.2 _ mk _ mg ok ho) bk.2.1 bg.2.1
  have hl : lml (gq s.2.1 g) = (gq s.2.1 g).2.2.2.1 - (gq s.2.1 g).2.2.1 + 1 := rfl
  by_cases c0 : wy = 0
  · simp only [if_pos c0] at s1 s2; omega
  · simp only [if_neg c0] at s1 s2
    by_cases c1 : wy = 1
    · simp only [if_pos c1] at s1 s2; omega
    · simp only [if_neg c1] at s1 s2; omega
theorem inS_X {wy m : Int} (hwy : 0 ≤ wy ∧ wy ≤ 2) : ∀ (n g : Nat) (s : cS), g + n ≤ s.2.1.length → wfS s → wkX s → wkX (inS wy m n g s)
  | 0, g, s, gn, hw, h => h
  | n + 1, g, s, gn, hw, h => by
    show wkX (if _ then (if _ then _ else _) else _)
    split
    · rename_i c
      split
      · have hh := inS_h (m := 1) hwy 1 g s (by omega) hw
        have e : inS wy 1 1 g s = if inC wy s g = true then (if tkn (lat s.2.2.1 3 + 1) 1 = 1 then ((slO wy s.1 s.2.1 (gq s.2.1 g)).1, awayG (slO wy s.1 s.2.1 (gq s.2.1 g)).2 g, (tcS 3 1 s).2.2) else tcS 3 1 s) else s := rfl
        rw [e, if_pos c, if_pos (by unfold tkn; rw [if_pos ⟨by omega, by omega⟩])] at hh
        have ho := (inC_of c).1
        have x1 := wkX.sl (c := (tcS 3 m s).2.2) hwy h hw (show g < s.2.1.length by omega) ho
        have l1 : (slO wy s.1 s.2.1 (gq s.2.1 g)).2.length = s.2.1.length := slO_gl ..
        have ho2 : hoW (slO wy s.1 s.2.1 (gq s.2.1 g)).2 := hw.2.2.1.eqh l1 (fun j => by
          rw [slO_gs]
          by_cases c : j.toNat < s.2.1.length
          · rw [gq_map1 c]; exact (slF_f _ _ _).2.1
          · rw [gqO (by rw [List.length_map]; omega), gqO (by omega)])
        refine inS_X hwy n (g + 1) _ (by have := hh.2.1; show g + 1 + n ≤ (awayG _ _).length; have this : (awayG (slO wy s.1 s.2.1 (gq s.2.1 g)).2 g).length = s.2.1.length := this; omega) hh.1 (x1.away ho2 (by omega) (by show (g : Int) < ((slO wy s.1 s.2.1 (gq s.2.1 g)).2.length : Int); omega))
      · exact inS_X hwy n (g + 1) _ (by show g + 1 + n ≤ s.2.1.length; omega) (tcS_wf hw) h
    · exact inS_X hwy n (g + 1) s (by omega) hw h
theorem foK_w {fr to fe : List Int} {w i : Int} (ht : wdB to) (hl : to.length = fr.length) : ∀ (n : Nat) (k : Int) (t : fS), 0 ≤ k → k + n ≤ fr.length → wdB t.1 → wdB (foK fr to fe w i n k t).1
  | 0, k, t, k0, kn, h => h
  | n + 1, k, t, k0, kn, h => by
    refine foK_w ht hl n (k + 1) _ (by omega) (by omega) ?_
    split
    · show wdB (if _ then _ else _)
      split
      · exact h.put (ht.at k0 (by omega))
      · exact h
    · exact h
theorem foR_w {fr to fe : List Int} (ht : wdB to) (hl : to.length = fr.length) : ∀ (n : Nat) (i : Int) (t : fS), wdB t.1 → wdB (foR fr to fe n i t).1
  | 0, i, t, h => h
  | n + 1, i, t, h => foR_w ht hl n (i + 1) _ (foK_w ht hl fr.length 0 t (by omega) (by omega) h)
theorem foG_w {fr to fe : List Int} (ht : wdB to) (hl : to.length = fr.length) : ∀ (n : Nat) (g : Int) (t : fG), 0 ≤ g → g + n ≤ t.1.length → (∀ k : Int, 0 ≤ k → k < t.1.length → wdB (gq t.1 k).2.2.2.2.2) → ∀ k : Int, 0 ≤ k → k < t.1.length → wdB (gq (foG fr to fe n g t).1 k).2.2.2.2.2
  | 0, g, t, g0, gn, h => h
  | n + 1, g, t, g0, gn, h => by
    have h2 := foG_w (fe := fe) ht hl n (g + 1) (t.1.set g.toNat (rwG (gq t.1 g) (foQ fr to fe t g).1), (foQ fr to fe t g).2) (by omega) (by show g + 1 + n ≤ ((t.1.set _ _).length : Int); rw [List.length_set]; omega) (fun k k0 k1 => by
      have k1 : k < ((t.1.set g.toNat (rwG (gq t.1 g) (foQ fr to fe t g).1)).length : Int) := k1
      rw [List.length_set] at k1
      show wdB (gq (t.1.set g.toNat (rwG (gq t.1 g) (foQ fr to fe t g).1)) k).2.2.2.2.2
      rw [gq_set g0 (by omega) k0]
      split
      · exact foR_w ht hl _ 0 _ (h g g0 (by omega))
      · exact h k k0 k1)
    intro k k0 k1
    exact h2 k k0 (by show k < ((t.1.set _ _).length : Int); rw [List.length_set]; exact k1)
theorem foS_X {fr to fe : List Int} {s : cS} (ht : wdB to) (hl : to.length = fr.length) (hw : hoW s.2.1) (h : wkX s) : wkX (foS fr to fe s) := by
  have k := foS_lk fr to fe s
  have sq : sqG s.2.1 (foS fr to fe s).2.1 := ⟨k.len, fun j j0 j1 => by
    have z := skQ_of (k.gq j)
    exact ⟨z.2.1, z.2.2.2.2.2, fun _ => ⟨z.2.2.1, z.2.2.2.1⟩⟩⟩
  refine ⟨h.1.sq hw sq, fun i j i0 ij j1 oi oj => ?_, foR_w ht hl _ 0 _ h.2.2.1, fun j j0 j1 => ?_⟩
  · rw [k.len] at j1
    have zi := skQ_of (k.gq i)
    have zj := skQ_of (k.gq j)
    have e1 : ∀ p q : gG, p.2.1 = q.2.1 → p.2.2.2.2.1 = q.2.2.2.2.1 → onT p = onT q := fun p q a b => by unfold onT; rw [a, b]
    rw [e1 _ _ zi.2.1 zi.2.2.2.2.1] at oi
    rw [e1 _ _ zj.2.1 zj.2.2.2.2.1] at oj
    rw [zi.2.2.1, zj.2.2.1]
    exact h.2.1 i j i0 ij j1 oi oj
  · rw [k.len] at j1
    exact foG_w ht hl s.2.1.length 0 (s.2.1, _) (by omega) (by show (0 : Int) + s.2.1.length ≤ s.2.1.length; omega) h.2.2.2 j j0 j1
