/-! What a clause of a hand leaves. By hand. -/
theorem fiF_ge {ys : List Int} {tok : Int} : ∀ (n : Nat) (a v : Int), a ≤ (fiF ys tok n a v).1
  | 0, a, _ => Int.le_refl a
  | n + 1, a, v => by
    show a ≤ (if _ then fiF ys tok n (a + 1) _ else (a, v)).1
    split
    · have := fiF_ge (ys := ys) (tok := tok) n (a + 1) (if a - tok < 2 then v * 10 + lat ys a - 48 else v); omega
    · exact Int.le_refl a
theorem tkNum_ge {ys : List Int} {lo hi : Int} {t : tS} (h0 : 0 ≤ t.1) (h1 : t.1 ≤ ys.length) : t.1 ≤ (tkNum ys lo hi t).2.1 := by
  have hp := pkB_in (ys := ys) h0 h1
  have hf := fiF_ge (ys := ys) (tok := pkB ys t.1) 321 (pkB ys t.1) 0
  unfold tkNum
  split
  · split
    · show t.1 ≤ (fiF ys (pkB ys t.1) 321 (pkB ys t.1) 0).1; omega
    · show t.1 ≤ (fiF ys (pkB ys t.1) 321 (pkB ys t.1) 0).1; omega
  · exact hp.1
/-- a for clause that stands -/
theorem rdFor_ok {ys : List Int} {s : hR} (h0 : 0 ≤ s.1.1) (h1 : s.1.1 ≤ ys.length) (hz : s.1.2.2.1 = 0 ∧ s.1.2.2.2 = -1) : ((rdFor ys s).1 = 0 ∧ 1 ≤ (rdFor ys s).2.1.2.2.1) ∨ ((rdFor ys s).1 = 1 ∧ ((rdFor ys s).2.1.2.2.1 = 0 ∧ (rdFor ys s).2.1.2.2.2 = -1) ∧ (s.1.1 ≤ (rdFor ys s).2.1.1 ∧ (rdFor ys s).2.1.1 ≤ ys.length) ∧ ∃ x y m : Int, (rdFor ys s).2.2 = (ladd 4 s.2.1 x, ladd 4 s.2.2.1 y, ladd 4 s.2.2.2.1 m, s.2.2.2.2) ∧ 1 ≤ m ∧ ¬ x ∈ s.2.1) := by
  have u1 := tkNum_cs (ys := ys) (low := 0) (high := 63) (t := s.1) (by omega) hz
  have g1 := tkNum_ge (ys := ys) (lo := 0) (hi := 63) (t := s.1) h0 h1
  have b1 := tkNum_at (ys := ys) (lo := 0) (hi := 63) (t := s.1) h0 h1
  unfold rdFor rf3 rf2 rf1
  rcases u1 with z | z
  · rw [if_pos z.1]; exact Or.inl ⟨rfl, by show 1 ≤ (tkNum ys 0 63 s.1).2.2.2.1; omega⟩
  · rw [if_neg (by omega)]
    by_cases hm : (tkNum ys 0 63 s.1).1 ∈ s.2.1
    · rw [if_pos hm]; exact Or.inl ⟨rfl, by show (1 : Int) ≤ 3; omega⟩
    · rw [if_neg hm]
      have u2 := tkNum_cs (ys := ys) (low := 0) (high := 63) (t := (tkNum ys 0 63 s.1).2) (by omega) ⟨z.2.2.1, z.2.2.2⟩
      have g2 := tkNum_ge (ys := ys) (lo := 0) (hi := 63) (t := (tkNum ys 0 63 s.1).2) b1.1 b1.2
      have b2 := tkNum_at (ys := ys) (lo := 0) (hi := 63) (t := (tkNum ys 0 63 s.1).2) b1.1 b1.2
      rcases u2 with y | y
      · rw [if_pos y.1]; exact Or.inl ⟨rfl, by show 1 ≤ (tkNum ys 0 63 (tkNum ys 0 63 s.1).2).2.2.2.1; omega⟩
      · rw [if_neg (by omega)]
        by_cases he : (tkNum ys 0 63 (tkNum ys 0 63 s.1).2).1 = (tkNum ys 0 63 s.1).1
        · rw [if_pos he]; exact Or.inl ⟨rfl, by show (1 : Int) ≤ 3; omega⟩
        · rw [if_neg he]
          have u3 := tkNum_cs (ys := ys) (low := 1) (high := 99) (t := (tkNum ys 0 63 (tkNum ys 0 63 s.1).2).2) (by omega) ⟨y.2.2.1, y.2.2.2⟩
          have g3 := tkNum_ge (ys := ys) (lo := 1) (hi := 99) (t := (tkNum ys 0 63 (tkNum ys 0 63 s.1).2).2) b2.1 b2.2
          have b3 := tkNum_at (ys := ys) (lo := 1) (hi := 99) (t := (tkNum ys 0 63 (tkNum ys 0 63 s.1).2).2) b2.1 b2.2
          rcases u3 with x | x
          · rw [if_pos x.1]; exact Or.inl ⟨rfl, by show 1 ≤ (tkNum ys 1 99 (tkNum ys 0 63 (tkNum ys 0 63 s.1).2).2).2.2.2.1; omega⟩
          · rw [if_neg (by omega)]
            exact Or.inr ⟨rfl, ⟨x.2.2.1, x.2.2.2⟩, ⟨by show s.1.1 ≤ (tkNum ys 1 99 (tkNum ys 0 63 (tkNum ys 0 63 s.1).2).2).2.1; omega, b3.2⟩, _, _, _, rfl, x.1, hm⟩
/-- the number that ends another clause -/
theorem rhC_ok {ys : List Int} {c : Int} {u : hR} (h0 : 0 ≤ u.1.1) (h1 : u.1.1 ≤ ys.length) (hz : u.1.2.2.1 = 0 ∧ u.1.2.2.2 = -1) : ((rhC ys c u).1 = 0 ∧ 1 ≤ (rhC ys c u).2.1.2.2.1) ∨ ((rhC ys c u).1 = 1 ∧ ((rhC ys c u).2.1.2.2.1 = 0 ∧ (rhC ys c u).2.1.2.2.2 = -1) ∧ (u.1.1 ≤ (rhC ys c u).2.1.1 ∧ (rhC ys c u).2.1.1 ≤ ys.length) ∧ ∃ m : Int, (rhC ys c u).2.2 = (u.2.1, u.2.2.1, u.2.2.2.1, lput u.2.2.2.2.1 c m, u.2.2.2.2.2) ∧ 1 ≤ m) := by
  have u1 := tkNum_cs (ys := ys) (low := 1) (high := 99) (t := u.1) (by omega) hz
  have g1 := tkNum_ge (ys := ys) (lo := 1) (hi := 99) (t := u.1) h0 h1
  have b1 := tkNum_at (ys := ys) (lo := 1) (hi := 99) (t := u.1) h0 h1
  unfold rhC
  rcases u1 with z | z
  · exact Or.inl ⟨if_pos z.1, by show 1 ≤ (tkNum ys 1 99 u.1).2.2.2.1; omega⟩
  · exact Or.inr ⟨if_neg (by omega), ⟨z.2.2.1, z.2.2.2⟩, ⟨g1, b1.2⟩, _, rfl, z.1⟩
/-- what another clause sets besides its number: the reach, the way -/
theorem rdHab_ok {ys : List Int} {c : Int} {s : hR} (h0 : 0 ≤ s.1.1) (h1 : s.1.1 ≤ ys.length) (hz : s.1.2.2.1 = 0 ∧ s.1.2.2.2 = -1) : ((rdHab ys c s).1 = 0 ∧ 1 ≤ (rdHab ys c s).2.1.2.2.1) ∨ ((rdHab ys c s).1 = 1 ∧ ((rdHab ys c s).2.1.2.2.1 = 0 ∧ (rdHab ys c s).2.1.2.2.2 = -1) ∧ (s.1.1 ≤ (rdHab ys c s).2.1.1 ∧ (rdHab ys c s).2.1.1 ≤ ys.length) ∧ ∃ m rc wy : Int, (rdHab ys c s).2.2 = (s.2.1, s.2.2.1, s.2.2.2.1, lput s.2.2.2.2.1 c m, rc, wy) ∧ 1 ≤ m ∧ (rc = s.2.2.2.2.2.1 ∨ (1 ≤ rc ∧ rc ≤ 20)) ∧ ((c ≠ 3 ∧ wy = s.2.2.2.2.2.2) ∨ (0 ≤ wy ∧ wy ≤ 2))) := by
  by_cases c1 : c = 1
  · have e : rh1 ys c s = ((tkNum ys 1 20 s.1).2, s.2.1, s.2.2.1, s.2.2.2.1, s.2.2.2.2.1, (tkNum ys 1 20 s.1).1, s.2.2.2.2.2.2) := if_pos c1
    have u1 := tkNum_cs (ys := ys) (low := 1) (high := 20) (t := s.1) (by omega) hz
    have g1 := tkNum_ge (ys := ys) (lo := 1) (hi := 20) (t := s.1) h0 h1
    have b1 := tkNum_at (ys := ys) (lo := 1) (hi := 20) (t := s.1) h0 h1
    unfold rdHab
    rcases u1 with z | z
    · rw [if_pos ⟨c1, by rw [e]; exact z.1⟩, e]
      exact Or.inl ⟨rfl, by show 1 ≤ (tkNum ys 1 20 s.1).2.2.2.1; omega⟩
    · rw [if_neg (fun y => by have y2 := y.2; rw [e] at y2; have y3 : (tkNum ys 1 20 s.1).1 = -1 := y2; omega), if_neg (fun y => by omega), e]
      rcases rhC_ok (c := c) (u := ((tkNum ys 1 20 s.1).2, s.2.1, s.2.2.1, s.2.2.2.1, s.2.2.2.2.1, (tkNum ys 1 20 s.1).1, s.2.2.2.2.2.2)) b1.1 b1.2 ⟨z.2.2.1, z.2.2.2⟩ with y | ⟨y1, y2, y3, m, y4, y5⟩
      · exact Or.inl y
      · have y6 : (tkNum ys 1 20 s.1).2.1 ≤ (rhC ys c ((tkNum ys 1 20 s.1).2, s.2.1, s.2.2.1, s.2.2.2.1, s.2.2.2.2.1, (tkNum ys 1 20 s.1).1, s.2.2.2.2.2.2)).2.1.1 := y3.1
        exact Or.inr ⟨y1, y2, ⟨by omega, y3.2⟩, m, _, _, y4, y5, Or.inr ⟨z.1, z.2.1⟩, Or.inl ⟨by omega, rfl⟩⟩
  · by_cases c3 : c = 3
    · have e : rh1 ys c s = (tkLet ys s.1, s.2.1, s.2.2.1, s.2.2.2.1, s.2.2.2.2.1, s.2.2.2.2.2.1, clT ys (tkLet ys s.1) 6 3 0) := (if_neg c1).trans (if_pos c3)
      have hp := pkB_in (ys := ys) h0 h1
      have hl := leF_sp (ys := ys) 321 (pkB ys s.1.1) (by omega) hp.2
      have hw := clT_in (ys := ys) (t := tkLet ys s.1) (o := 6) 3 0 (by omega)
      unfold rdHab
      by_cases cw : clT ys (tkLet ys s.1) 6 3 0 = -1
      · rw [if_neg (fun y => c1 y.1), if_pos ⟨c3, by rw [e]; exact cw⟩]
        exact Or.inl ⟨rfl, by show (1 : Int) ≤ 1; omega⟩
      · rw [if_neg (fun y => c1 y.1), if_neg (fun y => by have y2 := y.2; rw [e] at y2; exact cw y2), e]
        rcases rhC_ok (c := c) (u := (tkLet ys s.1, s.2.1, s.2.2.1, s.2.2.2.1, s.2.2.2.2.1, s.2.2.2.2.2.1, clT ys (tkLet ys s.1) 6 3 0)) (by show 0 ≤ leF ys 321 (pkB ys s.1.1); omega) hl.2.1 ⟨hz.1, hz.2⟩ with y | ⟨y1, y2, y3, m, y4, y5⟩
        · exact Or.inl y
        · have y6 : leF ys 321 (pkB ys s.1.1) ≤ (rhC ys c (tkLet ys s.1, s.2.1, s.2.2.1, s.2.2.2.1, s.2.2.2.2.1, s.2.2.2.2.2.1, clT ys (tkLet ys s.1) 6 3 0)).2.1.1 := y3.1
          exact Or.inr ⟨y1, y2, ⟨by omega, y3.2⟩, m, _, _, y4, y5, Or.inl rfl, Or.inr (by show 0 ≤ clT ys (tkLet ys s.1) 6 3 0 ∧ clT ys (tkLet ys s.1) 6 3 0 ≤ 2; omega)⟩
    · have e : rh1 ys c s = s := (if_neg c1).trans (if_neg c3)
      unfold rdHab
      rw [if_neg (fun y => c1 y.1), if_neg (fun y => c3 y.1), e]
      rcases rhC_ok (c := c) (u := s) h0 h1 hz with y | ⟨y1, y2, y3, m, y4, y5⟩
      · exact Or.inl y
      · exact Or.inr ⟨y1, y2, y3, m, _, _, y4, y5, Or.inl rfl, Or.inl ⟨c3, rfl⟩⟩
