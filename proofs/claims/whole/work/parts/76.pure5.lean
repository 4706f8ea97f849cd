/-! Faults are few; what a hand's text leaves. By hand. -/
theorem tkNum_u {ys : List Int} {low high : Int} {t : tS} (hl : 0 ≤ low) (hz : t.2.2.1 = 0 ∧ t.2.2.2 = -1) : 0 ≤ (tkNum ys low high t).2.2.2.1 ∧ (tkNum ys low high t).2.2.2.1 ≤ 2 := by
  rcases tkNum_cs (ys := ys) (high := high) hl hz with z | z <;> omega
theorem rdFor_u {ys : List Int} {s : hR} (hz : s.1.2.2.1 = 0 ∧ s.1.2.2.2 = -1) : (rdFor ys s).2.1.2.2.1 ≤ 3 := by
  have u1 := tkNum_cs (ys := ys) (low := 0) (high := 63) (t := s.1) (by omega) hz
  unfold rdFor rf3 rf2 rf1
  rcases u1 with z | z
  · rw [if_pos z.1]; show (tkNum ys 0 63 s.1).2.2.2.1 ≤ 3; omega
  · rw [if_neg (by omega)]
    split
    · show (3 : Int) ≤ 3; omega
    · have u2 := tkNum_cs (ys := ys) (low := 0) (high := 63) (t := (tkNum ys 0 63 s.1).2) (by omega) ⟨z.2.2.1, z.2.2.2⟩
      rcases u2 with y | y
      · rw [if_pos y.1]; show (tkNum ys 0 63 (tkNum ys 0 63 s.1).2).2.2.2.1 ≤ 3; omega
      · rw [if_neg (by omega)]
        split
        · show (3 : Int) ≤ 3; omega
        · have u3 := tkNum_u (ys := ys) (low := 1) (high := 99) (t := (tkNum ys 0 63 (tkNum ys 0 63 s.1).2).2) (by omega) ⟨y.2.2.1, y.2.2.2⟩
          split
          · show (tkNum ys 1 99 (tkNum ys 0 63 (tkNum ys 0 63 s.1).2).2).2.2.2.1 ≤ 3; omega
          · show (tkNum ys 1 99 (tkNum ys 0 63 (tkNum ys 0 63 s.1).2).2).2.2.2.1 ≤ 3; omega
theorem rhC_u {ys : List Int} {c : Int} {u : hR} (hz : u.1.2.2.1 = 0 ∧ u.1.2.2.2 = -1) : (rhC ys c u).2.1.2.2.1 ≤ 3 := by
  have u1 := tkNum_u (ys := ys) (low := 1) (high := 99) (t := u.1) (by omega) hz
  unfold rhC
  show (tkNum ys 1 99 u.1).2.2.2.1 ≤ 3
  omega
theorem rdHab_u {ys : List Int} {c : Int} {s : hR} (hz : s.1.2.2.1 = 0 ∧ s.1.2.2.2 = -1) : (rdHab ys c s).2.1.2.2.1 ≤ 3 := by
  by_cases c1 : c = 1
  · have e : rh1 ys c s = ((tkNum ys 1 20 s.1).2, s.2.1, s.2.2.1, s.2.2.2.1, s.2.2.2.2.1, (tkNum ys 1 20 s.1).1, s.2.2.2.2.2.2) := if_pos c1
    have u1 := tkNum_cs (ys := ys) (low := 1) (high := 20) (t := s.1) (by omega) hz
    unfold rdHab
    rw [e]
    rcases u1 with z | z
    · rw [if_pos ⟨c1, z.1⟩]; show (tkNum ys 1 20 s.1).2.2.2.1 ≤ 3; omega
    · rw [if_neg (fun y => by have y3 : (tkNum ys 1 20 s.1).1 = -1 := y.2; omega), if_neg (fun y => by omega)]
      exact rhC_u ⟨z.2.2.1, z.2.2.2⟩
  · by_cases c3 : c = 3
    · have e : rh1 ys c s = (tkLet ys s.1, s.2.1, s.2.2.1, s.2.2.2.1, s.2.2.2.2.1, s.2.2.2.2.2.1, clT ys (tkLet ys s.1) 6 3 0) := (if_neg c1).trans (if_pos c3)
      unfold rdHab
      rw [e, if_neg (fun y => c1 y.1)]
      split
      · show (1 : Int) ≤ 3; omega
      · exact rhC_u ⟨hz.1, hz.2⟩
    · have e : rh1 ys c s = s := (if_neg c1).trans (if_neg c3)
      unfold rdHab
      rw [e, if_neg (fun y => c1 y.1), if_neg (fun y => c3 y.1)]
      exact rhC_u hz
theorem rdCl_u {ys : List Int} {s : hR} (h0 : 0 ≤ s.1.1) (h1 : s.1.1 ≤ ys.length) (hz : s.1.2.2.1 = 0 ∧ s.1.2.2.2 = -1) (hi : hInv s.2) : (rdCl ys s).2.1.2.2.1 ≤ 3 := by
  rcases rdCl_ok h0 h1 hz hi with z | z
  · unfold rdCl at z ⊢
    by_cases c1 : clN ys s = -1
    · rw [if_pos c1]; show (1 : Int) ≤ 3; omega
    rw [if_neg c1] at z ⊢
    by_cases c2 : noRm s.2.1 s.2.2.2.2.1 (clN ys s) = 1
    · rw [if_pos c2]; show (3 : Int) ≤ 3; omega
    rw [if_neg c2] at z ⊢
    have hu : (clR ys s).2.1.2.2.1 ≤ 3 := by
      unfold clR
      split
      · exact rdFor_u (s := (tkLet ys s.1, s.2)) hz
      · exact rdHab_u (s := (tkLet ys s.1, s.2)) hz
    split
    · exact hu
    · show (tkSig ys 59 (clR ys s).2.1).2.2.2.1 ≤ 3
      unfold tkSig
      split
      · exact hu
      · show (1 : Int) ≤ 3; omega
  · omega
/-- the whole text of a hand -/
theorem rdH_ok {ys : List Int} : ∀ (n : Nat) (s : hR), 0 ≤ s.1.1 → s.1.1 ≤ ys.length → s.1.2.2.1 = 0 ∧ s.1.2.2.2 = -1 → hInv s.2 → (0 ≤ (rdH ys n 1 s).1.2.2.1 ∧ (rdH ys n 1 s).1.2.2.1 ≤ 3) ∧ ((rdH ys n 1 s).1.2.2.1 = 0 → hInv (rdH ys n 1 s).2 ∧ (rdH ys n 1 s).1.2.2.2 = -1)
  | 0, s, _, _, hz, hi => by
    show (0 ≤ s.1.2.2.1 ∧ s.1.2.2.1 ≤ 3) ∧ (s.1.2.2.1 = 0 → hInv s.2 ∧ s.1.2.2.2 = -1)
    exact ⟨by omega, fun _ => ⟨hi, hz.2⟩⟩
  | n + 1, s, h0, h1, hz, hi => by
    have hp := pkB_in (ys := ys) h0 h1
    have e : rdH ys (n + 1) 1 s = if lat ys (pkB ys s.1.1) = -1 then pkH ys s else rdH ys n (rdCl ys (pkH ys s)).1 (rdCl ys (pkH ys s)).2 := if_neg (by decide)
    rw [e]
    split
    · show (0 ≤ s.1.2.2.1 ∧ s.1.2.2.1 ≤ 3) ∧ (s.1.2.2.1 = 0 → hInv s.2 ∧ s.1.2.2.2 = -1)
      exact ⟨by omega, fun _ => ⟨hi, hz.2⟩⟩
    · have g0 : 0 ≤ (pkH ys s).1.1 := by show 0 ≤ pkB ys s.1.1; omega
      have g1 : (pkH ys s).1.1 ≤ ys.length := hp.2
      have hu := rdCl_u (s := pkH ys s) g0 g1 hz hi
      rcases rdCl_ok (s := pkH ys s) g0 g1 hz hi with z | ⟨z1, z2, z3, z4, z5⟩
      · rw [z.1, rdH_0]
        exact ⟨⟨by omega, hu⟩, fun y => by omega⟩
      · rw [z1]
        exact rdH_ok n _ (by omega) z3.2 z2 z4
theorem hdR_ok (ys : List Int) : (0 ≤ (hdR ys).1.2.2.1 ∧ (hdR ys).1.2.2.1 ≤ 3) ∧ ((hdR ys).1.2.2.1 = 0 → hInv (hdR ys).2 ∧ (hdR ys).1.2.2.2 = -1) := rdH_ok 160 _ (Int.le_refl _) (by show (0 : Int) ≤ ys.length; omega) ⟨rfl, rfl⟩ hInv_E
-- a book's text: faults
def bfZ (s : bR) : Prop := 0 ≤ s.1.2.2.1 ∧ s.1.2.2.1 ≤ 5
theorem bF_u {n x : Int} {s : bR} (h : 0 ≤ n ∧ n ≤ 5) : bfZ (bF n x s) := h
theorem rdWord_u {ys : List Int} {s : bR} (hz : s.1.2.2.1 = 0 ∧ s.1.2.2.2 = -1) : bfZ (rdWord ys s).2 ∧ ((rdWord ys s).1 ≠ 0 → (rdWord ys s).2.1.2.2.1 = 0 ∧ (rdWord ys s).2.1.2.2.2 = -1) := by
  have u := tkNum_cs (ys := ys) (low := 0) (high := 63) (t := s.1) (by omega) hz
  unfold rdWord
  split
  · exact ⟨bF_u ⟨by decide, by decide⟩, fun z => absurd rfl z⟩
  · rcases u with y | y
    · rw [if_pos y.1]
      exact ⟨⟨by show 0 ≤ (tkNum ys 0 63 s.1).2.2.2.1; omega, by show (tkNum ys 0 63 s.1).2.2.2.1 ≤ 5; omega⟩, fun z => absurd rfl z⟩
    · rw [if_neg (by omega)]
      split
      · exact ⟨bF_u ⟨by decide, by decide⟩, fun z => absurd rfl z⟩
      · exact ⟨⟨by show 0 ≤ (tkNum ys 0 63 s.1).2.2.2.1; omega, by show (tkNum ys 0 63 s.1).2.2.2.1 ≤ 5; omega⟩, fun _ => ⟨y.2.2.1, y.2.2.2⟩⟩
theorem rdS1_u {c : Int} {s : bR} (hz : s.1.2.2.1 = 0 ∧ s.1.2.2.2 = -1) : bfZ (rdS1 c s).2 ∧ ((rdS1 c s).1 ≠ 0 → (rdS1 c s).2.1.2.2.1 = 0 ∧ (rdS1 c s).2.1.2.2.2 = -1) := by
  have h0 : bfZ s := ⟨by omega, by omega⟩
  unfold rdS1 rdOpen rdClose rdKind rdGl
  (repeat' split) <;> first | exact ⟨h0, fun _ => hz⟩ | exact ⟨bF_u ⟨by decide, by decide⟩, fun z => absurd rfl z⟩
theorem rdSt_u {ys : List Int} {s : bR} (hz : s.1.2.2.1 = 0 ∧ s.1.2.2.2 = -1) : bfZ (rdSt ys s).2 ∧ ((rdSt ys s).1 ≠ 0 → (rdSt ys s).2.1.2.2.1 = 0 ∧ (rdSt ys s).2.1.2.2.2 = -1) := by
  unfold rdSt
  split
  · exact rdWord_u (s := pk2 ys s) hz
  · have u := rdS1_u (c := lat ys (pkB ys (pkB ys s.1.1))) (s := pk2 ys s) hz
    unfold rdSign
    split
    · exact ⟨u.1, fun z => absurd rfl z⟩
    · next hn =>
      have u2 := u.2 hn
      unfold tkSig
      split
      · exact ⟨u.1, fun _ => u2⟩
      · exact ⟨⟨by show (0 : Int) ≤ 1; omega, by show (1 : Int) ≤ 5; omega⟩, fun z => absurd rfl z⟩
theorem rdB_u {ys : List Int} : ∀ (n : Nat) (st : Int) (s : bR), bfZ s → (st ≠ 0 → s.1.2.2.1 = 0 ∧ s.1.2.2.2 = -1) → bfZ (rdB ys n st s).2 ∧ ((rdB ys n st s).1 ≠ 0 → (rdB ys n st s).2.1.2.2.1 = 0 ∧ (rdB ys n st s).2.1.2.2.2 = -1)
  | 0, st, s, h, h2 => ⟨h, h2⟩
  | n + 1, st, s, h, h2 => by
    have e : rdB ys (n + 1) st s = if st = 0 then (0, s) else if lat ys (pkB ys s.1.1) = -1 then (st, (pkB ys s.1.1, s.1.2), s.2) else rdB ys n (rdSt ys s).1 (rdSt ys s).2 := rfl
    rw [e]
    split
    · exact ⟨h, fun z => absurd rfl z⟩
    · next hs =>
      split
      · exact ⟨h, fun _ => h2 hs⟩
      · have u := rdSt_u (ys := ys) (s := s) (h2 hs)
        exact rdB_u n _ _ u.1 u.2
theorem bkR_u (ys : List Int) (lf : Int) : 0 ≤ (bkR ys lf).1.2.2.1 ∧ (bkR ys lf).1.2.2.1 ≤ 5 := by
  have u := rdB_u (ys := ys) 320 1 ((0, 0, 0, -1), [], [], 0, -1, lf) ⟨by show (0 : Int) ≤ 0; omega, by show (0 : Int) ≤ 5; omega⟩ (fun _ => ⟨rfl, rfl⟩)
  unfold bkR rdE
  split
  · exact ⟨by show (0 : Int) ≤ 1; omega, by show (1 : Int) ≤ 5; omega⟩
  · exact u.1
