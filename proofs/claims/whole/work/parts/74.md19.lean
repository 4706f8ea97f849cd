/-! The reference: hand. Written by wip/whole/tools/mk_md19.py. -/
/-- a hand as it stands -/
def hInv (q : gbH) : Prop := q.2.1.length = q.1.length ∧ q.2.2.1.length = q.1.length ∧ q.1.length ≤ 4 ∧ q.2.2.2.1.length = 6 ∧ (∀ j : Int, lat q.2.2.2.1 j = -1 ∨ 1 ≤ lat q.2.2.2.1 j) ∧ (-1 ≤ q.2.2.2.2.1 ∧ q.2.2.2.2.1 ≤ 20) ∧ (-1 ≤ q.2.2.2.2.2 ∧ q.2.2.2.2.2 ≤ 2) ∧ (lat q.2.2.2.1 3 ≠ -1 → 0 ≤ q.2.2.2.2.2) ∧ q.1.Nodup ∧ ∀ x ∈ q.2.2.1, 1 ≤ x
theorem hInv_E : hInv ghE := ⟨rfl, rfl, by decide, rfl, fun j => Or.inl lat_rep6, ⟨by decide, by decide⟩, ⟨by decide, by decide⟩, fun h => absurd lat_rep6 h, List.nodup_nil, fun x hx => by cases hx⟩
def b1' (ea : List Int) (j : Int) : Int := if lat ea j = -1 then 0 else 1
theorem clsF_5 (ea : List Int) (c : Int) : clsF ea 5 1 c = c + b1' ea 1 + b1' ea 2 + b1' ea 3 + b1' ea 4 + b1' ea 5 := by
  have e : ∀ (n : Nat) (h c : Int), clsF ea (n + 1) h c = clsF ea n (h + 1) (c + b1' ea h) := by
    intro n h c
    show clsF ea n (h + 1) (if lat ea h = -1 then c else c + 1) = _
    unfold b1'
    split
    · rw [Int.add_zero]
    · rfl
  rw [e, e, e, e, e]
  rfl
theorem cls_put {ea : List Int} {k m : Int} {n : Int} (hl : ea.length = 6) (h0 : 1 ≤ k) (h1 : k ≤ 5) (hk : lat ea k = -1) (hm : 1 ≤ m) : clsF (lput ea k m) 5 1 n = clsF ea 5 1 n + 1 := by
  rw [clsF_5, clsF_5]
  have e : ∀ j : Int, 0 ≤ j → b1' (lput ea k m) j = if j = k then 1 else b1' ea j := by
    intro j j0
    unfold b1'
    rw [latP (by omega) (by omega) j0]
    by_cases ej : j = k
    · rw [if_pos ej, if_pos ej, if_neg (by omega)]
    · rw [if_neg ej, if_neg ej]
  have ek : b1' ea k = 0 := if_pos hk
  rw [e 1 (by omega), e 2 (by omega), e 3 (by omega), e 4 (by omega), e 5 (by omega)]
  have : k = 1 ∨ k = 2 ∨ k = 3 ∨ k = 4 ∨ k = 5 := by omega
  rcases this with z | z | z | z | z <;> subst z <;> simp only [if_pos rfl, if_neg (show ¬ (1 : Int) = 2 by decide), if_neg (show ¬ (1 : Int) = 3 by decide), if_neg (show ¬ (1 : Int) = 4 by decide), if_neg (show ¬ (1 : Int) = 5 by decide), if_neg (show ¬ (2 : Int) = 1 by decide), if_neg (show ¬ (2 : Int) = 3 by decide), if_neg (show ¬ (2 : Int) = 4 by decide), if_neg (show ¬ (2 : Int) = 5 by decide), if_neg (show ¬ (3 : Int) = 1 by decide), if_neg (show ¬ (3 : Int) = 2 by decide), if_neg (show ¬ (3 : Int) = 4 by decide), if_neg (show ¬ (3 : Int) = 5 by decide), if_neg (show ¬ (4 : Int) = 1 by decide), if_neg (show ¬ (4 : Int) = 2 by decide), if_neg (show ¬ (4 : Int) = 3 by decide), if_neg (show ¬ (4 : Int) = 5 by decide), if_neg (show ¬ (5 : Int) = 1 by decide), if_neg (show ¬ (5 : Int) = 2 by decide), if_neg (show ¬ (5 : Int) = 3 by decide), if_neg (show ¬ (5 : Int) = 4 by decide), ite_true] <;> omega
theorem cls_add (ea : List Int) (n : Int) : clsF ea 5 1 (n + 1) = clsF ea 5 1 n + 1 := by rw [clsF_5, clsF_5]; omega
theorem sig_ok {ys : List Int} {u : hR} (h0 : 0 ≤ u.1.1) (h1 : u.1.1 ≤ ys.length) (hz : u.1.2.2.1 = 0 ∧ u.1.2.2.2 = -1) : ((tkSig ys 59 u.1).1 = 0 ∧ 1 ≤ (tkSig ys 59 u.1).2.2.2.1) ∨ ((tkSig ys 59 u.1).1 = 1 ∧ ((tkSig ys 59 u.1).2.2.2.1 = 0 ∧ (tkSig ys 59 u.1).2.2.2.2 = -1) ∧ (u.1.1 + 1 ≤ (tkSig ys 59 u.1).2.1 ∧ (tkSig ys 59 u.1).2.1 ≤ ys.length)) := by
  have hp := pkB_in (ys := ys) h0 h1
  unfold tkSig
  by_cases c : lat ys (pkB ys u.1.1) = 59
  · rw [if_pos c]
    have hlt : pkB ys u.1.1 < ys.length := Decidable.byContradiction fun z => by
      have z9 := lat_out (xs := ys) (i := pkB ys u.1.1) (by omega)
      omega
    exact Or.inr ⟨rfl, ⟨hz.1, hz.2⟩, by show u.1.1 + 1 ≤ pkB ys u.1.1 + 1; omega, by show pkB ys u.1.1 + 1 ≤ ys.length; omega⟩
  · rw [if_neg c]
    exact Or.inl ⟨rfl, by show (1 : Int) ≤ 1; omega⟩
/-- a clause: a fault, or one clause more -/
theorem rdCl_ok {ys : List Int} {s : hR} (h0 : 0 ≤ s.1.1) (h1 : s.1.1 ≤ ys.length) (hz : s.1.2.2.1 = 0 ∧ s.1.2.2.2 = -1) (hi : hInv s.2) : ((rdCl ys s).1 = 0 ∧ 1 ≤ (rdCl ys s).2.1.2.2.1) ∨ ((rdCl ys s).1 = 1 ∧ ((rdCl ys s).2.1.2.2.1 = 0 ∧ (rdCl ys s).2.1.2.2.2 = -1) ∧ (s.1.1 + 1 ≤ (rdCl ys s).2.1.1 ∧ (rdCl ys s).2.1.1 ≤ ys.length) ∧ hInv (rdCl ys s).2.2 ∧ clsC (rdCl ys s).2.2.1 (rdCl ys s).2.2.2.2.2.1 = clsC s.2.1 s.2.2.2.2.1 + 1) := by
  have hp := pkB_in (ys := ys) h0 h1
  have hl := leF_sp (ys := ys) 321 (pkB ys s.1.1) (by omega) hp.2
  have hcr := clT_in (ys := ys) (t := tkLet ys s.1) (o := 0) 6 0 (by omega)
  obtain ⟨i1, i2, i3, i4, i5, i6, i7, i8, i9, i10⟩ := hi
  unfold rdCl
  by_cases c1 : clN ys s = -1
  · rw [if_pos c1]; exact Or.inl ⟨rfl, by show (1 : Int) ≤ 1; omega⟩
  rw [if_neg c1]
  by_cases c2 : noRm s.2.1 s.2.2.2.2.1 (clN ys s) = 1
  · rw [if_pos c2]; exact Or.inl ⟨rfl, by show (1 : Int) ≤ 3; omega⟩
  rw [if_neg c2]
  have hE0 : 0 ≤ (tkLet ys s.1).1 := by show 0 ≤ leF ys 321 (pkB ys s.1.1); omega
  have hE1 : (tkLet ys s.1).1 ≤ ys.length := hl.2.1
  have hE2 : s.1.1 ≤ (tkLet ys s.1).1 := by show s.1.1 ≤ leF ys 321 (pkB ys s.1.1); omega
  by_cases c0 : clN ys s = 0
  · have ec : clR ys s = rdFor ys (tkLet ys s.1, s.2) := if_pos c0
    rw [ec]
    have hn4 : s.2.1.length < 4 := Decidable.byContradiction fun z => c2 (by unfold noRm; rw [if_pos c0, if_pos (by omega)])
    rcases rdFor_ok (s := (tkLet ys s.1, s.2)) hE0 hE1 hz with y | ⟨y1, y2, y3, x, yy, m, y4, y5, y6⟩
    · rw [if_pos y.1]; exact Or.inl ⟨rfl, y.2⟩
    · rw [if_neg (by omega)]
      have y30 : (tkLet ys s.1).1 ≤ (rdFor ys (tkLet ys s.1, s.2)).2.1.1 := y3.1
      rcases sig_ok (u := (rdFor ys (tkLet ys s.1, s.2)).2) (by omega) y3.2 y2 with z | ⟨z1, z2, z3⟩
      · exact Or.inl z
      · have eA : ladd 4 s.2.1 x = s.2.1 ++ [x] := if_pos hn4
        have eB : ladd 4 s.2.2.1 yy = s.2.2.1 ++ [yy] := if_pos (by omega)
        have eC : ladd 4 s.2.2.2.1 m = s.2.2.2.1 ++ [m] := if_pos (by omega)
        have e9 : (rdFor ys (tkLet ys s.1, s.2)).2.2 = (s.2.1 ++ [x], s.2.2.1 ++ [yy], s.2.2.2.1 ++ [m], s.2.2.2.2) := by rw [y4, eA, eB, eC]
        refine Or.inr ⟨z1, z2, ⟨by have := z3.1; show s.1.1 + 1 ≤ (tkSig ys 59 (rdFor ys (tkLet ys s.1, s.2)).2.1).2.1; omega, z3.2⟩, ?_, ?_⟩
        · show hInv (rdFor ys (tkLet ys s.1, s.2)).2.2
          rw [e9]
          refine ⟨by show (s.2.2.1 ++ [yy]).length = (s.2.1 ++ [x]).length; rw [List.length_append, List.length_append, i1]; rfl, by show (s.2.2.2.1 ++ [m]).length = (s.2.1 ++ [x]).length; rw [List.length_append, List.length_append, i2]; rfl, by show (s.2.1 ++ [x]).length ≤ 4; rw [List.length_append]; show s.2.1.length + 1 ≤ 4; omega, i4, i5, i6, i7, i8, ?_, ?_⟩
          · show (s.2.1 ++ [x]).Nodup
            rw [List.nodup_append]
            exact ⟨i9, (by simp), fun a ha b hb => fun e => y6 (by rw [← List.mem_singleton.mp hb, ← e]; exact ha)⟩
          · intro v hv
            rcases List.mem_append.mp hv with h | h
            · exact i10 v h
            · rw [List.mem_singleton.mp h]; exact y5
        · show clsC (rdFor ys (tkLet ys s.1, s.2)).2.2.1 (rdFor ys (tkLet ys s.1, s.2)).2.2.2.2.2.1 = _
          rw [e9]
          show clsF s.2.2.2.2.1 5 1 ((s.2.1 ++ [x]).length : Int) = _
          rw [List.length_append, show ((s.2.1.length + [x].length : Nat) : Int) = (s.2.1.length : Int) + 1 from rfl, cls_add]
          rfl
  · have ec : clR ys s = rdHab ys (clN ys s) (tkLet ys s.1, s.2) := if_neg c0
    rw [ec]
    have hc9 : clN ys s = clT ys (tkLet ys s.1) 0 6 0 := rfl
    have hc15 : 1 ≤ clN ys s ∧ clN ys s ≤ 5 := by omega
    have hea : lat s.2.2.2.2.1 (clN ys s) = -1 := Decidable.byContradiction fun z => c2 (by unfold noRm; rw [if_neg c0, if_neg z])
    rcases rdHab_ok (c := clN ys s) (s := (tkLet ys s.1, s.2)) hE0 hE1 hz with y | ⟨y1, y2, y3, m, rc, wy, y4, y5, y6, y7⟩
    · rw [if_pos y.1]; exact Or.inl ⟨rfl, y.2⟩
    · rw [if_neg (by omega)]
      have y30 : (tkLet ys s.1).1 ≤ (rdHab ys (clN ys s) (tkLet ys s.1, s.2)).2.1.1 := y3.1
      have y40 : (rdHab ys (clN ys s) (tkLet ys s.1, s.2)).2.2 = (s.2.1, s.2.2.1, s.2.2.2.1, lput s.2.2.2.2.1 (clN ys s) m, rc, wy) := y4
      rcases sig_ok (u := (rdHab ys (clN ys s) (tkLet ys s.1, s.2)).2) (by omega) y3.2 y2 with z | ⟨z1, z2, z3⟩
      · exact Or.inl z
      · refine Or.inr ⟨z1, z2, ⟨by have := z3.1; show s.1.1 + 1 ≤ (tkSig ys 59 (rdHab ys (clN ys s) (tkLet ys s.1, s.2)).2.1).2.1; omega, z3.2⟩, ?_, ?_⟩
        · show hInv (rdHab ys (clN ys s) (tkLet ys s.1, s.2)).2.2
          rw [y40]
          have y6' : rc = s.2.2.2.2.2.1 ∨ (1 ≤ rc ∧ rc ≤ 20) := y6
          have y7' : (clN ys s ≠ 3 ∧ wy = s.2.2.2.2.2.2) ∨ (0 ≤ wy ∧ wy ≤ 2) := y7
          have hlp : ∀ j : Int, 0 ≤ j → lat (lput s.2.2.2.2.1 (clN ys s) m) j = if j = clN ys s then m else lat s.2.2.2.2.1 j := fun j j0 => latP (by omega) (by omega) j0
          refine ⟨i1, i2, i3, by show (lput s.2.2.2.2.1 (clN ys s) m).length = 6; rw [lpL]; exact i4, fun j => ?_, by show -1 ≤ rc ∧ rc ≤ 20; omega, by show -1 ≤ wy ∧ wy ≤ 2; omega, fun h3 => ?_, i9, i10⟩
          · show lat (lput s.2.2.2.2.1 (clN ys s) m) j = -1 ∨ 1 ≤ lat (lput s.2.2.2.2.1 (clN ys s) m) j
            by_cases j0 : 0 ≤ j
            · rw [hlp j j0]
              split
              · exact Or.inr y5
              · exact i5 j
            · exact Or.inl (lat_out (by omega))
          · have h4 : lat (lput s.2.2.2.2.1 (clN ys s) m) 3 ≠ -1 := h3
            rw [hlp 3 (by omega)] at h4
            show 0 ≤ wy
            rcases y7' with w | w
            · rw [if_neg (fun z => w.1 z.symm)] at h4
              rw [w.2]; exact i8 h4
            · exact w.1
        · show clsC (rdHab ys (clN ys s) (tkLet ys s.1, s.2)).2.2.1 (rdHab ys (clN ys s) (tkLet ys s.1, s.2)).2.2.2.2.2.1 = _
          rw [y40]
          exact cls_put i4 hc15.1 hc15.2 hea y5

