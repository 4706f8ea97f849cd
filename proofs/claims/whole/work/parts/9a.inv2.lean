/-! What stands of a state between calls (by hand). -/
theorem gand_nn (x : Int) : 0 ≤ gand x 255 := by
  unfold gand
  rw [← Int32.toInt_toBitVec, Int32.toBitVec_and]
  have h : ((Int32.ofInt x).toBitVec &&& (Int32.ofInt 255).toBitVec).toNat ≤ 255 := by
    rw [BitVec.toNat_and]
    exact Nat.le_trans Nat.and_le_right (by decide)
  rw [BitVec.toInt_eq_toNat_of_lt (by omega)]
  omega
theorem fdF_nn (x : Int) : ∀ n : Nat, byP (fdF x n)
  | 0 => fun y hy => by cases hy
  | n + 1 => fun y hy => by
    rcases List.mem_cons.mp hy with z | z
    · rw [z]; exact gand_nn _
    · exact fdF_nn x n y z
theorem tkNum_v {ys : List Int} {lo hi : Int} {t : tS} : (tkNum ys lo hi t).1 = -1 ∨ (lo ≤ (tkNum ys lo hi t).1 ∧ (tkNum ys lo hi t).1 ≤ hi) := by
  unfold tkNum
  split
  · split
    · exact Or.inl rfl
    · rename_i h
      right
      unfold nuB at h
      rw [decide_eq_true_eq] at h
      show lo ≤ (fiF ys (pkB ys t.1) 321 (pkB ys t.1) 0).2 ∧ (fiF ys (pkB ys t.1) 321 (pkB ys t.1) 0).2 ≤ hi
      omega
  · exact Or.inl rfl
theorem rdFor_w {ys : List Int} {s : hR} (h : wdB s.2.2.1) : wdB (rdFor ys s).2.2.2.1 := by
  unfold rdFor
  split
  · exact h
  · split
    · exact h
    · split
      · exact h
      · rename_i n2
        split
        · exact h
        · split
          · exact h
          · show wdB (ladd 4 s.2.2.1 (rf2 ys s).1)
            unfold ladd
            split
            · refine h.app (fun x hx => ?_)
              rw [List.mem_singleton.mp hx]
              rcases tkNum_v (ys := ys) (lo := 0) (hi := 63) (t := (rf1 ys s).2) with z | z
              · exact absurd z n2
              · exact z
            · exact h
theorem rh1_w (ys : List Int) (c : Int) (s : hR) : (rh1 ys c s).2.2.1 = s.2.2.1 := by
  unfold rh1
  split
  · rfl
  · split
    · rfl
    · rfl
theorem rdHab_w {ys : List Int} {c : Int} {s : hR} : (rdHab ys c s).2.2.2.1 = s.2.2.1 := by
  unfold rdHab
  split
  · exact rh1_w ys c s
  · split
    · exact rh1_w ys c s
    · exact rh1_w ys c s
theorem rdCl_w {ys : List Int} {s : hR} (h : wdB s.2.2.1) : wdB (rdCl ys s).2.2.2.1 := by
  have hc : wdB (clR ys s).2.2.2.1 := by
    unfold clR
    split
    · exact rdFor_w (s := (tkLet ys s.1, s.2)) h
    · rw [rdHab_w]; exact h
  unfold rdCl
  split
  · exact h
  · split
    · exact h
    · split
      · exact hc
      · exact hc
theorem rdH_w {ys : List Int} : ∀ (n : Nat) (st : Int) (s : hR), wdB s.2.2.1 → wdB (rdH ys n st s).2.2.1
  | 0, st, s, h => h
  | n + 1, st, s, h => by
    show wdB (if st = 0 then s else if lat ys (pkB ys s.1.1) = -1 then pkH ys s else rdH ys n (rdCl ys (pkH ys s)).1 (rdCl ys (pkH ys s)).2).2.2.1
    split
    · exact h
    · split
      · exact h
      · exact rdH_w n _ _ (rdCl_w (s := pkH ys s) h)
theorem hdR_w (ys : List Int) : wdB (hdR ys).2.2.1 := rdH_w 160 1 _ (fun x hx => by cases hx)
theorem bkP.put {tx : List Int} {gs : List gG} {i w : Int} (h : bkP tx gs) (hw : 0 ≤ w ∧ w ≤ 63) : bkP (lput tx i w) gs := by
  obtain ⟨⟨b1, b2, b3, b4, b5, b6⟩, po⟩ := h
  have hl : (lput tx i w).length = tx.length := lpL ..
  refine ⟨⟨b1, fun q hq => ?_, b3, ?_, b5, b6⟩, po⟩
  · rw [rwLl hl]; exact b2 q hq
  · have m := b4.m
    exact wdM.w ⟨m.1.put hw, m.2⟩
/-- what stands between calls -/
def siS (S : gbS) : Prop := bkA S ∧ (∀ b : Int, 0 ≤ b → b < S.1.length → -1 ≤ (gbq S b).2.2.1) ∧ (∀ h : Int, 0 ≤ h → h < 4 → hInv (ghq S h) ∧ wdB (ghq S h).2.1) ∧ byP S.2.2.1
theorem siS.ini : siS gbE := by
  refine ⟨fun b b0 b1 => ?_, fun b b0 b1 => ?_, fun h h0 h1 => ?_, fun y hy => by cases hy⟩
  · have b1 : b < (0 : Int) := b1; omega
  · have b1 : b < (0 : Int) := b1; omega
  · rw [ghq_E h0 h1]; exact ⟨hInv_E, fun x hx => by cases hx⟩
theorem siS.feed {S : gbS} {n x : Int} (h : siS S) : siS (aFeed S n x).2 := by
  unfold aFeed
  split
  · exact h
  · split
    · exact h
    · refine ⟨h.1, h.2.1, h.2.2.1, fun y hy => ?_⟩
      rcases List.mem_append.mp hy with z | z
      · exact h.2.2.2 y z
      · exact fdF_nn x _ y z
theorem siS.told {S : gbS} {fa : Int} (h : siS S) : siS (S.1, S.2.1, [], fa) := ⟨h.1, h.2.1, h.2.2.1, fun y hy => by cases hy⟩
theorem siS.book {S : gbS} {lf : Int} (h : siS S) (hb : S.1.length < 10 → (bkR S.2.2.1 lf).1.2.2.1 = 0 → bkP (bkR S.2.2.1 lf).2.1 (bkR S.2.2.1 lf).2.2.1) : siS (aBook S lf).2 := by
  unfold aBook
  split
  · rename_i c
    split
    · rename_i c2
      refine ⟨h.1.app (hb c c2), fun b b0 b1 => ?_, h.2.2.1, fun y hy => by cases hy⟩
      have b1 : b < ((S.1 ++ [((bkR S.2.2.1 lf).2.1, (bkR S.2.2.1 lf).2.2.1, -1, -1, List.replicate 6 0, List.replicate 6 0)]).length : Int) := b1
      rw [List.length_append] at b1
      have b1 : b < S.1.length + 1 := b1
      show -1 ≤ (gbq (S.1 ++ [_], _) b).2.2.1
      rw [gbq_app b0 b1]
      split
      · show (-1 : Int) ≤ -1; omega
      · exact h.2.1 b b0 (by omega)
    · exact h.told
  · exact h
theorem siS.hand {S : gbS} {x : Int} (h4 : S.2.1.length = 4) (h : siS S) : siS (aHand S x).2 := by
  unfold aHand
  split
  · rename_i c
    split
    · exact h
    · split
      · rename_i c2
        refine ⟨h.1, h.2.1, fun y y0 y1 => ?_, fun y hy => by cases hy⟩
        show hInv (ghq (S.1, S.2.1.set x.toNat (hdR S.2.2.1).2, _) y) ∧ wdB (ghq (S.1, S.2.1.set x.toNat (hdR S.2.2.1).2, _) y).2.1
        rw [ghq_set h4 c y0]
        split
        · exact ⟨((hdR_ok S.2.2.1).2 c2).1, hdR_w _⟩
        · exact h.2.2.1 y y0 y1
      · exact h.told
  · exact h
theorem siS.copy {S : gbS} {b x : Int} (h : siS S) (hb : bkA S → bkA (aCopy S b x).2) : siS (aCopy S b x).2 := by
  have hb2 := hb h.1
  unfold aCopy at hb2 ⊢
  split
  · rename_i c
    rw [if_pos c] at hb2
    split
    · rename_i c2
      rw [if_pos c2] at hb2
      refine ⟨hb2, fun y y0 y1 => ?_, h.2.2.1, h.2.2.2⟩
      have y1 : y < ((S.1 ++ [((cpE (gbq S b) (ghq S x)).1, (cpE (gbq S b) (ghq S x)).2.1, b, x, (cpE (gbq S b) (ghq S x)).2.2.1, (cpE (gbq S b) (ghq S x)).2.2.2)]).length : Int) := y1
      rw [List.length_append] at y1
      have y1 : y < S.1.length + 1 := y1
      show -1 ≤ (gbq (S.1 ++ [_], _) y).2.2.1
      rw [gbq_app y0 y1]
      split
      · show -1 ≤ b; omega
      · exact h.2.1 y y0 (by omega)
    · exact h
  · exact h
theorem siS.setb {S : gbS} {b : Int} {q : gbB} (h : siS S) (b0 : 0 ≤ b) (b1 : b < S.1.length) (hq : bkP q.1 q.2.1) (he : q.2.2.1 = (gbq S b).2.2.1) : siS (S.1.set b.toNat q, S.2) := by
  refine ⟨h.1.set b0 b1 hq, fun y y0 y1 => ?_, h.2.2.1, h.2.2.2⟩
  have y1 : y < ((S.1.set b.toNat q).length : Int) := y1
  rw [List.length_set] at y1
  rw [gbq_set b0 b1 y0]
  split
  · rw [he]; exact h.2.1 b b0 b1
  · exact h.2.1 y y0 y1
theorem siS.amend {S : gbS} {b i w : Int} (h : siS S) : siS (aAmend S b i w).2 := by
  unfold aAmend
  split
  · rename_i c
    split
    · rename_i c2
      exact h.setb c.1 c.2 ((h.1 b c.1 c.2).put c2.2) rfl
    · exact h
  · exact h
theorem siS.lift {S : gbS} {b g : Int} (h : siS S) (hb : bkA S → bkA (aLift S b g).2) : siS (aLift S b g).2 := by
  have hb2 := hb h.1
  unfold aLift at hb2 ⊢
  split
  · rename_i c
    rw [if_pos c] at hb2
    split
    · rename_i c2
      rw [if_pos c2] at hb2
      have z := hb2 b c.1 (by show b < ((S.1.set b.toNat _).length : Int); rw [List.length_set]; exact c.2)
      have z : bkP (gbq (S.1.set b.toNat ((gbq S b).1, lfG (gbq S b) g, (gbq S b).2.2), S.2) b).1 (gbq (S.1.set b.toNat ((gbq S b).1, lfG (gbq S b) g, (gbq S b).2.2), S.2) b).2.1 := z
      rw [gbq_set c.1 c.2 c.1, if_pos rfl] at z
      exact h.setb c.1 c.2 z rfl
    · exact h
  · exact h
theorem bkP.nil : bkP [] [] := by
  have nk : ∀ k : Int, 0 ≤ k → ¬ k < (([] : List gG).length : Int) := fun k k0 k1 => by have k1 : k < (0 : Int) := k1; omega
  refine ⟨⟨fun q hq => (by cases hq), fun q hq => (by cases hq), fun k q hk => (by cases hk), ?_, fun g g0 g1 => absurd g1 (nk g g0), fun q hq => (by cases hq)⟩, fun j k j0 jk k1 => absurd k1 (nk k (by omega))⟩
  exact wdM.w ⟨fun x hx => (by cases hx), fun k k0 k1 => absurd k1 (nk k k0)⟩
theorem gbq_n (S : gbS) (b : Int) : gbq S b = gbD ∨ (∃ c : Int, 0 ≤ c ∧ c < S.1.length ∧ gbq S b = gbq S c) := by
  by_cases h : b.toNat < S.1.length
  · exact Or.inr ⟨b.toNat, by omega, by omega, rfl⟩
  · left
    unfold gbq
    rw [List.getD_eq_getElem?_getD, List.getElem?_eq_none (by omega)]; rfl
/-- of any number: a book -/
theorem siS.any {V : Int → Int → Int} {S : gbS} (h : siS S) (hm : mdIs V S) (b : Int) : bkP (gbq S b).1 (gbq S b).2.1 ∧ gBd (gbq S b).2.1 100 ∧ (gbq S b).1.length ≤ 40 ∧ (∀ q ∈ (gbq S b).2.1, q.2.2.2.2.2.length ≤ 8) ∧ wfS ((gbq S b).1, (gbq S b).2.1, List.replicate 6 0, List.replicate 6 0) := by
  rcases gbq_n S b with e | ⟨c, c0, c1, e⟩
  · rw [e]
    have w := (bkP.nil.wk (c := (List.replicate 6 0, List.replicate 6 0)) (by decide) (by decide) (fun k k0 k1 => by have k1 : k < (0 : Int) := k1; omega)).1
    exact ⟨bkP.nil, fun q hq => (by cases hq), by decide, fun q hq => (by cases hq), w⟩
  · rw [e]
    have k := hm.2.2.2.1 c c0 c1
    have w := ((h.1 c c0 c1).wk (c := (List.replicate 6 0, List.replicate 6 0)) k.1.2.1 k.1.2.2.2.2.1 (fun g g0 g1 => (k.1.gl g0 g1).2.2.2.1)).1
    refine ⟨h.1 c c0 c1, w.2.2.2.1, k.1.2.1, fun q hq => ?_, w⟩
    obtain ⟨g, g0, g1, eg⟩ := gqI hq
    rw [← eg]; exact (k.1.gl g0 g1).2.2.2.1
theorem siS.wd {S : gbS} (h : siS S) : wdA' S := fun b b0 b1 x hx => ((h.1 b b0 b1).1.2.2.2.1).m.1 x hx
