/-! Sets of words as bits of a long; what explains what. By hand. -/
def lb (x k : Int) : Bool := (Int64.ofInt x).toBitVec.getLsbD k.toNat
theorem and1 (Y : Int64) : (Y &&& 1).toInt = if Y.toBitVec.getLsbD 0 = true then 1 else 0 := by
  have e : (Y &&& 1).toBitVec = if Y.toBitVec.getLsbD 0 = true then BitVec.twoPow 64 0 else 0#64 := by
    rw [Int64.toBitVec_and, show Int64.toBitVec 1 = BitVec.twoPow 64 0 from by decide]
    exact BitVec.and_twoPow _ _
  by_cases c : Y.toBitVec.getLsbD 0 = true
  · rw [if_pos c] at e ⊢
    have : Y &&& 1 = 1 := Int64.toBitVec_inj.mp (by rw [e]; rfl)
    rw [this]; rfl
  · rw [if_neg c] at e ⊢
    have : Y &&& 1 = 0 := Int64.toBitVec_inj.mp (by rw [e]; rfl)
    rw [this]; rfl
theorem i64_1 : Int64.ofInt 1 = 1 := rfl
theorem sh_amt : ∀ k : Fin 64, (((Int32.ofInt ((k : Nat) : Int)).toInt64 &&& 63).toBitVec.smod 64).toNat = (k : Nat) := by decide +kernel
theorem ush_amt : ∀ k : Fin 64, (((Int32.ofInt ((k : Nat) : Int)).toInt64.toUInt64 &&& Int64.toUInt64 63).toBitVec % 64).toNat = (k : Nat) := by decide +kernel
theorem glshr_b {x k : Int} (h0 : 0 ≤ k) (h1 : k < 64) : gland (glshr x k) 1 = if lb x k = true then 1 else 0 := by
  obtain ⟨n, rfl⟩ := toN h0
  unfold gland glshr
  rw [Int64.ofInt_toInt, i64_1, and1]
  have e : (Int64.ofInt x >>> ((Int32.ofInt (n : Int)).toInt64 &&& 63)).toBitVec.getLsbD 0 = lb x n := by
    rw [Int64.toBitVec_shiftRight]
    show ((Int64.ofInt x).toBitVec.sshiftRight (((Int32.ofInt (n : Int)).toInt64 &&& 63).toBitVec.smod 64).toNat).getLsbD 0 = _
    rw [sh_amt ⟨n, by omega⟩, BitVec.getLsbD_sshiftRight]
    show (!decide (64 ≤ 0) && if n + 0 < 64 then _ else _) = _
    rw [if_pos (by omega)]
    show (true && _) = _
    rw [Bool.true_and]
    rfl
  rw [e]
theorem glushr_b {x k : Int} (h0 : 0 ≤ k) (h1 : k < 64) : gland (glushr x k) 1 = if lb x k = true then 1 else 0 := by
  obtain ⟨n, rfl⟩ := toN h0
  unfold gland glushr
  rw [Int64.ofInt_toInt, i64_1, and1]
  have e : ((((Int64.ofInt x).toUInt64 >>> ((Int32.ofInt (n : Int)).toInt64.toUInt64 &&& Int64.toUInt64 63)).toInt64).toBitVec).getLsbD 0 = lb x n := by
    show ((Int64.ofInt x).toUInt64 >>> ((Int32.ofInt (n : Int)).toInt64.toUInt64 &&& Int64.toUInt64 63)).toBitVec.getLsbD 0 = _
    rw [UInt64.toBitVec_shiftRight]
    show ((Int64.ofInt x).toBitVec >>> (((Int32.ofInt (n : Int)).toInt64.toUInt64 &&& Int64.toUInt64 63).toBitVec % 64).toNat).getLsbD 0 = _
    rw [ush_amt ⟨n, by omega⟩, BitVec.getLsbD_ushiftRight]
    rfl
  rw [e]
theorem lb_or (x y k : Int) : lb (glor x y) k = (lb x k || lb y k) := by
  unfold lb glor
  rw [Int64.ofInt_toInt, Int64.toBitVec_or, BitVec.getLsbD_or]
theorem lb_and (x y k : Int) : lb (gland x y) k = (lb x k && lb y k) := by
  unfold lb gland
  rw [Int64.ofInt_toInt, Int64.toBitVec_and, BitVec.getLsbD_and]
theorem m1_b : ∀ k : Fin 64, (Int64.ofInt (-1)).toBitVec.getLsbD (k : Nat) = true := by decide +kernel
theorem lb_not {x k : Int} (h0 : 0 ≤ k) (h1 : k < 64) : lb (glxor x (-1)) k = !lb x k := by
  unfold lb glxor
  rw [Int64.ofInt_toInt, Int64.toBitVec_xor, BitVec.getLsbD_xor, m1_b ⟨k.toNat, by omega⟩]
  cases (Int64.ofInt x).toBitVec.getLsbD k.toNat <;> rfl
theorem shl_b : ∀ (w k : Fin 64), (Int64.ofInt (glshl 1 ((w : Nat) : Int))).toBitVec.getLsbD (k : Nat) = decide (k = w) := by decide +kernel
theorem lb_one {w k : Int} (h0 : 0 ≤ w) (h1 : w < 64) (k0 : 0 ≤ k) (k1 : k < 64) : lb (glshl 1 w) k = decide (k = w) := by
  obtain ⟨n, rfl⟩ := toN h0
  obtain ⟨m, rfl⟩ := toN k0
  have h := shl_b ⟨n, by omega⟩ ⟨m, by omega⟩
  have e : lb (glshl 1 (n : Int)) (m : Int) = decide ((⟨m, by omega⟩ : Fin 64) = ⟨n, by omega⟩) := h
  rw [e, decide_eq_decide, Fin.mk.injEq]
  omega
theorem lb_0 (k : Int) : lb 0 k = false := by
  unfold lb
  show (0#64).getLsbD k.toNat = false
  exact BitVec.getLsbD_zero
theorem lb_ext {x y : Int} (hx : in64 x) (hy : in64 y) (h : ∀ k : Int, 0 ≤ k → k < 64 → lb x k = lb y k) : x = y := by
  have e : Int64.ofInt x = Int64.ofInt y := by
    apply Int64.toBitVec_inj.mp
    apply BitVec.eq_of_getLsbD_eq
    intro i hi
    exact h i (by omega) (by omega)
  rw [← i64_toInt hx, ← i64_toInt hy, e]
theorem glor_in (x y : Int) : in64 (glor x y) := in64_toInt _
theorem gland_in (x y : Int) : in64 (gland x y) := in64_toInt _
theorem glshl_in (x y : Int) : in64 (glshl x y) := in64_toInt _
-- what explains what
def exE (tx : List Int) (gs : List gG) (x k : Int) : Prop := ∃ g : Int, 0 ≤ g ∧ g < gs.length ∧ lml (gq gs g) = 1 ∧ (gq gs g).2.2.2.2.2.length = 1 ∧ lat (rwL tx gs (gq gs g).2.1) (gq gs g).2.2.1 = x ∧ lat (gq gs g).2.2.2.2.2 0 = k
/-- the words of a book are words -/
def wdQ (tx : List Int) (gs : List gG) : Prop := ∀ g : Int, 0 ≤ g → g < gs.length → (0 ≤ lat (rwL tx gs (gq gs g).2.1) (gq gs g).2.2.1 ∧ lat (rwL tx gs (gq gs g).2.1) (gq gs g).2.2.1 ≤ 63) ∧ ((gq gs g).2.2.2.2.2.length = 1 → 0 ≤ lat (gq gs g).2.2.2.2.2 0 ∧ lat (gq gs g).2.2.2.2.2 0 ≤ 63)
theorem bkOk.wq {tx : List Int} {gs : List gG} (h : bkOk tx gs) : wdQ tx gs := by
  intro g g0 g1
  have hs := h.sp g0 g1
  have hr := hs.2.1.rg
  refine ⟨h.2.2.2.1 _ _ hs.2.2.1 (by have := hs.2.2.2.1; have := hs.2.2.2.2; omega), fun hl => ?_⟩
  have := h.2.2.2.1 g 0 (by omega) (by rw [rwL_p ⟨g0, g1⟩, hl]; decide)
  rw [rwL_p ⟨g0, g1⟩] at this
  exact this
theorem exF_b {tx : List Int} {gs : List gG} {ws : Int} (hw : wdQ tx gs) {k : Int} (k0 : 0 ≤ k) (k1 : k < 64) : ∀ (n : Nat) (g s : Int), 0 ≤ g → g + n = gs.length → (lb (exF tx gs ws n g s) k = true ↔ (lb s k = true ∨ ∃ c : Int, g ≤ c ∧ c < gs.length ∧ exG tx gs ws (gq gs c) = true ∧ lat (gq gs c).2.2.2.2.2 0 = k))
  | 0, g, s, h0, h1 => ⟨fun z => Or.inl z, fun z => z.resolve_right fun ⟨c, c0, c1, _⟩ => by omega⟩
  | n + 1, g, s, h0, h1 => by
    have ih := exF_b (ws := ws) hw k0 k1 n (g + 1) (if exG tx gs ws (gq gs g) = true then glor s (glshl 1 (lat (gq gs g).2.2.2.2.2 0)) else s) (by omega) (by omega)
    have e : exF tx gs ws (n + 1) g s = exF tx gs ws n (g + 1) (if exG tx gs ws (gq gs g) = true then glor s (glshl 1 (lat (gq gs g).2.2.2.2.2 0)) else s) := rfl
    rw [e, ih]
    by_cases c : exG tx gs ws (gq gs g) = true
    · rw [if_pos c]
      have hl : (gq gs g).2.2.2.2.2.length = 1 := by
        unfold exG at c
        simp only [Bool.and_eq_true, decide_eq_true_eq] at c
        exact c.1.1.1.2
      have hq := (hw g h0 (by omega)).2 hl
      rw [lb_or, Bool.or_eq_true, lb_one hq.1 (by omega) k0 k1, decide_eq_true_eq]
      constructor
      · rintro ((z | z) | ⟨d, d0, d1, d2, d3⟩)
        · exact Or.inl z
        · exact Or.inr ⟨g, Int.le_refl _, by omega, c, z.symm⟩
        · exact Or.inr ⟨d, by omega, d1, d2, d3⟩
      · rintro (z | ⟨d, d0, d1, d2, d3⟩)
        · exact Or.inl (Or.inl z)
        · by_cases ed : d = g
          · subst ed; exact Or.inl (Or.inr d3.symm)
          · exact Or.inr ⟨d, by omega, d1, d2, d3⟩
    · rw [if_neg c]
      constructor
      · rintro (z | ⟨d, d0, d1, d2, d3⟩)
        · exact Or.inl z
        · exact Or.inr ⟨d, by omega, d1, d2, d3⟩
      · rintro (z | ⟨d, d0, d1, d2, d3⟩)
        · exact Or.inl z
        · by_cases ed : d = g
          · subst ed; exact absurd d2 c
          · exact Or.inr ⟨d, by omega, d1, d2, d3⟩
theorem expl_b {tx : List Int} {gs : List gG} {ws : Int} (hw : wdQ tx gs) {k : Int} (k0 : 0 ≤ k) (k1 : k < 64) : lb (expl tx gs ws) k = true ↔ ∃ x : Int, 0 ≤ x ∧ x < 64 ∧ lb ws x = true ∧ exE tx gs x k := by
  unfold expl
  rw [exF_b hw k0 k1 gs.length 0 0 (by omega) (by omega), lb_0]
  constructor
  · rintro (z | ⟨c, c0, c1, c2, c3⟩)
    · cases z
    · unfold exG at c2
      simp only [Bool.and_eq_true, decide_eq_true_eq] at c2
      obtain ⟨⟨⟨⟨a1, a2⟩, a3⟩, a4⟩, a5⟩ := c2
      rw [glushr_b a3.1 (by omega)] at a5
      refine ⟨_, a3.1, by omega, ?_, c, c0, c1, a1, a2, rfl, c3⟩
      exact Decidable.byContradiction fun z => by rw [if_neg z] at a5; omega
  · rintro ⟨x, x0, x1, x2, c, c0, c1, a1, a2, a3, a4⟩
    refine Or.inr ⟨c, c0, c1, ?_, a4⟩
    have hq := hw c c0 c1
    have hq2 := hq.2 a2
    unfold exG
    simp only [Bool.and_eq_true, decide_eq_true_eq]
    refine ⟨⟨⟨⟨a1, a2⟩, hq.1⟩, hq2⟩, ?_⟩
    rw [a3, glushr_b x0 (by omega), if_pos x2]
theorem expl_in (tx : List Int) (gs : List gG) (ws : Int) : in64 (expl tx gs ws) := by
  have : ∀ (n : Nat) (g s : Int), in64 s → in64 (exF tx gs ws n g s) := by
    intro n
    induction n with
    | zero => intro g s h; exact h
    | succ n ih =>
      intro g s h
      show in64 (exF tx gs ws n (g + 1) (if _ then _ else _))
      split
      · exact ih _ _ (glor_in _ _)
      · exact ih _ _ h
  exact this _ 0 0 ⟨by decide, by decide⟩
/-- the reference's way: what one word is explained by -/
def exW (tx : List Int) (gs : List gG) (w : Int) : Nat → Int → Int → Int
  | 0, _, s => s
  | n + 1, g, s => exW tx gs w n (g + 1) (if lml (gq gs g) = 1 ∧ lat (rwL tx gs (gq gs g).2.1) (gq gs g).2.2.1 = w ∧ (gq gs g).2.2.2.2.2.length = 1 then glor s (glshl 1 (lat (gq gs g).2.2.2.2.2 0)) else s)
theorem exW_exF {tx : List Int} {gs : List gG} {w : Int} (hw : wdQ tx gs) (w0 : 0 ≤ w) (w1 : w < 64) : ∀ (n : Nat) (g s : Int), 0 ≤ g → g + n = gs.length → exW tx gs w n g s = exF tx gs (glshl 1 w) n g s
  | 0, _, _, _, _ => rfl
  | n + 1, g, s, h0, h1 => by
    have e1 : exW tx gs w (n + 1) g s = exW tx gs w n (g + 1) (if lml (gq gs g) = 1 ∧ lat (rwL tx gs (gq gs g).2.1) (gq gs g).2.2.1 = w ∧ (gq gs g).2.2.2.2.2.length = 1 then glor s (glshl 1 (lat (gq gs g).2.2.2.2.2 0)) else s) := rfl
    have e2 : exF tx gs (glshl 1 w) (n + 1) g s = exF tx gs (glshl 1 w) n (g + 1) (if exG tx gs (glshl 1 w) (gq gs g) = true then glor s (glshl 1 (lat (gq gs g).2.2.2.2.2 0)) else s) := rfl
    rw [e1, e2, exW_exF hw w0 w1 n (g + 1) _ (by omega) (by omega)]
    have hq := hw g h0 (by omega)
    have hc : (lml (gq gs g) = 1 ∧ lat (rwL tx gs (gq gs g).2.1) (gq gs g).2.2.1 = w ∧ (gq gs g).2.2.2.2.2.length = 1) ↔ exG tx gs (glshl 1 w) (gq gs g) = true := by
      unfold exG
      simp only [Bool.and_eq_true, decide_eq_true_eq]
      rw [glushr_b hq.1.1 (by omega), lb_one w0 w1 hq.1.1 (by omega)]
      constructor
      · rintro ⟨a1, a2, a3⟩
        exact ⟨⟨⟨⟨a1, a3⟩, hq.1⟩, hq.2 a3⟩, by rw [if_pos (decide_eq_true a2)]⟩
      · rintro ⟨⟨⟨⟨a1, a2⟩, a3⟩, a4⟩, a5⟩
        refine ⟨a1, Decidable.byContradiction fun z => ?_, a2⟩
        rw [if_neg (by rw [decide_eq_true_eq]; exact z)] at a5
        omega
    by_cases c : exG tx gs (glshl 1 w) (gq gs g) = true
    · rw [if_pos c, if_pos (hc.mpr c)]
    · rw [if_neg c, if_neg (fun z => c (hc.mp z))]
theorem exW_expl {tx : List Int} {gs : List gG} {w : Int} (hw : wdQ tx gs) (w0 : 0 ≤ w) (w1 : w < 64) : exW tx gs w gs.length 0 0 = expl tx gs (glshl 1 w) := exW_exF hw w0 w1 _ 0 0 (by omega) (by omega)
