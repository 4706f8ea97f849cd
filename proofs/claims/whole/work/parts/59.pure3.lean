/-! Trees: the class's way and the reference's come to the same. By hand. -/
theorem and_bit {A : BitVec 32} {b : Nat} : A &&& BitVec.twoPow 32 b = 0#32 ↔ A.getLsbD b = false ∨ 32 ≤ b := by
  rw [BitVec.and_twoPow]
  by_cases h : A.getLsbD b = true
  · rw [if_pos h]
    have hb : b < 32 := Decidable.byContradiction fun z => by
      rw [BitVec.getLsbD_of_ge A b (by omega)] at h
      cases h
    constructor
    · intro z
      have h2 := congrArg BitVec.toNat z
      rw [BitVec.toNat_twoPow, Nat.mod_eq_of_lt (Nat.pow_lt_pow_right (by decide) hb)] at h2
      have := Nat.two_pow_pos b
      have h3 : (0#32).toNat = 0 := rfl
      omega
    · rintro (z | z)
      · rw [z] at h; cases h
      · omega
  · rw [if_neg h]
    exact ⟨fun _ => Or.inl (by simpa using h), fun _ => rfl⟩
theorem i32_bv (x : Int) : (Int32.ofInt x).toBitVec = BitVec.ofInt 32 x := rfl
theorem shl_bv : ∀ b : Fin 10, (Int32.ofInt (gshl 1 ((b : Nat) : Int))).toBitVec = BitVec.twoPow 32 (b : Nat) := by decide +kernel
theorem free_iff {se mm b : Nat} (hs : se < 1024) (hm : mm < 1024) (hb : b < 10) : ¬ gand (gand (se : Int) (gxor (mm : Int) (-1))) (gshl 1 (b : Int)) = 0 ↔ (se.testBit b = true ∧ mm.testBit b = false) := by
  unfold gand gxor
  rw [Int32.ofInt_toInt, Int32.ofInt_toInt]
  have e0 : ∀ X : Int32, X.toInt = 0 ↔ X.toBitVec = 0#32 := by
    intro X
    constructor
    · intro h
      have : X = 0 := by rw [← Int32.toInt_inj]; exact h
      rw [this]; rfl
    · intro h
      have : X = 0 := Int32.toBitVec_inj.mp h
      rw [this]; rfl
  rw [e0, Int32.toBitVec_and, shl_bv ⟨b, hb⟩, and_bit, Int32.toBitVec_and, Int32.toBitVec_xor, i32_bv, i32_bv, i32_bv]
  have e1 : (BitVec.ofInt 32 (se : Int)).getLsbD b = se.testBit b := by
    rw [BitVec.ofInt_natCast, BitVec.getLsbD_ofNat]
    simp only [show b < 32 by omega, decide_true, Bool.true_and]
  have e2 : (BitVec.ofInt 32 (mm : Int)).getLsbD b = mm.testBit b := by
    rw [BitVec.ofInt_natCast, BitVec.getLsbD_ofNat]
    simp only [show b < 32 by omega, decide_true, Bool.true_and]
  have e3 : (BitVec.ofInt 32 (-1)).getLsbD b = true := by
    have : ∀ b : Fin 10, (BitVec.ofInt 32 (-1)).getLsbD (b : Nat) = true := by decide +kernel
    exact this ⟨b, hb⟩
  rw [BitVec.getLsbD_and, BitVec.getLsbD_xor, e1, e2, e3]
  cases se.testBit b <;> cases mm.testBit b <;> simp <;> omega
def dsOk (S : gbS) (ds : List Int) (se : Int) : Prop := ∀ a b : Int, 0 ≤ a → a < S.1.length → 0 ≤ b → b < S.1.length → a ≠ b → inB se a = true → inB se b = true → apt ds a b = ed (gbX S a) (gbX S b)
-- the distances
theorem gtI_at {S : gbS} {se a : Int} (ha : 0 ≤ a ∧ a < 10) : ∀ (j : Nat) (b : Int) (ds : List Int), 0 ≤ b → b + j ≤ a → ds.length = 100 → (gtI S se a j b ds).length = 100 ∧ ∀ x y : Int, 0 ≤ x → x < 10 → 0 ≤ y → y < 10 → apt (gtI S se a j b ds) x y = if (x = a ∧ b ≤ y ∧ y < b + j ∧ inB se a = true ∧ inB se y = true) then ed (gbX S a) (gbX S y) else if (y = a ∧ b ≤ x ∧ x < b + j ∧ inB se a = true ∧ inB se x = true) then ed (gbX S a) (gbX S x) else apt ds x y
  | 0, b, ds, _, _, h => ⟨h, fun x y _ _ _ _ => by rw [if_neg (by omega), if_neg (by omega)]; rfl⟩
  | j + 1, b, ds, h0, h1, h => by
    by_cases c : inB se a = true ∧ inB se b = true
    · have e : gtI S se a (j + 1) b ds = gtI S se a j (b + 1) (lput (lput ds (a * 10 + b) (ed (gbX S a) (gbX S b))) (b * 10 + a) (ed (gbX S a) (gbX S b))) := by
        show gtI S se a j (b + 1) (if _ then _ else _) = _
        rw [if_pos c]
      rw [e]
      obtain ⟨p1, p2⟩ := gtI_at (S := S) (se := se) ha j (b + 1) (lput (lput ds (a * 10 + b) (ed (gbX S a) (gbX S b))) (b * 10 + a) (ed (gbX S a) (gbX S b))) (by omega) (by omega) (by rw [lpL, lpL]; exact h)
      refine ⟨p1, fun x y x0 x1 y0 y1 => ?_⟩
      rw [p2 x y x0 x1 y0 y1]
      have e2 : apt (lput (lput ds (a * 10 + b) (ed (gbX S a) (gbX S b))) (b * 10 + a) (ed (gbX S a) (gbX S b))) x y = if x * 10 + y = b * 10 + a then ed (gbX S a) (gbX S b) else if x * 10 + y = a * 10 + b then ed (gbX S a) (gbX S b) else apt ds x y := by
        unfold apt
        rw [latP (by omega) (by rw [lpL]; omega) (by omega), latP (by omega) (by omega) (by omega)]
      by_cases c1 : x = a ∧ b ≤ y ∧ y < b + ((j + 1 : Nat) : Int) ∧ inB se a = true ∧ inB se y = true
      · rw [if_pos c1]
        by_cases ey : y = b
        · rw [if_neg (by omega), if_neg (by omega), e2, if_neg (by omega), if_pos (by omega), ey]
        · rw [if_pos ⟨c1.1, by omega, by omega, c1.2.2.2⟩]
      · rw [if_neg c1, if_neg (fun z => c1 ⟨z.1, by omega, by omega, z.2.2.2⟩)]
        by_cases c2 : y = a ∧ b ≤ x ∧ x < b + ((j + 1 : Nat) : Int) ∧ inB se a = true ∧ inB se x = true
        · rw [if_pos c2]
          by_cases ex : x = b
          · rw [if_neg (by omega), e2, if_pos (by omega), ex]
          · rw [if_pos ⟨c2.1, by omega, by omega, c2.2.2.2⟩]
        · rw [if_neg c2, if_neg (fun z => c2 ⟨z.1, by omega, by omega, z.2.2.2⟩), e2]
          rw [if_neg (fun z => c2 ⟨by omega, by omega, by omega, c.1, by rw [show x = b by omega]; exact c.2⟩), if_neg (fun z => c1 ⟨by omega, by omega, by omega, c.1, by rw [show y = b by omega]; exact c.2⟩)]
    · have e : gtI S se a (j + 1) b ds = gtI S se a j (b + 1) ds := by
        show gtI S se a j (b + 1) (if _ then _ else _) = _
        rw [if_neg c]
      rw [e]
      obtain ⟨p1, p2⟩ := gtI_at (S := S) (se := se) ha j (b + 1) ds (by omega) (by omega) h
      refine ⟨p1, fun x y x0 x1 y0 y1 => ?_⟩
      rw [p2 x y x0 x1 y0 y1]
      by_cases c1 : x = a ∧ b ≤ y ∧ y < b + ((j + 1 : Nat) : Int) ∧ inB se a = true ∧ inB se y = true
      · have : y ≠ b := fun z => c ⟨c1.2.2.2.1, by rw [← z]; exact c1.2.2.2.2⟩
        rw [if_pos c1, if_pos ⟨c1.1, by omega, by omega, c1.2.2.2⟩]
      · rw [if_neg c1, if_neg (fun z => c1 ⟨z.1, by omega, by omega, z.2.2.2⟩)]
        by_cases c2 : y = a ∧ b ≤ x ∧ x < b + ((j + 1 : Nat) : Int) ∧ inB se a = true ∧ inB se x = true
        · have : x ≠ b := fun z => c ⟨c2.2.2.2.1, by rw [← z]; exact c2.2.2.2.2⟩
          rw [if_pos c2, if_pos ⟨c2.1, by omega, by omega, c2.2.2.2⟩]
        · rw [if_neg c2, if_neg (fun z => c2 ⟨z.1, by omega, by omega, z.2.2.2⟩)]
theorem gtF_ok {S : gbS} {se : Int} (hn : S.1.length ≤ 10) : ∀ (j : Nat) (a : Int) (ds : List Int), 0 ≤ a → a + j = S.1.length → ds.length = 100 → (∀ x y : Int, 0 ≤ x → x < a → 0 ≤ y → y < a → x ≠ y → inB se x = true → inB se y = true → apt ds x y = ed (gbX S x) (gbX S y)) → dsOk S (gtF S se j a ds) se
  | 0, a, ds, h0, h1, h2, h3 => fun x y x0 x1 y0 y1 hne hx hy => h3 x y x0 (by omega) y0 (by omega) hne hx hy
  | j + 1, a, ds, h0, h1, h2, h3 => by
    show dsOk S (gtF S se j (a + 1) (gtI S se a a.toNat 0 ds)) se
    obtain ⟨p1, p2⟩ := gtI_at (S := S) (se := se) (a := a) ⟨h0, by omega⟩ a.toNat 0 ds (by omega) (by omega) h2
    refine gtF_ok hn j (a + 1) _ (by omega) (by omega) p1 (fun x y x0 x1 y0 y1 hne hx hy => ?_)
    rw [p2 x y x0 (by omega) y0 (by omega)]
    by_cases ex : x = a
    · rw [if_pos ⟨ex, by omega, by omega, by rw [← ex]; exact hx, hy⟩, ex]
    · rw [if_neg (fun z => ex z.1)]
      by_cases ey : y = a
      · rw [if_pos ⟨ey, by omega, by omega, by rw [← ey]; exact hy, hx⟩, ey, ed_comm]
      · rw [if_neg (fun z => ey z.1)]
        exact h3 x y x0 (by omega) y0 (by omega) hne hx hy
theorem gtD_ok {S : gbS} {se : Int} (hn : S.1.length ≤ 10) : dsOk S (gtD S se) se := gtF_ok hn S.1.length 0 _ (by omega) (by omega) List.length_replicate (fun x y x0 x1 => by omega)
-- the next child, the reference's way
def ftA (D : Int → Int → Int) (mm b : Int) : Nat → Int → Int × Int × Int → Int × Int × Int
  | 0, _, s => s
  | j + 1, a, s => ftA D mm b j (a + 1) (if gand (gshr mm a) 1 = 1 ∧ (s.1 < 0 ∨ D a b < s.2.2) then (b, a, D a b) else s)
def ftB (D : Int → Int → Int) (n : Nat) (se mm : Int) : Nat → Int → Int × Int × Int → Int × Int × Int
  | 0, _, s => s
  | j + 1, b, s => ftB D n se mm j (b + 1) (if ¬ gand (gand se (gxor mm (-1))) (gshl 1 b) = 0 then ftA D mm b n 0 s else s)
def ftJ (D : Int → Int → Int) (b : Int) (s st : Int × Int × Int) (n : Int) : Prop := (n = -1 → st = s) ∧ (n ≠ -1 → ((s.1 < 0 ∨ D n b < s.2.2) → st = (b, n, D n b)) ∧ (¬ (s.1 < 0 ∨ D n b < s.2.2) → st = s))
theorem ftA_ne {S : gbS} {ds : List Int} {D : Int → Int → Int} {mm b : Int} {s : Int × Int × Int} {N : Nat} (hN : N ≤ 10) (hb : 0 ≤ b) (hD : ∀ a : Int, 0 ≤ a → a < N → inB mm a = true → D a b = apt ds a b) (hm : ∀ a : Int, N ≤ a → a < 10 → inB mm a = false) : ∀ (j : Nat) (a n : Int) (st : Int × Int × Int), 0 ≤ a → a + j = N → (n = -1 ∨ (0 ≤ n ∧ n < N ∧ inB mm n = true)) → ftJ D b s st n → ftJ D b s (ftA D mm b j a st) (neF ds b mm (10 - a.toNat) a n) ∧ (neF ds b mm (10 - a.toNat) a n = -1 ∨ (0 ≤ neF ds b mm (10 - a.toNat) a n ∧ neF ds b mm (10 - a.toNat) a n < N ∧ inB mm (neF ds b mm (10 - a.toNat) a n) = true))
  | 0, a, n, st, h0, h1, hn, hj => by
    have e : ∀ (k : Nat) (c : Int), (N : Int) ≤ c → c + k = 10 → neF ds b mm k c n = n := by
      intro k
      induction k with
      | zero => intro c _ _; rfl
      | succ k ih =>
        intro c hc hk
        show neF ds b mm k (c + 1) (if _ then _ else _) = n
        rw [if_neg (fun z => by rw [hm c hc (by omega)] at z; exact absurd z.1 (by decide))]
        exact ih (c + 1) (by omega) (by omega)
    rw [e (10 - a.toNat) a (by omega) (by omega)]
    exact ⟨hj, hn⟩
  | j + 1, a, n, st, h0, h1, hn, hj => by
    have en : neF ds b mm (10 - (a + 1).toNat + 1) a n = neF ds b mm (10 - (a + 1).toNat) (a + 1) (if inB mm a = true ∧ (n = -1 ∨ apt ds a b < apt ds n b) then a else n) := rfl
    have ef : ftA D mm b (j + 1) a st = ftA D mm b j (a + 1) (if gand (gshr mm a) 1 = 1 ∧ (st.1 < 0 ∨ D a b < st.2.2) then (b, a, D a b) else st) := rfl
    rw [show 10 - a.toNat = (10 - (a + 1).toNat) + 1 by omega, en, ef]
    by_cases ca : inB mm a = true
    · have cb : gand (gshr mm a) 1 = 1 := (inB_bt ⟨h0, by omega⟩).mp ca
      have hDa := hD a h0 (by omega) ca
      by_cases cn : n = -1 ∨ apt ds a b < apt ds n b
      · have e1 : (if inB mm a = true ∧ (n = -1 ∨ apt ds a b < apt ds n b) then a else n) = a := if_pos ⟨ca, cn⟩
        have key : ftJ D b s (if gand (gshr mm a) 1 = 1 ∧ (st.1 < 0 ∨ D a b < st.2.2) then (b, a, D a b) else st) a := by
          refine ⟨fun z => by omega, fun _ => ?_⟩
          by_cases c0 : n = -1
          · have hs := hj.1 c0
            rw [hs]
            exact ⟨fun z => if_pos ⟨cb, z⟩, fun z => if_neg (fun y => z y.2)⟩
          · have hDn := hD n (by omega) (by omega) (by rcases hn with z | z; exact absurd z c0; exact z.2.2)
            obtain ⟨q1, q2⟩ := hj.2 c0
            by_cases c1 : s.1 < 0 ∨ D n b < s.2.2
            · rw [q1 c1]
              refine ⟨fun _ => if_pos ⟨cb, Or.inr (by show D a b < D n b; omega)⟩, fun z => absurd ?_ z⟩
              rcases c1 with c1 | c1
              · exact Or.inl c1
              · exact Or.inr (by omega)
            · rw [q2 c1]
              exact ⟨fun z => if_pos ⟨cb, z⟩, fun z => if_neg (fun y => z y.2)⟩
        have r := ftA_ne (S := S) (ds := ds) (D := D) (mm := mm) (b := b) (s := s) hN hb hD hm j (a + 1) a _ (by omega) (by omega) (Or.inr ⟨h0, by omega, ca⟩) key
        rw [e1]
        exact r
      · have e1 : (if inB mm a = true ∧ (n = -1 ∨ apt ds a b < apt ds n b) then a else n) = n := if_neg (fun z => cn z.2)
        have c0 : n ≠ -1 := fun z => cn (Or.inl z)
        have hDn := hD n (by omega) (by omega) (by rcases hn with z | z; exact absurd z c0; exact z.2.2)
        have key : ftJ D b s (if gand (gshr mm a) 1 = 1 ∧ (st.1 < 0 ∨ D a b < st.2.2) then (b, a, D a b) else st) n := by
          refine ⟨fun z => absurd z c0, fun _ => ?_⟩
          obtain ⟨q1, q2⟩ := hj.2 c0
          by_cases c1 : s.1 < 0 ∨ D n b < s.2.2
          · rw [q1 c1]
            refine ⟨fun _ => if_neg (fun y => ?_), fun z => absurd c1 z⟩
            rcases y.2 with y | y
            · have : b < 0 := y; omega
            · have : D a b < D n b := y; omega
          · rw [q2 c1]
            refine ⟨fun z => absurd z c1, fun _ => if_neg (fun y => ?_)⟩
            rcases y.2 with y | y
            · exact c1 (Or.inl y)
            · exact c1 (Or.inr (by omega))
        have r := ftA_ne (S := S) (ds := ds) (D := D) (mm := mm) (b := b) (s := s) hN hb hD hm j (a + 1) n _ (by omega) (by omega) hn key
        rw [e1]
        exact r
    · have cb : ¬ gand (gshr mm a) 1 = 1 := fun z => ca ((inB_bt ⟨h0, by omega⟩).mpr z)
      have e1 : (if inB mm a = true ∧ (n = -1 ∨ apt ds a b < apt ds n b) then a else n) = n := if_neg (fun z => ca z.1)
      have e2 : (if gand (gshr mm a) 1 = 1 ∧ (st.1 < 0 ∨ D a b < st.2.2) then (b, a, D a b) else st) = st := if_neg (fun z => cb z.1)
      rw [e1, e2]
      exact ftA_ne (S := S) (ds := ds) (D := D) (mm := mm) (b := b) (s := s) hN hb hD hm j (a + 1) n st (by omega) (by omega) hn hj
theorem neF_ne {ds : List Int} {b mm : Int} : ∀ (j : Nat) (a n : Int), 0 ≤ a → (n ≠ -1 ∨ ∃ c, a ≤ c ∧ c < a + j ∧ inB mm c = true) → neF ds b mm j a n ≠ -1
  | 0, a, n, _, h => by
    rcases h with h | ⟨c, h1, h2, _⟩
    · exact h
    · omega
  | j + 1, a, n, h0, h => by
    show neF ds b mm j (a + 1) (if _ then _ else _) ≠ -1
    by_cases c : inB mm a = true ∧ (n = -1 ∨ apt ds a b < apt ds n b)
    · rw [if_pos c]
      exact neF_ne j (a + 1) a (by omega) (Or.inl (by omega))
    · rw [if_neg c]
      refine neF_ne j (a + 1) n (by omega) ?_
      rcases h with h | ⟨d, h1, h2, h3⟩
      · exact Or.inl h
      · by_cases e : d = a
        · refine Or.inl fun z => c ⟨by rw [← e]; exact h3, Or.inl z⟩
        · exact Or.inr ⟨d, by omega, by omega, h3⟩
def enc (ds : List Int) (p : Int × Int) : Int × Int × Int := (p.1, p.2, if p.1 = -1 then 0 else apt ds p.2 p.1)
def edM (S : gbS) (a b : Int) : Int := ed (gbX S a) (gbX S b)
theorem ftB_nx {S : gbS} {ds : List Int} {se mm : Int} (hn : S.1.length ≤ 10) (hok : dsOk S ds se) (hse : 0 ≤ se ∧ se < ((2 ^ S.1.length : Nat) : Int)) (hmm : 0 ≤ mm ∧ mm < 1024) (hsub : ∀ a, inB mm a = true → inB se a = true) (hne : ∃ c, 0 ≤ c ∧ c < (S.1.length : Int) ∧ inB mm c = true) : ∀ (j : Nat) (b : Int) (p : Int × Int), 0 ≤ b → b + j = S.1.length → -1 ≤ p.1 → ftB (edM S) S.1.length se mm j b (enc ds p) = enc ds (nxF ds se mm (10 - b.toNat) b p)
  | 0, b, p, h0, h1, h2 => by
    have e : ∀ (k : Nat) (c : Int), (S.1.length : Int) ≤ c → c + k = 10 → nxF ds se mm k c p = p := by
      intro k
      induction k with
      | zero => intro c _ _; rfl
      | succ k ih =>
        intro c hc hk
        show nxF ds se mm k (c + 1) (if _ then _ else _) = p
        rw [if_neg (fun z => bt_hi hn hse ⟨hc, by omega⟩ ((inB_bt ⟨by omega, by omega⟩).mp z.1))]
        exact ih (c + 1) (by omega) (by omega)
    rw [e (10 - b.toNat) b (by omega) (by omega)]
    rfl
  | j + 1, b, p, h0, h1, h2 => by
    have hp2 : (2 ^ S.1.length : Nat) ≤ 2 ^ 10 := Nat.pow_le_pow_right (by decide) hn
    have en : nxF ds se mm (10 - (b + 1).toNat + 1) b p = nxF ds se mm (10 - (b + 1).toNat) (b + 1) (if inB se b = true ∧ inB mm b = false ∧ (p.1 = -1 ∨ apt ds (nea ds b mm) b < apt ds p.2 p.1) then (b, nea ds b mm) else p) := rfl
    have ef : ftB (edM S) S.1.length se mm (j + 1) b (enc ds p) = ftB (edM S) S.1.length se mm j (b + 1) (if ¬ gand (gand se (gxor mm (-1))) (gshl 1 b) = 0 then ftA (edM S) mm b S.1.length 0 (enc ds p) else enc ds p) := rfl
    rw [show 10 - b.toNat = (10 - (b + 1).toNat) + 1 by omega, en, ef]
    have hfree : ¬ gand (gand se (gxor mm (-1))) (gshl 1 b) = 0 ↔ (inB se b = true ∧ inB mm b = false) := by
      obtain ⟨s1, e1⟩ := toN hse.1
      obtain ⟨m1, e2⟩ := toN hmm.1
      obtain ⟨b1, e3⟩ := toN h0
      subst e1 e2 e3
      rw [free_iff (by omega) (by omega) (by omega)]
      have q1 := (inB_bt (se := (s1 : Int)) (b := (b1 : Int)) ⟨by omega, by omega⟩).trans (bt_iff (m := s1) (b := b1) (by omega) (by omega))
      have q2 := (inB_bt (se := (m1 : Int)) (b := (b1 : Int)) ⟨by omega, by omega⟩).trans (bt_iff (m := m1) (b := b1) (by omega) (by omega))
      rw [q1]
      constructor
      · rintro ⟨z1, z2⟩; exact ⟨z1, by cases hz : inB (m1 : Int) (b1 : Int) with
          | false => rfl
          | true => rw [q2.mp hz] at z2; cases z2⟩
      · rintro ⟨z1, z2⟩; exact ⟨z1, by cases hz : m1.testBit b1 with
          | false => rfl
          | true => rw [q2.mpr hz] at z2; cases z2⟩
    by_cases cf : inB se b = true ∧ inB mm b = false
    · rw [if_pos (hfree.mpr cf)]
      have hD : ∀ a : Int, 0 ≤ a → a < S.1.length → inB mm a = true → edM S a b = apt ds a b := fun a a0 a1 ha => (hok a b a0 a1 h0 (by omega) (fun z => by rw [z, cf.2] at ha; cases ha) (hsub a ha) cf.1).symm
      have hm : ∀ a : Int, (S.1.length : Int) ≤ a → a < 10 → inB mm a = false := fun a a0 a1 => by
        cases hz : inB mm a with
        | false => rfl
        | true => exact absurd ((inB_bt ⟨by omega, by omega⟩).mp (hsub a hz)) (bt_hi hn hse ⟨a0, a1⟩)
      obtain ⟨hJ, hR⟩ := ftA_ne (S := S) (ds := ds) (D := edM S) (mm := mm) (b := b) (s := enc ds p) hn h0 hD hm S.1.length 0 (-1) (enc ds p) (by omega) (by omega) (Or.inl rfl) ⟨fun _ => rfl, fun z => absurd rfl z⟩
      have hnn : nea ds b mm ≠ -1 := by
        obtain ⟨c, c0, c1, c2⟩ := hne
        exact neF_ne 10 0 (-1) (by omega) (Or.inr ⟨c, c0, by omega, c2⟩)
      have hJ2 := hJ.2 hnn
      have hR2 : 0 ≤ nea ds b mm ∧ nea ds b mm < S.1.length ∧ inB mm (nea ds b mm) = true := by
        rcases hR with z | z
        · exact absurd z hnn
        · exact z
      have hDe := hD _ hR2.1 hR2.2.1 hR2.2.2
      by_cases cp : p.1 = -1 ∨ apt ds (nea ds b mm) b < apt ds p.2 p.1
      · have hz : (enc ds p).1 < 0 ∨ edM S (nea ds b mm) b < (enc ds p).2.2 := by
          rcases cp with cp | cp
          · exact Or.inl (by show p.1 < 0; omega)
          · by_cases c9 : p.1 = -1
            · exact Or.inl (by show p.1 < 0; omega)
            · refine Or.inr ?_
              show _ < (if p.1 = -1 then 0 else apt ds p.2 p.1)
              rw [if_neg c9, hDe]
              exact cp
        have e5 : ftA (edM S) mm b S.1.length 0 (enc ds p) = (b, nea ds b mm, edM S (nea ds b mm) b) := hJ2.1 hz
        rw [if_pos ⟨cf.1, cf.2, cp⟩, e5]
        have e6 : (b, nea ds b mm, edM S (nea ds b mm) b) = enc ds (b, nea ds b mm) := by
          unfold enc
          rw [if_neg (by show ¬ b = -1; omega), hDe]
        rw [e6]
        exact ftB_nx hn hok hse hmm hsub hne j (b + 1) _ (by omega) (by omega) (by show -1 ≤ b; omega)
      · have c9 : p.1 ≠ -1 := fun z => cp (Or.inl z)
        have hz : ¬ ((enc ds p).1 < 0 ∨ edM S (nea ds b mm) b < (enc ds p).2.2) := by
          rintro (z | z)
          · have : p.1 < 0 := z; omega
          · have z2 : edM S (nea ds b mm) b < (if p.1 = -1 then 0 else apt ds p.2 p.1) := z
            rw [if_neg c9, hDe] at z2
            exact cp (Or.inr z2)
        have e5 : ftA (edM S) mm b S.1.length 0 (enc ds p) = enc ds p := hJ2.2 hz
        rw [if_neg (fun z => cp z.2.2), e5]
        exact ftB_nx hn hok hse hmm hsub hne j (b + 1) p (by omega) (by omega) h2
    · rw [if_neg (fun z => cf (hfree.mp z)), if_neg (fun z => cf ⟨z.1, z.2.1⟩)]
      exact ftB_nx hn hok hse hmm hsub hne j (b + 1) p (by omega) (by omega) h2
-- what is still to come in
def leF9 (se mm : Int) : Int := cntB (fun b => inB se (b : Int) && !inB mm (b : Int)) 10
theorem nxF_in2 {ds : List Int} {se mm : Int} : ∀ (j : Nat) (b : Int) (p : Int × Int), 0 ≤ b → b + j ≤ 10 → (p.1 = -1 ∨ (inB se p.1 = true ∧ inB mm p.1 = false)) → ((nxF ds se mm j b p).1 = -1 → p.1 = -1 ∧ ∀ c, b ≤ c → c < b + j → ¬ (inB se c = true ∧ inB mm c = false)) ∧ ((nxF ds se mm j b p).1 = -1 ∨ (inB se (nxF ds se mm j b p).1 = true ∧ inB mm (nxF ds se mm j b p).1 = false))
  | 0, b, p, _, _, h => ⟨fun z => ⟨z, fun c h1 h2 => by omega⟩, h⟩
  | j + 1, b, p, h0, h1, h => by
    by_cases c : inB se b = true ∧ inB mm b = false ∧ (p.1 = -1 ∨ apt ds (nea ds b mm) b < apt ds p.2 p.1)
    · have e : nxF ds se mm (j + 1) b p = nxF ds se mm j (b + 1) (b, nea ds b mm) := by
        show nxF ds se mm j (b + 1) (if _ then _ else _) = _
        rw [if_pos c]
      rw [e]
      obtain ⟨p1, p2⟩ := nxF_in2 (ds := ds) (se := se) (mm := mm) j (b + 1) (b, nea ds b mm) (by omega) (by omega) (Or.inr ⟨c.1, c.2.1⟩)
      exact ⟨fun z => by have := (p1 z).1; have : b = -1 := this; omega, p2⟩
    · have e : nxF ds se mm (j + 1) b p = nxF ds se mm j (b + 1) p := by
        show nxF ds se mm j (b + 1) (if _ then _ else _) = _
        rw [if_neg c]
      rw [e]
      obtain ⟨p1, p2⟩ := nxF_in2 (ds := ds) (se := se) (mm := mm) j (b + 1) p (by omega) (by omega) h
      refine ⟨fun z => ⟨(p1 z).1, fun d h3 h4 hd => ?_⟩, p2⟩
      by_cases ed : d = b
      · subst ed; exact c ⟨hd.1, hd.2, Or.inl (p1 z).1⟩
      · exact (p1 z).2 d (by omega) (by omega) hd
