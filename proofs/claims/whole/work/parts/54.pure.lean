/-! Witnesses: the class's way and the reference's come to the same. By hand. -/
theorem cntB_cg {f g : Nat → Bool} : ∀ {n : Nat}, (∀ k, k < n → f k = g k) → cntB f n = cntB g n
  | 0, _ => rfl
  | n + 1, h => by
    show cntB f n + (if f n = true then 1 else 0) = cntB g n + (if g n = true then 1 else 0)
    rw [cntB_cg (fun k hk => h k (by omega)), h n (by omega)]
theorem cntB_out {f : Nat → Bool} {n : Nat} : ∀ {m : Nat}, n ≤ m → (∀ k, n ≤ k → k < m → f k = false) → cntB f m = cntB f n
  | 0, h, _ => by rw [show n = 0 by omega]
  | m + 1, h, hf => by
    by_cases e : n = m + 1
    · rw [e]
    · show cntB f m + (if f m = true then 1 else 0) = _
      rw [hf m (by omega) (by omega), if_neg (by decide), cntB_out (by omega) (fun k h1 h2 => hf k h1 (by omega))]
      omega
theorem cntB_le {f g : Nat → Bool} : ∀ {n : Nat}, (∀ k, k < n → f k = true → g k = true) → cntB f n ≤ cntB g n
  | 0, _ => Int.le_refl _
  | n + 1, h => by
    have i := cntB_le (n := n) (fun k hk => h k (by omega))
    show cntB f n + (if f n = true then 1 else 0) ≤ cntB g n + (if g n = true then 1 else 0)
    by_cases c : f n = true
    · rw [if_pos c, if_pos (h n (by omega) c)]; omega
    · rw [if_neg c]; split <;> omega
theorem cntB_lt {f g : Nat → Bool} : ∀ {n k : Nat}, (∀ k, k < n → f k = true → g k = true) → k < n → f k = false → g k = true → cntB f n < cntB g n
  | 0, _, _, h, _, _ => absurd h (by omega)
  | n + 1, k, h, hk, h1, h2 => by
    show cntB f n + (if f n = true then 1 else 0) < cntB g n + (if g n = true then 1 else 0)
    by_cases e : k = n
    · subst e
      have i := cntB_le (n := k) (fun j hj => h j (by omega))
      rw [if_neg (by rw [h1]; decide), if_pos h2]; omega
    · have i := cntB_lt (n := n) (k := k) (fun j hj => h j (by omega)) (by omega) h1 h2
      by_cases c : f n = true
      · rw [if_pos c, if_pos (h n (by omega) c)]; omega
      · rw [if_neg c]; split <;> omega
theorem cntB_0 {f : Nat → Bool} {n : Nat} (h : cntB f n = 0) {k : Nat} (hk : k < n) : f k = false := by
  cases c : f k with
  | false => rfl
  | true =>
    have := cntB_lt (f := fun _ => false) (g := f) (n := n) (k := k) (fun _ _ h => by cases h) hk rfl c
    have h0 := (cntB_bd (fun _ => false) n).1
    omega
section FOLD
variable {α : Type} (f : Int → α → α) (rd : List Int) (se i : Int)
def foldR : Nat → Int → α → α
  | 0, _, x => x
  | k + 1, r, x => foldR k (r + 1) (f r x)
def foldN : Nat → Int → α → α
  | 0, _, x => x
  | k + 1, r, x => if r < 64 then foldN k (nrd rd se i r) (f r x) else x
end FOLD
def isRd (rd : List Int) (se i r : Int) : Prop := ∃ b : Int, inB se b = true ∧ hrd rd b i = r
def cAb (rd : List Int) (se i r : Int) : Int := cntB (fun b => inB se (b : Int) && decide (r < hrd rd (b : Int) i)) 10
theorem nrF_sp {rd : List Int} {se i a : Int} : ∀ (k : Nat) (b m : Int), a < m → m ≤ 64 → a < nrF rd se i a k b m ∧ nrF rd se i a k b m ≤ m ∧ (nrF rd se i a k b m < m → isRd rd se i (nrF rd se i a k b m)) ∧ ∀ c : Int, b ≤ c → c < b + k → inB se c = true → a < hrd rd c i → nrF rd se i a k b m ≤ hrd rd c i
  | 0, b, m, h, h2 => ⟨h, Int.le_refl _, fun z => absurd z (Int.lt_irrefl _), fun c h1 h2 => absurd h2 (by omega)⟩
  | k + 1, b, m, h, h2 => by
    by_cases c : inB se b = true ∧ a < hrd rd b i
    · have e : nrF rd se i a (k + 1) b m = nrF rd se i a k (b + 1) (min m (hrd rd b i)) := by
        show nrF rd se i a k (b + 1) (if _ then _ else _) = _
        rw [if_pos c]
      rw [e]
      have hm : a < min m (hrd rd b i) := by omega
      obtain ⟨p1, p2, p3, p4⟩ := nrF_sp (rd := rd) (se := se) (i := i) (a := a) k (b + 1) (min m (hrd rd b i)) hm (by omega)
      refine ⟨p1, by omega, fun z => ?_, fun d h3 h4 h5 h6 => ?_⟩
      · by_cases e2 : nrF rd se i a k (b + 1) (min m (hrd rd b i)) < min m (hrd rd b i)
        · exact p3 e2
        · exact ⟨b, c.1, by omega⟩
      · by_cases e2 : d = b
        · subst e2; omega
        · exact p4 d (by omega) (by omega) h5 h6
    · have e : nrF rd se i a (k + 1) b m = nrF rd se i a k (b + 1) m := by
        show nrF rd se i a k (b + 1) (if _ then _ else _) = _
        rw [if_neg c]
      rw [e]
      obtain ⟨p1, p2, p3, p4⟩ := nrF_sp (rd := rd) (se := se) (i := i) (a := a) k (b + 1) m h h2
      refine ⟨p1, p2, p3, fun d h3 h4 h5 h6 => ?_⟩
      by_cases e2 : d = b
      · subst e2; exact absurd ⟨h5, h6⟩ c
      · exact p4 d (by omega) (by omega) h5 h6
theorem inB_rg {se b : Int} (h : inB se b = true) : 0 ≤ b ∧ b < 10 := by
  unfold inB at h
  simp only [decide_eq_true_eq] at h
  exact ⟨h.1, h.2.1⟩
theorem nrd_sp {rd : List Int} {se i a : Int} (h : a < 64) : a < nrd rd se i a ∧ nrd rd se i a ≤ 64 ∧ (nrd rd se i a < 64 → isRd rd se i (nrd rd se i a)) ∧ ∀ c : Int, inB se c = true → a < hrd rd c i → nrd rd se i a ≤ hrd rd c i := by
  obtain ⟨p1, p2, p3, p4⟩ := nrF_sp (rd := rd) (se := se) (i := i) (a := a) 10 0 64 h (by omega)
  exact ⟨p1, p2, p3, fun c h1 h2 => p4 c (by have := inB_rg h1; omega) (by have := inB_rg h1; omega) h1 h2⟩
theorem foldR_sk {α : Type} {f : Int → α → α} {I : α → Prop} {rd : List Int} {se i : Int} (hid : ∀ r x, I x → ¬ isRd rd se i r → f r x = x) : ∀ (k : Nat) (r s : Int) (x : α), I x → r ≤ s → s ≤ r + k → (∀ t, r ≤ t → t < s → ¬ isRd rd se i t) → foldR f k r x = foldR f (k - (s - r).toNat) s x
  | 0, r, s, x, hI, h1, h2, h3 => by
    have e : s = r := by omega
    rw [e, show 0 - (r - r).toNat = 0 by omega]
  | k + 1, r, s, x, hI, h1, h2, h3 => by
    by_cases e : s = r
    · rw [e, show (r - r).toNat = 0 by omega]; rfl
    · show foldR f k (r + 1) (f r x) = _
      rw [hid r x hI (h3 r (by omega) (by omega)), foldR_sk hid k (r + 1) s x hI (by omega) (by omega) (fun t h4 h5 => h3 t (by omega) h5), show k - (s - (r + 1)).toNat = k + 1 - (s - r).toNat by omega]
theorem foldN_R {α : Type} {f : Int → α → α} {I : α → Prop} {rd : List Int} {se i : Int} (hI : ∀ r x, I x → I (f r x)) (hid : ∀ r x, I x → ¬ isRd rd se i r → f r x = x) : ∀ (k : Nat) (r : Int) (x : α), I x → -2 ≤ r → r < 64 → cAb rd se i r ≤ k → foldN f rd se i k (nrd rd se i r) x = foldR f (63 - r).toNat (r + 1) x := by
  intro k
  induction k with
  | zero =>
    intro r x hx h0 h1 hc
    have hz := cntB_bd (fun b => inB se ((b : Nat) : Int) && decide (r < hrd rd ((b : Nat) : Int) i)) 10
    obtain ⟨p1, p2, p3, p4⟩ := nrd_sp (rd := rd) (se := se) (i := i) h1
    have hno : ∀ t, r + 1 ≤ t → t < 64 → ¬ isRd rd se i t := by
      rintro t t0 t1 ⟨b, hb, hr⟩
      have hb2 := inB_rg hb
      have h2 := cntB_0 (f := fun b => inB se ((b : Nat) : Int) && decide (r < hrd rd ((b : Nat) : Int) i)) (n := 10) (by have : cAb rd se i r ≤ 0 := hc; unfold cAb at this; omega) (k := b.toNat) (by omega)
      have e : ((b.toNat : Nat) : Int) = b := Int.toNat_of_nonneg hb2.1
      simp only [e, hb, Bool.true_and, decide_eq_false_iff_not] at h2
      omega
    rw [foldR_sk hid _ (r + 1) 64 x hx (by omega) (by omega) hno, show (63 - r).toNat - (64 - (r + 1)).toNat = 0 by omega]
    rfl
  | succ k ih =>
    intro r x hx h0 h1 hc
    obtain ⟨p1, p2, p3, p4⟩ := nrd_sp (rd := rd) (se := se) (i := i) h1
    have hno : ∀ t, r + 1 ≤ t → t < nrd rd se i r → ¬ isRd rd se i t := by
      rintro t t0 t1 ⟨b, hb, hr⟩
      have := p4 b hb (by omega)
      omega
    rw [foldR_sk hid _ (r + 1) (nrd rd se i r) x hx (by omega) (by omega) hno]
    by_cases c : nrd rd se i r < 64
    · show (if nrd rd se i r < 64 then _ else _) = _
      rw [if_pos c, show (63 - r).toNat - (nrd rd se i r - (r + 1)).toNat = (63 - nrd rd se i r).toNat + 1 by omega]
      show _ = foldR f (63 - nrd rd se i r).toNat (nrd rd se i r + 1) (f (nrd rd se i r) x)
      refine ih (nrd rd se i r) _ (hI _ _ hx) (by omega) c ?_
      obtain ⟨b, hb, hr⟩ := p3 c
      have hb2 := inB_rg hb
      have e : ((b.toNat : Nat) : Int) = b := Int.toNat_of_nonneg hb2.1
      have := cntB_lt (f := fun b => inB se ((b : Nat) : Int) && decide (nrd rd se i r < hrd rd ((b : Nat) : Int) i)) (g := fun b => inB se ((b : Nat) : Int) && decide (r < hrd rd ((b : Nat) : Int) i)) (n := 10) (k := b.toNat) (fun j hj hz => by
        simp only [Bool.and_eq_true, decide_eq_true_eq] at hz ⊢
        exact ⟨hz.1, by omega⟩) (by omega) (by simp only [e, hb, Bool.true_and, decide_eq_false_iff_not]; omega) (by simp only [e, hb, Bool.true_and, decide_eq_true_eq]; omega)
      unfold cAb at hc ⊢
      omega
    · show (if nrd rd se i r < 64 then _ else _) = _
      rw [if_neg c, show (63 - r).toNat - (nrd rd se i r - (r + 1)).toNat = 0 by omega]
      rfl
-- readings
theorem lpL (xs : List Int) (i x : Int) : (lput xs i x).length = xs.length := by
  unfold lput
  split
  · rfl
  · exact List.length_set
theorem latP {xs : List Int} {i x k : Int} (h0 : 0 ≤ i) (h1 : i < xs.length) (k0 : 0 ≤ k) : lat (lput xs i x) k = if k = i then x else lat xs k := by
  have e1 : lput xs i x = xs.set i.toNat x := if_neg (by omega)
  rw [e1]
  unfold lat
  by_cases e : k = i
  · rw [if_pos e, if_neg (by omega), e, List.getD_eq_getElem?_getD, List.getElem?_set_self (by omega)]
    rfl
  · rw [if_neg e, if_neg (by omega), if_neg (by omega), List.getD_eq_getElem?_getD, List.getD_eq_getElem?_getD, List.getElem?_set_ne (by omega)]
theorem hwI_len (tb pa : List Int) (b : Int) : ∀ (j : Nat) (i : Int) (rd : List Int), (hwI tb pa b j i rd).length = rd.length
  | 0, _, _ => rfl
  | j + 1, i, rd => by
    show (hwI tb pa b j (i + 1) _).length = _
    rw [hwI_len tb pa b j, lpL]
theorem hwI_at {tb pa : List Int} {b : Int} : ∀ (j : Nat) (i k : Int) (rd : List Int), 0 ≤ b * 40 + i → b * 40 + i + j ≤ rd.length → 0 ≤ k → lat (hwI tb pa b j i rd) k = if b * 40 + i ≤ k ∧ k < b * 40 + i + j then lat tb (lat pa (k - b * 40)) else lat rd k
  | 0, i, k, rd, _, _, _ => by rw [if_neg (by omega)]; rfl
  | j + 1, i, k, rd, h0, h1, h2 => by
    show lat (hwI tb pa b j (i + 1) (lput rd (b * 40 + i) (lat tb (lat pa i)))) k = _
    rw [hwI_at j (i + 1) k _ (by omega) (by rw [lpL]; omega) h2]
    by_cases c : b * 40 + (i + 1) ≤ k ∧ k < b * 40 + (i + 1) + j
    · rw [if_pos c, if_pos (by omega)]
    · rw [if_neg c, latP h0 (by omega) h2]
      by_cases e : k = b * 40 + i
      · rw [if_pos e, if_pos (by omega), show k - b * 40 = i by omega]
      · rw [if_neg e, if_neg (by omega)]
theorem hwF_at {S : gbS} {ba se : Int} (hl : (gbX S ba).length ≤ 40) {b0 i0 : Int} (hb0 : 0 ≤ b0) (hi0 : 0 ≤ i0) (hi1 : i0 < (gbX S ba).length) : ∀ (j : Nat) (b : Int) (rd : List Int), 0 ≤ b → b + j ≤ 10 → rd.length = 400 → lat (hwF S ba se j b rd) (b0 * 40 + i0) = if (b ≤ b0 ∧ b0 < b + j) ∧ (b0 = ba ∨ inB se b0 = true) then rdg S ba b0 i0 else lat rd (b0 * 40 + i0)
  | 0, b, rd, _, _, _ => by rw [if_neg (by omega)]; rfl
  | j + 1, b, rd, h0, h1, h2 => by
    by_cases c : b = ba ∨ inB se b = true
    · have e : hwF S ba se (j + 1) b rd = hwF S ba se j (b + 1) (hwI (gbX S b) (alg (gbX S ba) (gbX S b) 0) b (gbX S ba).length 0 rd) := by
        show hwF S ba se j (b + 1) (if _ then _ else _) = _
        rw [if_pos c]
      rw [e, hwF_at hl hb0 hi0 hi1 j (b + 1) _ (by omega) (by omega) (by rw [hwI_len]; exact h2)]
      by_cases c2 : (b + 1 ≤ b0 ∧ b0 < b + 1 + j) ∧ (b0 = ba ∨ inB se b0 = true)
      · rw [if_pos c2, if_pos ⟨by omega, c2.2⟩]
      · rw [if_neg c2, hwI_at _ _ _ _ (by omega) (by omega) (by omega)]
        by_cases e2 : b0 = b
        · subst e2
          rw [if_pos (by omega), if_pos ⟨by omega, c⟩, show b0 * 40 + i0 - b0 * 40 = i0 by omega]
          rfl
        · rw [if_neg (by omega), if_neg (fun z => c2 ⟨by omega, z.2⟩)]
    · have e : hwF S ba se (j + 1) b rd = hwF S ba se j (b + 1) rd := by
        show hwF S ba se j (b + 1) (if _ then _ else _) = _
        rw [if_neg c]
      rw [e, hwF_at hl hb0 hi0 hi1 j (b + 1) rd (by omega) (by omega) h2]
      by_cases c2 : (b + 1 ≤ b0 ∧ b0 < b + 1 + j) ∧ (b0 = ba ∨ inB se b0 = true)
      · rw [if_pos c2, if_pos ⟨by omega, c2.2⟩]
      · rw [if_neg c2, if_neg (fun z => c2 ⟨by
          by_cases e2 : b0 = b
          · subst e2; exact absurd z.2 c
          · omega, z.2⟩)]
theorem hwR_at {S : gbS} {ba se b i : Int} (hn : S.1.length ≤ 10) (hl : (gbX S ba).length ≤ 40) (hb : 0 ≤ b ∧ b < S.1.length) (ho : b = ba ∨ inB se b = true) (hi : 0 ≤ i ∧ i < (gbX S ba).length) : hrd (hwR S ba se) b i = rdg S ba b i := by
  unfold hrd hwR
  rw [hwF_at hl hb.1 hi.1 hi.2 S.1.length 0 _ (by omega) (by omega) List.length_replicate, if_pos ⟨by omega, ho⟩]
-- what most have
theorem inB_bt {se b : Int} (h : 0 ≤ b ∧ b < 10) : inB se b = true ↔ btM se b := by
  unfold inB btM
  simp only [decide_eq_true_eq]
  exact ⟨fun z => z.2.2, fun z => ⟨h.1, h.2, z⟩⟩
theorem bt_hi {se b : Int} {n : Nat} (hn : n ≤ 10) (hs : 0 ≤ se ∧ se < ((2 ^ n : Nat) : Int)) (hb : (n : Int) ≤ b ∧ b < 10) : ¬ btM se b := by
  obtain ⟨m, rfl⟩ := toN hs.1
  obtain ⟨c, rfl⟩ := toN (show 0 ≤ b by omega)
  have h2 : (2 ^ n : Nat) ≤ 2 ^ 10 := Nat.pow_le_pow_right (by decide) hn
  have hm : m < 2 ^ n := by omega
  rw [bt_iff (by omega) (by omega)]
  have hc : n ≤ c := by omega
  have h3 : m < 2 ^ c := Nat.lt_of_lt_of_le hm (Nat.pow_le_pow_right (by decide) hc)
  rw [Nat.testBit_lt_two_pow h3]
  decide
theorem vtF_cnt {rd : List Int} {ba se i r : Int} : ∀ (k b : Nat) (n : Int), n = cntB (fun b => decide (((b : Int) = ba ∨ inB se (b : Int) = true) ∧ hrd rd (b : Int) i = r)) b → vtF rd ba se i r k b n = cntB (fun b => decide (((b : Int) = ba ∨ inB se (b : Int) = true) ∧ hrd rd (b : Int) i = r)) (b + k)
  | 0, b, n, h => h
  | k + 1, b, n, h => by
    show vtF rd ba se i r k ((b : Int) + 1) _ = _
    have e := vtF_cnt (rd := rd) (ba := ba) (se := se) (i := i) (r := r) k (b + 1) (if ((b : Int) = ba ∨ inB se (b : Int) = true) ∧ hrd rd (b : Int) i = r then n + 1 else n) (by
      show _ = cntB _ b + _
      rw [← h]
      by_cases c : ((b : Int) = ba ∨ inB se (b : Int) = true) ∧ hrd rd (b : Int) i = r
      · rw [if_pos c, if_pos (decide_eq_true c)]
      · rw [if_neg c, if_neg (by rw [decide_eq_true_eq]; exact c)]; omega)
    rw [show ((b + 1 : Nat) : Int) = (b : Int) + 1 by omega] at e
    rw [e, show b + 1 + k = b + (k + 1) by omega]
theorem hvC_vts {S : gbS} {ba se i r : Int} (hn : S.1.length ≤ 10) (hl : (gbX S ba).length ≤ 40) (hba : 0 ≤ ba ∧ ba < S.1.length) (hs : 0 ≤ se ∧ se < ((2 ^ S.1.length : Nat) : Int)) (hi : 0 ≤ i ∧ i < (gbX S ba).length) : hvC S ba (gor se (gshl 1 ba)) i r = vts (hwR S ba se) ba se i r := by
  have h2 : (2 ^ S.1.length : Nat) ≤ 2 ^ 10 := Nat.pow_le_pow_right (by decide) hn
  have e9 : vts (hwR S ba se) ba se i r = cntB (fun b => decide (((b : Int) = ba ∨ inB se (b : Int) = true) ∧ hrd (hwR S ba se) (b : Int) i = r)) 10 := vtF_cnt 10 0 0 rfl
  rw [e9]
  unfold hvC
  rw [cntB_out (f := fun b => decide (((b : Int) = ba ∨ inB se (b : Int) = true) ∧ hrd (hwR S ba se) (b : Int) i = r)) (n := S.1.length) (m := 10) hn (fun k h3 h4 => by
    rw [decide_eq_false_iff_not]
    rintro ⟨z | z, -⟩
    · omega
    · exact bt_hi hn hs ⟨by omega, by omega⟩ ((inB_bt ⟨by omega, by omega⟩).mp z))]
  refine cntB_cg fun k hk => ?_
  have hb := bt_gor (se := se) (ba := ba) (b := (k : Int)) ⟨hs.1, by omega⟩ ⟨by omega, by omega⟩ ⟨by omega, by omega⟩
  rw [← Bool.decide_and, decide_eq_decide]
  show btM (gor se (gshl 1 ba)) (k : Int) ∧ rdg S ba k i = r ↔ _
  rw [hb, ← inB_bt ⟨by omega, by omega⟩]
  constructor
  · rintro ⟨z1, z2⟩; exact ⟨z1, by rw [hwR_at hn hl ⟨by omega, by omega⟩ z1 hi]; exact z2⟩
  · rintro ⟨z1, z2⟩; exact ⟨z1, by rw [← hwR_at hn hl ⟨by omega, by omega⟩ z1 hi]; exact z2⟩
/-- one step of the search for what most have -/
def mst (hv : Int → Int) (r : Int) (p : Int × Int) : Int × Int := if p.2 < hv r then (r, hv r) else p
theorem mmF_R {S : gbS} {ba al i : Int} : ∀ (k : Nat) (r be mn : Int), mmF S ba al i k r be mn = (foldR (mst (hvC S ba al i)) k r (be, mn)).1
  | 0, _, _, _ => rfl
  | k + 1, r, be, mn => by
    show mmF S ba al i k (r + 1) _ _ = (foldR _ k (r + 1) (mst _ r (be, mn))).1
    rw [mmF_R k]
    unfold mst
    by_cases c : mn < hvC S ba al i r
    · rw [if_pos c, if_pos c, if_pos c]
    · rw [if_neg c, if_neg c, if_neg c]
theorem moF_N {rd : List Int} {ba se i : Int} : ∀ (k : Nat) (r be mn : Int), moF rd ba se i k r be mn = (foldN (mst (vts rd ba se i)) rd se i k r (be, mn)).1
  | 0, _, _, _ => rfl
  | k + 1, r, be, mn => by
    show (if r < 64 then moF rd ba se i k _ _ _ else be) = (if r < 64 then foldN _ rd se i k _ (mst _ r (be, mn)) else (be, mn)).1
    by_cases c0 : r < 64
    · rw [if_pos c0, if_pos c0, moF_N k]
      unfold mst
      by_cases c : mn < vts rd ba se i r
      · rw [if_pos c, if_pos c, if_pos c]
      · rw [if_neg c, if_neg c, if_neg c]
    · rw [if_neg c0, if_neg c0]
theorem vts_0 {rd : List Int} {ba se i r : Int} (h : ¬ isRd rd se i r) (h2 : hrd rd ba i ≠ r) : vts rd ba se i r = 0 := by
  have e9 : vts rd ba se i r = cntB (fun b => decide (((b : Int) = ba ∨ inB se (b : Int) = true) ∧ hrd rd (b : Int) i = r)) 10 := vtF_cnt 10 0 0 rfl
  rw [e9, cntB_out (n := 0) (m := 10) (by omega) (fun k _ _ => by
    rw [decide_eq_false_iff_not]
    rintro ⟨z | z, z2⟩
    · rw [z] at z2; exact h2 z2
    · exact h ⟨_, z, z2⟩)]
  rfl
theorem foldR_eq {α : Type} {f g : Int → α → α} (h : ∀ r x, f r x = g r x) : f = g := funext fun r => funext fun x => h r x
theorem mmA_moA {S : gbS} {ba se i : Int} (hn : S.1.length ≤ 10) (hl : (gbX S ba).length ≤ 40) (hba : 0 ≤ ba ∧ ba < S.1.length) (hs : 0 ≤ se ∧ se < ((2 ^ S.1.length : Nat) : Int)) (hi : 0 ≤ i ∧ i < (gbX S ba).length) : mmA S ba se i = moA (hwR S ba se) ba se i := by
  unfold mmA moA
  rw [mmF_R, moF_N, hwR_at hn hl hba (Or.inl rfl) hi, hvC_vts hn hl hba hs hi]
  have e : hvC S ba (gor se (gshl 1 ba)) i = vts (hwR S ba se) ba se i := funext fun r => hvC_vts hn hl hba hs hi
  rw [e]
  have h := foldN_R (f := mst (vts (hwR S ba se) ba se i)) (I := fun p => vts (hwR S ba se) ba se i (rdg S ba ba i) ≤ p.2) (rd := hwR S ba se) (se := se) (i := i) (fun r x hx => by
      unfold mst
      split
      · show vts (hwR S ba se) ba se i (rdg S ba ba i) ≤ vts (hwR S ba se) ba se i r
        have : vts (hwR S ba se) ba se i (rdg S ba ba i) ≤ x.2 := hx
        omega
      · exact hx) (fun r x hx hr => by
      unfold mst
      rw [if_neg]
      have hx2 : vts (hwR S ba se) ba se i (rdg S ba ba i) ≤ x.2 := hx
      by_cases c : hrd (hwR S ba se) ba i = r
      · rw [← c, hwR_at hn hl hba (Or.inl rfl) hi]; omega
      · rw [vts_0 hr c]
        have := (vtF_bd (rd := hwR S ba se) (ba := ba) (se := se) (i := i) (r := rdg S ba ba i) 10 0 0).1
        unfold vts at hx2
        omega) 10 (-2) (rdg S ba ba i, vts (hwR S ba se) ba se i (rdg S ba ba i)) (Int.le_refl _) (by omega) (by omega) (by unfold cAb; exact (cntB_bd _ 10).2)
  rw [h]
  rfl
-- a set of books
theorem ush_z : ∀ (k : Nat), k ≤ 10 → ∀ x : Int32, ((x.toUInt32 >>> ((Int32.ofInt (k : Int)).toUInt32 &&& Int32.toUInt32 31)).toInt32).toInt = 0 ↔ x.toUInt32.toNat < 2 ^ k := by
  intro k hk x
  have h1 : ∀ k : Fin 11, ((Int32.ofInt ((k : Nat) : Int)).toUInt32 &&& Int32.toUInt32 31).toNat = (k : Nat) := by decide +kernel
  have h2 := h1 ⟨k, by omega⟩
  have e : (x.toUInt32 >>> ((Int32.ofInt (k : Int)).toUInt32 &&& Int32.toUInt32 31)).toNat = x.toUInt32.toNat / 2 ^ k := by
    rw [UInt32.toNat_shiftRight, h2, Nat.mod_eq_of_lt (by omega), Nat.shiftRight_eq_div_pow]
  generalize x.toUInt32 >>> ((Int32.ofInt (k : Int)).toUInt32 &&& Int32.toUInt32 31) = y at e
  have hy : y.toInt32.toInt = 0 ↔ y.toNat = 0 := by
    constructor
    · intro h
      have : y.toInt32 = 0 := by rw [← Int32.toInt_inj]; exact h
      have h3 : y = 0 := by
        have h4 : y = Int32.toUInt32 0 := by
          have := congrArg Int32.toUInt32 this
          simpa using this
        exact h4
      rw [h3]; rfl
    · intro h
      have : y = 0 := UInt32.toNat_inj.mp h
      rw [this]; rfl
  rw [hy, e]
  constructor
  · intro h
    exact (Nat.div_eq_zero_iff_lt (Nat.two_pow_pos k)).mp h
  · intro h
    exact Nat.div_eq_of_lt h
theorem isS_iff {n : Nat} {se : Int} (hn : n ≤ 10) (h : in32 se) : isS n se = true ↔ 0 ≤ se ∧ se < ((2 ^ n : Nat) : Int) := by
  unfold isS gushr
  rw [decide_eq_true_eq, ush_z n hn]
  have h2 : (2 ^ n : Nat) ≤ 2 ^ 10 := Nat.pow_le_pow_right (by decide) hn
  have e : (Int32.ofInt se).toUInt32.toNat = (se % 4294967296).toNat := by
    show (BitVec.ofInt 32 se).toNat = _
    rw [BitVec.toNat_ofInt]
    rfl
  rw [e]
  have h3 := h.1
  have h4 := h.2
  omega
