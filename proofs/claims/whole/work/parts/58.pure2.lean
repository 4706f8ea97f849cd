/-! The groups come out the same. By hand. -/
theorem popc_up : ∀ (m : Fin 1024) (b : Fin 10), (m : Nat) < 2 ^ (b : Nat) → popc (gor ((m : Nat) : Int) (gshl 1 ((b : Nat) : Int))) = popc ((m : Nat) : Int) + 1 := by decide +kernel
theorem popc_or {m : Int} {b : Nat} (h0 : 0 ≤ m) (h1 : m < ((2 ^ b : Nat) : Int)) (hb : b < 10) : popc (gor m (gshl 1 (b : Int))) = popc m + 1 := by
  obtain ⟨n, rfl⟩ := toN h0
  have hp := pow_lt hb
  exact popc_up ⟨n, by omega⟩ ⟨b, hb⟩ (by show n < 2 ^ b; omega)
theorem gor_pw {m : Int} {b : Nat} (h0 : 0 ≤ m) (h1 : m < ((2 ^ b : Nat) : Int)) (hb : b < 10) : 0 ≤ gor m (gshl 1 (b : Int)) ∧ gor m (gshl 1 (b : Int)) < ((2 ^ (b + 1) : Nat) : Int) := by
  obtain ⟨n, rfl⟩ := toN h0
  have hp := pow_lt hb
  have e := gor_nat ⟨n, by omega⟩ ⟨b, hb⟩
  have e2 : gor (n : Int) (gshl 1 (b : Int)) = ((n ||| 2 ^ b : Nat) : Int) := e
  rw [e2]
  have h2 : n ||| 2 ^ b < 2 ^ (b + 1) := Nat.or_lt_two_pow (Nat.lt_of_lt_of_le (show n < 2 ^ b by omega) (Nat.pow_le_pow_right (by decide) (by omega))) (Nat.pow_lt_pow_right (by decide) (by omega))
  omega
/-- the members, told by the reference's conditions -/
theorem mb_gm {S : gbS} {ba se i r : Int} {rd : List Int} {n : Nat} (hn : n ≤ 10) (hc : ∀ b : Nat, b < 10 → ((inB se (b : Int) = true ∧ hrd rd (b : Int) i = r) ↔ (b < n ∧ gand (gshr se (b : Int)) 1 = 1 ∧ (b : Int) ≠ ba ∧ rdg S ba (b : Int) i = r))) : ∀ (k b : Nat) (m c : Int), b + k = n → 0 ≤ m → m < ((2 ^ b : Nat) : Int) → c = popc m → gmF S ba se i r k b (m, c) = (mbF rd se i r (10 - b) b m, popc (mbF rd se i r (10 - b) b m))
  | 0, b, m, c, h, h0, h1, h2 => by
    have e : ∀ (j d : Nat), n ≤ d → d + j = 10 → mbF rd se i r j d m = m := by
      intro j
      induction j with
      | zero => intro d _ _; rfl
      | succ j ih =>
        intro d hd hj
        show mbF rd se i r j ((d : Int) + 1) (if _ then _ else _) = m
        rw [if_neg (fun z => by have := (hc d (by omega)).mp z; omega), show (d : Int) + 1 = ((d + 1 : Nat) : Int) by omega]
        exact ih (d + 1) (by omega) (by omega)
    rw [e (10 - b) b (by omega) (by omega), h2]
    rfl
  | k + 1, b, m, c, h, h0, h1, h2 => by
    rw [show 10 - b = (10 - (b + 1)) + 1 by omega]
    show gmF S ba se i r k ((b : Int) + 1) (if _ then _ else _) = (mbF rd se i r (10 - (b + 1)) ((b : Int) + 1) (if _ then _ else _), popc (mbF rd se i r (10 - (b + 1)) ((b : Int) + 1) (if _ then _ else _)))
    have hcb := hc b (by omega)
    by_cases cc : inB se (b : Int) = true ∧ hrd rd (b : Int) i = r
    · have cd := hcb.mp cc
      rw [if_pos cd.2, if_pos cc, show (b : Int) + 1 = ((b + 1 : Nat) : Int) by omega]
      have hg := gor_pw h0 h1 (show b < 10 by omega)
      exact mb_gm hn hc k (b + 1) _ _ (by omega) hg.1 hg.2 (by rw [popc_or h0 h1 (by omega), h2])
    · have cd : ¬ (gand (gshr se (b : Int)) 1 = 1 ∧ (b : Int) ≠ ba ∧ rdg S ba (b : Int) i = r) := fun z => cc (hcb.mpr ⟨by omega, z⟩)
      rw [if_neg cd, if_neg cc, show (b : Int) + 1 = ((b + 1 : Nat) : Int) by omega]
      exact mb_gm hn hc k (b + 1) m c (by omega) h0 (Int.lt_of_lt_of_le h1 (by
        have : (2 ^ b : Nat) ≤ 2 ^ (b + 1) := Nat.pow_le_pow_right (by decide) (by omega)
        omega)) h2
theorem gmP_mb {S : gbS} {ba se i r : Int} (hn : S.1.length ≤ 10) (hl : (gbX S ba).length ≤ 40) (hba : 0 ≤ ba ∧ ba < S.1.length) (hs : 0 ≤ se ∧ se < ((2 ^ S.1.length : Nat) : Int)) (hi : 0 ≤ i ∧ i < (gbX S ba).length) (hr : r ≠ rdg S ba ba i) : gmP S ba se i r = (mbs (hwR S ba se) se i r, popc (mbs (hwR S ba se) se i r)) := by
  have h := mb_gm (S := S) (ba := ba) (se := se) (i := i) (r := r) (rd := hwR S ba se) hn (fun b hb => by
    constructor
    · rintro ⟨z1, z2⟩
      have hbt := (inB_bt (se := se) (b := (b : Int)) ⟨by omega, by omega⟩).mp z1
      have hbn : b < S.1.length := Decidable.byContradiction fun z => bt_hi hn hs ⟨by omega, by omega⟩ hbt
      rw [hwR_at hn hl ⟨by omega, by omega⟩ (Or.inr z1) hi] at z2
      exact ⟨hbn, hbt, fun z => hr (by rw [← z, ← z2, z]), z2⟩
    · rintro ⟨z0, z1, z2, z3⟩
      have hb1 := (inB_bt (se := se) (b := (b : Int)) ⟨by omega, by omega⟩).mpr z1
      exact ⟨hb1, by rw [hwR_at hn hl ⟨by omega, by omega⟩ (Or.inr hb1) hi]; exact z3⟩) S.1.length 0 0 0 (by omega) (by omega) (by decide) (by decide)
  exact h
theorem rdg_self {S : gbS} {ba i : Int} (hi : 0 ≤ i ∧ i < (gbX S ba).length) : rdg S ba ba i = lat (gbX S ba) i := by
  unfold rdg
  rw [alg_self, lat_in (xs := (List.range (gbX S ba).length).map _) hi.1 (by rw [List.length_map, List.length_range]; omega)]
  rw [List.getElem_map, List.getElem_range, show (0 : Int) + (i.toNat : Nat) = i by omega]
def cgS (rd : List Int) (ba se i r : Int) (g : List Int) : List Int := if r ≠ hrd rd ba i ∧ 2 ≤ popc (mbs rd se i r) ∧ ¬ mbs rd se i r ∈ g then ladd 160 g (mbs rd se i r) else g
theorem fgI_N {rd : List Int} {ba se i : Int} : ∀ (k : Nat) (r : Int) (g : List Int), fgI rd ba se i k r g = foldN (cgS rd ba se i) rd se i k r g
  | 0, _, _ => rfl
  | k + 1, r, g => by
    show (if r < 64 then fgI rd ba se i k _ _ else g) = (if r < 64 then foldN _ rd se i k _ (cgS rd ba se i r g) else g)
    by_cases c : r < 64
    · rw [if_pos c, if_pos c, fgI_N k]
      rfl
    · rw [if_neg c, if_neg c]
theorem mbs_0 {rd : List Int} {se i r : Int} (h : ¬ isRd rd se i r) : mbs rd se i r = 0 := by
  have e : ∀ (j : Nat) (b : Int), mbF rd se i r j b 0 = 0 := by
    intro j
    induction j with
    | zero => intro b; rfl
    | succ j ih =>
      intro b
      show mbF rd se i r j (b + 1) (if _ then _ else _) = 0
      rw [if_neg (fun z => h ⟨b, z.1, z.2⟩)]
      exact ih (b + 1)
  exact e 10 0
theorem fold_gm {S : gbS} {ba se i : Int} (hn : S.1.length ≤ 10) (hl : (gbX S ba).length ≤ 40) (hba : 0 ≤ ba ∧ ba < S.1.length) (hs : 0 ≤ se ∧ se < ((2 ^ S.1.length : Nat) : Int)) (hi : 0 ≤ i ∧ i < (gbX S ba).length) : ∀ (k : Nat) (r : Int) (g : List Int), 2 * (g.length : Int) + rmC S ba se i r S.1.length ≤ 8 * i + 9 → foldR (cgS (hwR S ba se) ba se i) k r g = foldR (gmS S ba se i) k r g ∧ (∀ r2, r2 = r + k → 2 * ((foldR (gmS S ba se i) k r g).length : Int) + rmC S ba se i r2 S.1.length ≤ 8 * i + 9)
  | 0, r, g, h => ⟨rfl, fun r2 e => by rw [e, show r + ((0 : Nat) : Int) = r by omega]; exact h⟩
  | k + 1, r, g, h => by
    have e : cgS (hwR S ba se) ba se i r g = gmS S ba se i r g := by
      unfold cgS gmS
      rw [hwR_at hn hl hba (Or.inl rfl) hi, rdg_self hi]
      by_cases c : r = lat (gbX S ba) i
      · rw [if_neg (fun z => z.1 c), if_neg (fun z => z.2 c)]
      · rw [gmP_mb hn hl hba hs hi (by rw [rdg_self hi]; exact c)]
        show _ = if 2 ≤ popc (mbs (hwR S ba se) se i r) ∧ r ≠ lat (gbX S ba) i then addM g (mbs (hwR S ba se) se i r) else g
        by_cases c2 : 2 ≤ popc (mbs (hwR S ba se) se i r)
        · by_cases c3 : mbs (hwR S ba se) se i r ∈ g
          · rw [if_neg (fun z => z.2.2 c3), if_pos ⟨c2, c⟩]
            exact (if_pos c3).symm
          · rw [if_pos ⟨c, c2, c3⟩, if_pos ⟨c2, c⟩, show addM g (mbs (hwR S ba se) se i r) = g ++ [mbs (hwR S ba se) se i r] from if_neg c3]
            have h9 := (rmC_9 (S := S) (ba := ba) (se := se) (i := i) (r := r + 1) hn hba).1
            have h10 := rmC_s S ba se i r S.1.length
            have h11 : (gmP S ba se i r).2 = popc (mbs (hwR S ba se) se i r) := congrArg Prod.snd (gmP_mb hn hl hba hs hi (by rw [rdg_self hi]; exact c))
            have h12 := gmP_2 S ba se i r
            exact if_pos (by omega)
        · rw [if_neg (fun z => c2 z.2.1), if_neg (fun z => c2 z.1)]
    have h2 := gmS_len h
    obtain ⟨p1, p2⟩ := fold_gm hn hl hba hs hi k (r + 1) (gmS S ba se i r g) h2
    refine ⟨?_, fun r2 er => ?_⟩
    · show foldR _ k (r + 1) (cgS _ ba se i r g) = foldR _ k (r + 1) (gmS S ba se i r g)
      rw [e]
      exact p1
    · exact p2 r2 (by omega)
theorem rg_fg {S : gbS} {ba se : Int} (hn : S.1.length ≤ 10) (hl : (gbX S ba).length ≤ 40) (hba : 0 ≤ ba ∧ ba < S.1.length) (hs : 0 ≤ se ∧ se < ((2 ^ S.1.length : Nat) : Int)) : ∀ (j : Nat) (i : Int) (g : List Int), 0 ≤ i → i + j ≤ (gbX S ba).length → (g.length : Int) ≤ 4 * i → rgF S ba se j i g = fgF (hwR S ba se) ba se j i g
  | 0, _, _, _, _, _ => rfl
  | j + 1, i, g, h0, h1, h2 => by
    show rgF S ba se j (i + 1) (foldR (gmS S ba se i) 65 (-1) g) = fgF (hwR S ba se) ba se j (i + 1) (fgI (hwR S ba se) ba se i 10 (nrd (hwR S ba se) se i (-2)) g)
    have h9 := rmC_9 (S := S) (ba := ba) (se := se) (i := i) (r := -1) hn hba
    obtain ⟨p1, p2⟩ := fold_gm hn hl hba hs (i := i) ⟨h0, by omega⟩ 65 (-1) g (by omega)
    have hN := foldN_R (f := cgS (hwR S ba se) ba se i) (I := fun _ => True) (rd := hwR S ba se) (se := se) (i := i) (fun _ _ _ => trivial) (fun r x _ hr => by
      unfold cgS
      rw [mbs_0 hr, if_neg (fun z => absurd z.2.1 (by decide))]) 10 (-2) g trivial (by omega) (by omega) (by unfold cAb; exact (cntB_bd _ 10).2)
    have e : fgI (hwR S ba se) ba se i 10 (nrd (hwR S ba se) se i (-2)) g = foldR (gmS S ba se i) 65 (-1) g := by
      rw [fgI_N, hN, ← p1]
      rfl
    rw [e]
    have h3 := p2 64 (by omega)
    have h8 := (rmC_9 (S := S) (ba := ba) (se := se) (i := i) (r := 64) hn hba).1
    exact rg_fg hn hl hba hs j (i + 1) _ (by omega) (by omega) (by omega)
theorem rgL_grpL {S : gbS} {ba se : Int} (hn : S.1.length ≤ 10) (hl : (gbX S ba).length ≤ 40) (hba : 0 ≤ ba ∧ ba < S.1.length) (hs : 0 ≤ se ∧ se < ((2 ^ S.1.length : Nat) : Int)) : rgL S ba se = grpL S ba se := rg_fg hn hl hba hs _ 0 [] (by omega) (by omega) (by exact Int.le_refl _)
