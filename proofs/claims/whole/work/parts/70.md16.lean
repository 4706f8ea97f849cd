/-! The reference: words of a hand's text. Written by wip/whole/tools/mk_md16.py. -/
def wc (ys : List Int) (tok : Int) : Nat → Int
  | 0 => 0
  | n + 1 => if wc ys tok n > 100000000000 then 200000000000 else 27 * wc ys tok n + lat ys (tok + n) - 96
def tc (i : Nat) : Nat → Int
  | 0 => 0
  | n + 1 => 27 * tc i n + sCh i n - 96
def lo27 : Nat → Int
  | 0 => 0
  | n + 1 => 27 * lo27 n + 1
def hi27 : Nat → Int
  | 0 => 0
  | n + 1 => 27 * hi27 n + 26
def letr (ys : List Int) (tok : Int) (n : Nat) : Prop := ∀ j : Nat, j < n → 97 ≤ lat ys (tok + j) ∧ lat ys (tok + j) ≤ 122
theorem hi_7 : ∀ n : Fin 8, hi27 (n : Nat) ≤ 10460353202 ∧ 0 ≤ lo27 (n : Nat) := by decide +kernel
theorem lh_dj : ∀ n m : Fin 8, (n : Nat) < (m : Nat) → hi27 (n : Nat) < lo27 (m : Nat) := by decide +kernel
theorem sCh_l : ∀ i : Fin 9, ∀ k : Fin 8, (k : Nat) < sLn i → 97 ≤ sCh i k ∧ sCh i k ≤ 122 := by decide +kernel
theorem wc_bd {ys : List Int} {tok : Int} : ∀ (n : Nat), n ≤ 7 → letr ys tok n → lo27 n ≤ wc ys tok n ∧ wc ys tok n ≤ hi27 n
  | 0, _, _ => ⟨Int.le_refl _, Int.le_refl _⟩
  | n + 1, h, hl => by
    have ih := wc_bd n (by omega) (fun j hj => hl j (by omega))
    have h7 := (hi_7 ⟨n, by omega⟩).1
    have hn := hl n (by omega)
    have h8 : hi27 n ≤ 10460353202 := h7
    have e : wc ys tok (n + 1) = 27 * wc ys tok n + lat ys (tok + n) - 96 := if_neg (by omega)
    have e1 : lo27 (n + 1) = 27 * lo27 n + 1 := rfl
    have e2 : hi27 (n + 1) = 27 * hi27 n + 26 := rfl
    omega
theorem wc_8 {ys : List Int} {tok : Int} : ∀ (k : Nat), letr ys tok (8 + k) → 10862674478 ≤ wc ys tok (8 + k) ∧ wc ys tok (8 + k) ≤ 3000000000000
  | 0, hl => by
    have ih := wc_bd 7 (by omega) (fun j hj => hl j (by omega))
    have hn := hl 7 (by omega)
    have e1 : lo27 7 = 402321277 := by decide
    have e2 : hi27 7 = 10460353202 := by decide
    have step : ∀ n : Nat, wc ys tok n ≤ 100000000000 → wc ys tok (n + 1) = 27 * wc ys tok n + lat ys (tok + n) - 96 := fun n h => if_neg (by omega)
    have e := step 7 (by omega)
    show 10862674478 ≤ wc ys tok (7 + 1) ∧ wc ys tok (7 + 1) ≤ 3000000000000
    omega
  | k + 1, hl => by
    have ih := wc_8 k (fun j hj => hl j (by omega))
    have hn := hl (8 + k) (by omega)
    have e : wc ys tok (8 + k + 1) = if wc ys tok (8 + k) > 100000000000 then 200000000000 else 27 * wc ys tok (8 + k) + lat ys (tok + ((8 + k : Nat) : Int)) - 96 := rfl
    rw [show 8 + (k + 1) = 8 + k + 1 by omega, e]
    split <;> omega
theorem wc_rg {ys : List Int} {tok : Int} (n : Nat) (h : letr ys tok n) : 0 ≤ wc ys tok n ∧ wc ys tok n ≤ 3000000000000 := by
  by_cases c : n ≤ 7
  · have := wc_bd n c h
    have h7 := hi_7 ⟨n, by omega⟩
    have h8 : hi27 n ≤ 10460353202 ∧ 0 ≤ lo27 n := h7
    omega
  · have := wc_8 (ys := ys) (tok := tok) (n - 8) (by rw [show 8 + (n - 8) = n by omega]; exact h)
    rw [show 8 + (n - 8) = n by omega] at this
    omega
theorem tc_bd {i : Nat} (hi : i < 9) : ∀ (n : Nat), n ≤ sLn i → lo27 n ≤ tc i n ∧ tc i n ≤ hi27 n
  | 0, _ => ⟨Int.le_refl _, Int.le_refl _⟩
  | n + 1, h => by
    have ih := tc_bd hi n (by omega)
    have hs := sLn_bd i hi
    have hn : 97 ≤ sCh i n ∧ sCh i n ≤ 122 := sCh_l ⟨i, hi⟩ ⟨n, by omega⟩ (by show n < sLn i; omega)
    have e : tc i (n + 1) = 27 * tc i n + sCh i n - 96 := rfl
    have e1 : lo27 (n + 1) = 27 * lo27 n + 1 := rfl
    have e2 : hi27 (n + 1) = 27 * hi27 n + 26 := rfl
    omega
theorem wc_tc {ys : List Int} {tok : Int} {i : Nat} (hi : i < 9) : ∀ (n : Nat), n ≤ sLn i → letr ys tok n → (wc ys tok n = tc i n ↔ ∀ j : Nat, j < n → lat ys (tok + j) = sCh i j)
  | 0, _, _ => ⟨fun _ j hj => by omega, fun _ => rfl⟩
  | n + 1, h, hl => by
    have hs := sLn_bd i hi
    have ih := wc_tc (ys := ys) (tok := tok) hi n (by omega) (fun j hj => hl j (by omega))
    have hb := wc_bd n (by omega) (fun j hj => hl j (by omega))
    have h7 : hi27 n ≤ 10460353202 := (hi_7 ⟨n, by omega⟩).1
    have hn := hl n (by omega)
    have hm : 97 ≤ sCh i n ∧ sCh i n ≤ 122 := sCh_l ⟨i, hi⟩ ⟨n, by omega⟩ (by show n < sLn i; omega)
    have e : wc ys tok (n + 1) = 27 * wc ys tok n + lat ys (tok + n) - 96 := if_neg (by omega)
    have e1 : tc i (n + 1) = 27 * tc i n + sCh i n - 96 := rfl
    rw [e, e1]
    constructor
    · intro z j hj
      have z1 : wc ys tok n = tc i n := by omega
      by_cases ej : j = n
      · subst ej; omega
      · exact ih.mp z1 j (by omega)
    · intro z
      have z1 := ih.mpr (fun j hj => z j (by omega))
      have z2 := z n (by omega)
      omega
theorem code_iff {ys : List Int} {tok : Int} {i n : Nat} (hi : i < 9) (hl : letr ys tok n) : wc ys tok n = tc i (sLn i) ↔ (n = sLn i ∧ ∀ j : Nat, j < n → lat ys (tok + j) = sCh i j) := by
  have hs := sLn_bd i hi
  have ht := tc_bd hi (sLn i) (Nat.le_refl _)
  have h7 : hi27 (sLn i) ≤ 10460353202 := (hi_7 ⟨sLn i, by omega⟩).1
  constructor
  · intro z
    have hn : n ≤ 7 := Decidable.byContradiction fun c => by
      have := wc_8 (ys := ys) (tok := tok) (n - 8) (by rw [show 8 + (n - 8) = n by omega]; exact hl)
      rw [show 8 + (n - 8) = n by omega] at this
      omega
    have hb := wc_bd n hn hl
    have en : n = sLn i := by
      by_cases c1 : n < sLn i
      · have : hi27 n < lo27 (sLn i) := lh_dj ⟨n, by omega⟩ ⟨sLn i, by omega⟩ c1
        omega
      · by_cases c2 : sLn i < n
        · have : hi27 (sLn i) < lo27 n := lh_dj ⟨sLn i, by omega⟩ ⟨n, by omega⟩ c2
          omega
        · omega
    refine ⟨en, (wc_tc hi n (by omega) hl).mp ?_⟩
    rw [z, en]
  · rintro ⟨en, z⟩
    have := (wc_tc hi n (by omega) hl).mpr z
    rw [this, en]
theorem tiF_iff {ys : List Int} {tok : Int} {i : Nat} : ∀ (n k : Nat), tiF ys tok i n k = true ↔ ∀ j : Nat, k ≤ j → j < k + n → lat ys (tok + j) = sCh i j
  | 0, k => ⟨fun _ j h1 h2 => by omega, fun _ => rfl⟩
  | n + 1, k => by
    have ih := tiF_iff (ys := ys) (tok := tok) (i := i) n (k + 1)
    have e : tiF ys tok i (n + 1) (k : Int) = if lat ys (tok + (k : Int)) = sCh i (k : Int).toNat then tiF ys tok i n ((k : Int) + 1) else false := rfl
    rw [e, show ((k : Nat) : Int).toNat = k by omega, show (k : Int) + 1 = ((k + 1 : Nat) : Int) by omega]
    by_cases c : lat ys (tok + (k : Int)) = sCh i k
    · rw [if_pos c, ih]
      constructor
      · intro z j h1 h2
        by_cases ej : j = k
        · subst ej; exact c
        · exact z j (by omega) (by omega)
      · intro z j h1 h2; exact z j (by omega) (by omega)
    · rw [if_neg c]
      exact ⟨fun z => (by cases z), fun z => absurd (z k (Nat.le_refl _) (by omega)) c⟩
theorem tkIs_iff {ys : List Int} {t : tS} {i n : Nat} (hi : i < 9) (hn : t.1 - t.2.1 = n) (hl : letr ys t.2.1 n) : tkIs ys t i = true ↔ wc ys t.2.1 n = tc i (sLn i) := by
  rw [code_iff hi hl]
  unfold tkIs
  by_cases c : t.1 - t.2.1 = sLn i
  · rw [if_pos c, show (0 : Int) = ((0 : Nat) : Int) from rfl, tiF_iff]
    constructor
    · intro z; exact ⟨by omega, fun j hj => z j (by omega) (by omega)⟩
    · rintro ⟨z1, z2⟩ j h1 h2; exact z2 j (by omega)
  · rw [if_neg c]
    exact ⟨fun z => (by cases z), fun z => absurd (by omega) c⟩
def hbO (w : Int) : Int := if w = 4797 then 0 else if w = 382255 then 1 else if w = 409469 then 2 else if w = 187908 then 3 else if w = 92275 then 4 else if w = 267413 then 5 else -1
def wyO (w : Int) : Int := if w = 692581 then 0 else if w = 31519426 then 1 else if w = 3698163814 then 2 else -1
theorem tc_v : tc 0 (sLn 0) = 4797 ∧ tc 1 (sLn 1) = 382255 ∧ tc 2 (sLn 2) = 409469 ∧ tc 3 (sLn 3) = 187908 ∧ tc 4 (sLn 4) = 92275 ∧ tc 5 (sLn 5) = 267413 ∧ tc 6 (sLn 6) = 692581 ∧ tc 7 (sLn 7) = 31519426 ∧ tc 8 (sLn 8) = 3698163814 := by decide +kernel
theorem clT_h {ys : List Int} {t : tS} {n : Nat} (hn : t.1 - t.2.1 = n) (hl : letr ys t.2.1 n) : clT ys t 0 6 0 = hbO (wc ys t.2.1 n) := by
  have v := tc_v
  have k := fun (i : Nat) (hi : i < 9) => tkIs_iff (i := i) hi hn hl
  have e : clT ys t 0 6 0 = if tkIs ys t 0 = true then 0 else if tkIs ys t 1 = true then 1 else if tkIs ys t 2 = true then 2 else if tkIs ys t 3 = true then 3 else if tkIs ys t 4 = true then 4 else if tkIs ys t 5 = true then 5 else -1 := rfl
  rw [e]
  unfold hbO
  simp only [k 0 (by omega), k 1 (by omega), k 2 (by omega), k 3 (by omega), k 4 (by omega), k 5 (by omega), v.1, v.2.1, v.2.2.1, v.2.2.2.1, v.2.2.2.2.1, v.2.2.2.2.2.1]
theorem clT_w {ys : List Int} {t : tS} {n : Nat} (hn : t.1 - t.2.1 = n) (hl : letr ys t.2.1 n) : clT ys t 6 3 0 = wyO (wc ys t.2.1 n) := by
  have v := tc_v
  have k := fun (i : Nat) (hi : i < 9) => tkIs_iff (i := i) hi hn hl
  have e : clT ys t 6 3 0 = if tkIs ys t 6 = true then 0 else if tkIs ys t 7 = true then 1 else if tkIs ys t 8 = true then 2 else -1 := rfl
  rw [e]
  unfold wyO
  simp only [k 6 (by omega), k 7 (by omega), k 8 (by omega), v.2.2.2.2.2.2.1, v.2.2.2.2.2.2.2.1, v.2.2.2.2.2.2.2.2]
theorem leF_sp {ys : List Int} : ∀ (f : Nat) (a : Int), 0 ≤ a → a ≤ ys.length → a ≤ leF ys f a ∧ leF ys f a ≤ ys.length ∧ ∀ j : Int, a ≤ j → j < leF ys f a → isL (lat ys j) = true
  | 0, a, _, h => ⟨Int.le_refl _, h, fun j h1 h2 => by have : j < a := h2; omega⟩
  | f + 1, a, h0, h => by
    by_cases c : a < ys.length ∧ isL (lat ys a) = true
    · have e : leF ys (f + 1) a = leF ys f (a + 1) := if_pos c
      rw [e]
      obtain ⟨p1, p2, p3⟩ := leF_sp (ys := ys) f (a + 1) (by omega) (by omega)
      refine ⟨by omega, p2, fun j h1 h2 => ?_⟩
      by_cases ej : j = a
      · rw [ej]; exact c.2
      · exact p3 j (by omega) h2
    · have e : leF ys (f + 1) a = a := if_neg c
      rw [e]
      exact ⟨Int.le_refl _, h, fun j h1 h2 => by omega⟩
/-- only where a hand's reading stands has changed -/
def hwF' (V V' : Int → Int → Int) : Prop := (∀ a, a ≠ 775 → V' a = V a) ∧ ∀ k, k ≠ 18 → k ≠ 43 → k ≠ 44 → V' 775 k = V 775 k
section MD16
variable {l : Launch} {E : gE} {d : Nat} {K : List gK} {R V : Int → Int → Int} {a b c e w C : Int} {Q : gQ} {ys : List Int} {t : tS}
set_option maxRecDepth 4000 in
theorem m_code (ha : 0 ≤ a ∧ a ≤ 255 ∧ 0 ≤ b ∧ b ≤ 255 ∧ 0 ≤ c ∧ c ≤ 255 ∧ 0 ≤ e ∧ e ≤ 255) (hC : C = 27 * (27 * (27 * (a - 96) + b - 96) + c - 96) + e - 96) (hQ : Q (some (gl C)) (K, R, V)) : gC l E (d + 1) iX12_code [gi a, gi b, gi c, gi e] (K, R, V) Q := by
  refine gC_of kX12_code (ls := [some (gi a), some (gi b), some (gi c), some (gi e)]) rfl (Nat.le_of_ble_eq_true rfl) ?_
  refine gX_ldc2 (x := 27) dX12_code_0 clX12_266 (by decide) ⟨by decide, by decide⟩ ?_
  refine gX_ldc2 (x := 27) dX12_code_3 clX12_266 (by decide) ⟨by decide, by decide⟩ ?_
  refine gX_ldc2 (x := 27) dX12_code_6 clX12_266 (by decide) ⟨by decide, by decide⟩ ?_
  refine gX_iloadn dX12_code_9 rfl ?_
  refine gX_i2l dX12_code_10 ?_
  refine gX_ldc2 (x := 96) dX12_code_11 clX12_268 (by decide) ⟨by decide, by decide⟩ ?_
  refine gX_lsub dX12_code_14 ⟨by omega, by omega⟩ ?_
  refine gX_lmul dX12_code_15 ⟨by omega, by omega⟩ ?_
  refine gX_iloadn dX12_code_16 rfl ?_
  refine gX_i2l dX12_code_17 ?_
  refine gX_ladd dX12_code_18 ⟨by omega, by omega⟩ ?_
  refine gX_ldc2 (x := 96) dX12_code_19 clX12_268 (by decide) ⟨by decide, by decide⟩ ?_
  refine gX_lsub dX12_code_22 ⟨by omega, by omega⟩ ?_
  refine gX_lmul dX12_code_23 ⟨by omega, by omega⟩ ?_
  refine gX_iloadn dX12_code_24 rfl ?_
  refine gX_i2l dX12_code_25 ?_
  refine gX_ladd dX12_code_26 ⟨by omega, by omega⟩ ?_
  refine gX_ldc2 (x := 96) dX12_code_27 clX12_268 (by decide) ⟨by decide, by decide⟩ ?_
  refine gX_lsub dX12_code_30 ⟨by omega, by omega⟩ ?_
  refine gX_lmul dX12_code_31 ⟨by omega, by omega⟩ ?_
  refine gX_iloadn dX12_code_32 rfl ?_
  refine gX_i2l dX12_code_33 ?_
  refine gX_ladd dX12_code_34 ⟨by omega, by omega⟩ ?_
  refine gX_ldc2 (x := 96) dX12_code_35 clX12_268 (by decide) ⟨by decide, by decide⟩ ?_
  refine gX_lsub dX12_code_38 ⟨by omega, by omega⟩ ?_
  refine gX_lret dX12_code_39 rfl ?_
  rw [hC] at hQ
  exact hQ
set_option maxRecDepth 4000 in
theorem m_longer (ha : 0 ≤ w ∧ w ≤ 1000000 ∧ 0 ≤ a ∧ a ≤ 255 ∧ 0 ≤ b ∧ b ≤ 255) (hC : C = 27 * (27 * w + a - 96) + b - 96) (hQ : Q (some (gl C)) (K, R, V)) : gC l E (d + 1) iX12_longer [gl w, gi a, gi b] (K, R, V) Q := by
  refine gC_of kX12_longer (ls := [some (gl w), none, some (gi a), some (gi b)]) rfl (Nat.le_of_ble_eq_true rfl) ?_
  refine gX_ldc2 (x := 27) dX12_longer_0 clX12_266 (by decide) ⟨by decide, by decide⟩ ?_
  refine gX_ldc2 (x := 27) dX12_longer_3 clX12_266 (by decide) ⟨by decide, by decide⟩ ?_
  refine gX_lloadn dX12_longer_6 rfl ?_
  refine gX_lmul dX12_longer_7 ⟨by omega, by omega⟩ ?_
  refine gX_iloadn dX12_longer_8 rfl ?_
  refine gX_i2l dX12_longer_9 ?_
  refine gX_ladd dX12_longer_10 ⟨by omega, by omega⟩ ?_
  refine gX_ldc2 (x := 96) dX12_longer_11 clX12_268 (by decide) ⟨by decide, by decide⟩ ?_
  refine gX_lsub dX12_longer_14 ⟨by omega, by omega⟩ ?_
  refine gX_lmul dX12_longer_15 ⟨by omega, by omega⟩ ?_
  refine gX_iloadn dX12_longer_16 rfl ?_
  refine gX_i2l dX12_longer_17 ?_
  refine gX_ladd dX12_longer_18 ⟨by omega, by omega⟩ ?_
  refine gX_ldc2 (x := 96) dX12_longer_19 clX12_268 (by decide) ⟨by decide, by decide⟩ ?_
  refine gX_lsub dX12_longer_22 ⟨by omega, by omega⟩ ?_
  refine gX_lret dX12_longer_23 rfl ?_
  rw [hC] at hQ
  exact hQ
set_option maxRecDepth 4000 in
theorem m_habitOf (hM : mdK K R) (hw : V 775 43 = w) (hQ : Q (some (gi (hbO w))) (K, R, V)) : gC l E (d + 2) iX12_habitOf [ga 775] (K, R, V) Q := by
  refine gC_of kX12_habitOf (ls := [some (ga 775), none, none]) rfl (Nat.le_of_ble_eq_true rfl) ?_
  refine gX_ldc2 (x := 4797) dX12_habitOf_0 clX12_270 (by decide) ⟨by decide, by decide⟩ ?_
  refine gX_lstoren dX12_habitOf_3 (show (1 : Nat) + 1 < 3 from by decide) (ls2 := [some (ga 775), some (gl 4797), none]) rfl ?_
  refine gX_aloadn dX12_habitOf_4 rfl ?_
  refine gX_gL 43 dX12_habitOf_5 fdX12_251 rfl rfl hM.1 ?_
  rw [hw]
  refine gX_lloadn dX12_habitOf_8 rfl ?_
  refine gX_lcmp dX12_habitOf_9 ?_
  refine gX_ifne (tgt := 17) dX12_habitOf_10 (by decide) (fun w1 => ?_) (fun w1 => ?_)
  · refine gX_aloadn dX12_habitOf_17 rfl ?_
    refine gX_gL 43 dX12_habitOf_18 fdX12_251 rfl rfl hM.1 ?_
    rw [hw]
    refine gX_bipush dX12_habitOf_21 (by decide) ⟨by decide, by decide⟩ ?_
    refine gX_bipush dX12_habitOf_23 (by decide) ⟨by decide, by decide⟩ ?_
    refine gX_bipush dX12_habitOf_25 (by decide) ⟨by decide, by decide⟩ ?_
    refine gX_bipush dX12_habitOf_27 (by decide) ⟨by decide, by decide⟩ ?_
    refine gX_stat (J := iX12_code) (av := [gi 115, gi 107, gi 105, gi 112]) (st := [gl w]) dX12_habitOf_29 lkX12_272 kX12_code sX12_code (gFit_m (by decide)) rfl (Nat.le_of_ble_eq_true rfl) (Nat.zero_le _) (Nat.zero_le _) rfl ?_
    refine m_code (C := 382255) ⟨by omega, by omega, by omega, by omega, by omega, by omega, by omega, by omega⟩ (by decide) ?_
    show gX l E _ 32 [some (ga 775), some (gl 4797), none] [gl 382255, gl w] (K, R, V) _ _
    refine gX_lcmp dX12_habitOf_32 ?_
    refine gX_ifne (tgt := 40) dX12_habitOf_33 (by decide) (fun w2 => ?_) (fun w2 => ?_)
    · refine gX_aloadn dX12_habitOf_40 rfl ?_
      refine gX_gL 43 dX12_habitOf_41 fdX12_251 rfl rfl hM.1 ?_
      rw [hw]
      refine gX_bipush dX12_habitOf_44 (by decide) ⟨by decide, by decide⟩ ?_
      refine gX_bipush dX12_habitOf_46 (by decide) ⟨by decide, by decide⟩ ?_
      refine gX_bipush dX12_habitOf_48 (by decide) ⟨by decide, by decide⟩ ?_
      refine gX_bipush dX12_habitOf_50 (by decide) ⟨by decide, by decide⟩ ?_
      refine gX_stat (J := iX12_code) (av := [gi 116, gi 117, gi 114, gi 110]) (st := [gl w]) dX12_habitOf_52 lkX12_272 kX12_code sX12_code (gFit_m (by decide)) rfl (Nat.le_of_ble_eq_true rfl) (Nat.zero_le _) (Nat.zero_le _) rfl ?_
      refine m_code (C := 409469) ⟨by omega, by omega, by omega, by omega, by omega, by omega, by omega, by omega⟩ (by decide) ?_
      show gX l E _ 55 [some (ga 775), some (gl 4797), none] [gl 409469, gl w] (K, R, V) _ _
      refine gX_lcmp dX12_habitOf_55 ?_
      refine gX_ifne (tgt := 63) dX12_habitOf_56 (by decide) (fun w3 => ?_) (fun w3 => ?_)
      · refine gX_aloadn dX12_habitOf_63 rfl ?_
        refine gX_gL 43 dX12_habitOf_64 fdX12_251 rfl rfl hM.1 ?_
        rw [hw]
        refine gX_bipush dX12_habitOf_67 (by decide) ⟨by decide, by decide⟩ ?_
        refine gX_bipush dX12_habitOf_69 (by decide) ⟨by decide, by decide⟩ ?_
        refine gX_bipush dX12_habitOf_71 (by decide) ⟨by decide, by decide⟩ ?_
        refine gX_bipush dX12_habitOf_73 (by decide) ⟨by decide, by decide⟩ ?_
        refine gX_stat (J := iX12_code) (av := [gi 105, gi 110, gi 116, gi 111]) (st := [gl w]) dX12_habitOf_75 lkX12_272 kX12_code sX12_code (gFit_m (by decide)) rfl (Nat.le_of_ble_eq_true rfl) (Nat.zero_le _) (Nat.zero_le _) rfl ?_
        refine m_code (C := 187908) ⟨by omega, by omega, by omega, by omega, by omega, by omega, by omega, by omega⟩ (by decide) ?_
        show gX l E _ 78 [some (ga 775), some (gl 4797), none] [gl 187908, gl w] (K, R, V) _ _
        refine gX_lcmp dX12_habitOf_78 ?_
        refine gX_ifne (tgt := 86) dX12_habitOf_79 (by decide) (fun w4 => ?_) (fun w4 => ?_)
        · refine gX_aloadn dX12_habitOf_86 rfl ?_
          refine gX_gL 43 dX12_habitOf_87 fdX12_251 rfl rfl hM.1 ?_
          rw [hw]
          refine gX_bipush dX12_habitOf_90 (by decide) ⟨by decide, by decide⟩ ?_
          refine gX_bipush dX12_habitOf_92 (by decide) ⟨by decide, by decide⟩ ?_
          refine gX_bipush dX12_habitOf_94 (by decide) ⟨by decide, by decide⟩ ?_
          refine gX_bipush dX12_habitOf_96 (by decide) ⟨by decide, by decide⟩ ?_
          refine gX_stat (J := iX12_code) (av := [gi 100, gi 114, gi 111, gi 112]) (st := [gl w]) dX12_habitOf_98 lkX12_272 kX12_code sX12_code (gFit_m (by decide)) rfl (Nat.le_of_ble_eq_true rfl) (Nat.zero_le _) (Nat.zero_le _) rfl ?_
          refine m_code (C := 92275) ⟨by omega, by omega, by omega, by omega, by omega, by omega, by omega, by omega⟩ (by decide) ?_
          show gX l E _ 101 [some (ga 775), some (gl 4797), none] [gl 92275, gl w] (K, R, V) _ _
          refine gX_lcmp dX12_habitOf_101 ?_
          refine gX_ifne (tgt := 109) dX12_habitOf_102 (by decide) (fun w5 => ?_) (fun w5 => ?_)
          · refine gX_aloadn dX12_habitOf_109 rfl ?_
            refine gX_gL 43 dX12_habitOf_110 fdX12_251 rfl rfl hM.1 ?_
            rw [hw]
            refine gX_bipush dX12_habitOf_113 (by decide) ⟨by decide, by decide⟩ ?_
            refine gX_bipush dX12_habitOf_115 (by decide) ⟨by decide, by decide⟩ ?_
            refine gX_bipush dX12_habitOf_117 (by decide) ⟨by decide, by decide⟩ ?_
            refine gX_bipush dX12_habitOf_119 (by decide) ⟨by decide, by decide⟩ ?_
            refine gX_stat (J := iX12_code) (av := [gi 109, gi 111, gi 118, gi 101]) (st := [gl w]) dX12_habitOf_121 lkX12_272 kX12_code sX12_code (gFit_m (by decide)) rfl (Nat.le_of_ble_eq_true rfl) (Nat.zero_le _) (Nat.zero_le _) rfl ?_
            refine m_code (C := 267413) ⟨by omega, by omega, by omega, by omega, by omega, by omega, by omega, by omega⟩ (by decide) ?_
            show gX l E _ 124 [some (ga 775), some (gl 4797), none] [gl 267413, gl w] (K, R, V) _ _
            refine gX_lcmp dX12_habitOf_124 ?_
            refine gX_ifne (tgt := 132) dX12_habitOf_125 (by decide) (fun w6 => ?_) (fun w6 => ?_)
            · refine gX_iconst dX12_habitOf_132 ⟨by decide, by decide⟩ ?_
              refine gX_iret dX12_habitOf_133 (Or.inl rfl) ?_
              have ec : hbO w = -1 := by
                unfold hbO
                rw [if_neg (fun z => absurd ((gcmp_eq _ _).mpr z) (by assumption)), if_neg (fun z => absurd ((gcmp_eq _ _).mpr z) (by assumption)), if_neg (fun z => absurd ((gcmp_eq _ _).mpr z) (by assumption)), if_neg (fun z => absurd ((gcmp_eq _ _).mpr z) (by assumption)), if_neg (fun z => absurd ((gcmp_eq _ _).mpr z) (by assumption)), if_neg (fun z => absurd ((gcmp_eq _ _).mpr z) (by assumption))]
              rw [ec] at hQ
              exact hQ
            · refine gX_iconst dX12_habitOf_128 ⟨by decide, by decide⟩ ?_
              refine gX_goto (tgt := 133) dX12_habitOf_129 (by decide) ?_
              refine gX_iret dX12_habitOf_133 (Or.inl rfl) ?_
              have ec : hbO w = 5 := by
                unfold hbO
                rw [if_neg (fun z => absurd ((gcmp_eq _ _).mpr z) (by assumption)), if_neg (fun z => absurd ((gcmp_eq _ _).mpr z) (by assumption)), if_neg (fun z => absurd ((gcmp_eq _ _).mpr z) (by assumption)), if_neg (fun z => absurd ((gcmp_eq _ _).mpr z) (by assumption)), if_neg (fun z => absurd ((gcmp_eq _ _).mpr z) (by assumption)), if_pos ((gcmp_eq _ _).mp (by assumption))]
              rw [ec] at hQ
              exact hQ
          · refine gX_iconst dX12_habitOf_105 ⟨by decide, by decide⟩ ?_
            refine gX_goto (tgt := 133) dX12_habitOf_106 (by decide) ?_
            refine gX_iret dX12_habitOf_133 (Or.inl rfl) ?_
            have ec : hbO w = 4 := by
              unfold hbO
              rw [if_neg (fun z => absurd ((gcmp_eq _ _).mpr z) (by assumption)), if_neg (fun z => absurd ((gcmp_eq _ _).mpr z) (by assumption)), if_neg (fun z => absurd ((gcmp_eq _ _).mpr z) (by assumption)), if_neg (fun z => absurd ((gcmp_eq _ _).mpr z) (by assumption)), if_pos ((gcmp_eq _ _).mp (by assumption))]
            rw [ec] at hQ
            exact hQ
        · refine gX_iconst dX12_habitOf_82 ⟨by decide, by decide⟩ ?_
          refine gX_goto (tgt := 133) dX12_habitOf_83 (by decide) ?_
          refine gX_iret dX12_habitOf_133 (Or.inl rfl) ?_
          have ec : hbO w = 3 := by
            unfold hbO
            rw [if_neg (fun z => absurd ((gcmp_eq _ _).mpr z) (by assumption)), if_neg (fun z => absurd ((gcmp_eq _ _).mpr z) (by assumption)), if_neg (fun z => absurd ((gcmp_eq _ _).mpr z) (by assumption)), if_pos ((gcmp_eq _ _).mp (by assumption))]
          rw [ec] at hQ
          exact hQ
      · refine gX_iconst dX12_habitOf_59 ⟨by decide, by decide⟩ ?_
        refine gX_goto (tgt := 133) dX12_habitOf_60 (by decide) ?_
        refine gX_iret dX12_habitOf_133 (Or.inl rfl) ?_
        have ec : hbO w = 2 := by
          unfold hbO
          rw [if_neg (fun z => absurd ((gcmp_eq _ _).mpr z) (by assumption)), if_neg (fun z => absurd ((gcmp_eq _ _).mpr z) (by assumption)), if_pos ((gcmp_eq _ _).mp (by assumption))]
        rw [ec] at hQ
        exact hQ
    · refine gX_iconst dX12_habitOf_36 ⟨by decide, by decide⟩ ?_
      refine gX_goto (tgt := 133) dX12_habitOf_37 (by decide) ?_
      refine gX_iret dX12_habitOf_133 (Or.inl rfl) ?_
      have ec : hbO w = 1 := by
        unfold hbO
        rw [if_neg (fun z => absurd ((gcmp_eq _ _).mpr z) (by assumption)), if_pos ((gcmp_eq _ _).mp (by assumption))]
      rw [ec] at hQ
      exact hQ
  · refine gX_iconst dX12_habitOf_13 ⟨by decide, by decide⟩ ?_
    refine gX_goto (tgt := 133) dX12_habitOf_14 (by decide) ?_
    refine gX_iret dX12_habitOf_133 (Or.inl rfl) ?_
    have ec : hbO w = 0 := by
      unfold hbO
      rw [if_pos ((gcmp_eq _ _).mp (by assumption))]
    rw [ec] at hQ
    exact hQ
set_option maxRecDepth 4000 in
theorem m_wayOf (hM : mdK K R) (hw : V 775 43 = w) (hQ : Q (some (gi (wyO w))) (K, R, V)) : gC l E (d + 2) iX12_wayOf [ga 775] (K, R, V) Q := by
  refine gC_of kX12_wayOf (ls := [some (ga 775), none, none, none, none, none, none]) rfl (Nat.le_of_ble_eq_true rfl) ?_
  refine gX_ldc2 (x := 27) dX12_wayOf_0 clX12_266 (by decide) ⟨by decide, by decide⟩ ?_
  refine gX_bipush dX12_wayOf_3 (by decide) ⟨by decide, by decide⟩ ?_
  refine gX_bipush dX12_wayOf_5 (by decide) ⟨by decide, by decide⟩ ?_
  refine gX_bipush dX12_wayOf_7 (by decide) ⟨by decide, by decide⟩ ?_
  refine gX_bipush dX12_wayOf_9 (by decide) ⟨by decide, by decide⟩ ?_
  refine gX_stat (J := iX12_code) (av := [gi 97, gi 104, gi 101, gi 97]) (st := [gl 27]) dX12_wayOf_11 lkX12_272 kX12_code sX12_code (gFit_m (by decide)) rfl (Nat.le_of_ble_eq_true rfl) (Nat.zero_le _) (Nat.zero_le _) rfl ?_
  refine m_code (C := 25651) ⟨by omega, by omega, by omega, by omega, by omega, by omega, by omega, by omega⟩ (by decide) ?_
  show gX l E _ 14 [some (ga 775), none, none, none, none, none, none] [gl 25651, gl 27] (K, R, V) _ _
  refine gX_lmul dX12_wayOf_14 ⟨by omega, by omega⟩ ?_
  refine gX_ldc2 (x := 100) dX12_wayOf_15 clX12_276 (by decide) ⟨by decide, by decide⟩ ?_
  refine gX_ladd dX12_wayOf_18 ⟨by omega, by omega⟩ ?_
  refine gX_ldc2 (x := 96) dX12_wayOf_19 clX12_268 (by decide) ⟨by decide, by decide⟩ ?_
  refine gX_lsub dX12_wayOf_22 ⟨by omega, by omega⟩ ?_
  rw [show (27 : Int) * 25651 + 100 - 96 = 692581 from rfl]
  refine gX_lstoren dX12_wayOf_23 (show (1 : Nat) + 1 < 7 from by decide) (ls2 := [some (ga 775), some (gl 692581), none, none, none, none, none]) rfl ?_
  refine gX_bipush dX12_wayOf_24 (by decide) ⟨by decide, by decide⟩ ?_
  refine gX_bipush dX12_wayOf_26 (by decide) ⟨by decide, by decide⟩ ?_
  refine gX_bipush dX12_wayOf_28 (by decide) ⟨by decide, by decide⟩ ?_
  refine gX_bipush dX12_wayOf_30 (by decide) ⟨by decide, by decide⟩ ?_
  refine gX_stat (J := iX12_code) (av := [gi 98, gi 101, gi 104, gi 105]) (st := []) dX12_wayOf_32 lkX12_272 kX12_code sX12_code (gFit_m (by decide)) rfl (Nat.le_of_ble_eq_true rfl) (Nat.zero_le _) (Nat.zero_le _) rfl ?_
  refine m_code (C := 43236) ⟨by omega, by omega, by omega, by omega, by omega, by omega, by omega, by omega⟩ (by decide) ?_
  show gX l E _ 35 [some (ga 775), some (gl 692581), none, none, none, none, none] [gl 43236] (K, R, V) _ _
  refine gX_bipush dX12_wayOf_35 (by decide) ⟨by decide, by decide⟩ ?_
  refine gX_bipush dX12_wayOf_37 (by decide) ⟨by decide, by decide⟩ ?_
  refine gX_stat (J := iX12_longer) (av := [gl 43236, gi 110, gi 100]) (st := []) dX12_wayOf_39 lkX12_278 kX12_longer sX12_longer (gFit_m (by decide)) rfl (Nat.le_of_ble_eq_true rfl) (Nat.zero_le _) (Nat.zero_le _) rfl ?_
  refine m_longer (C := 31519426) ⟨by omega, by omega, by omega, by omega, by omega, by omega⟩ (by decide) ?_
  show gX l E _ 42 [some (ga 775), some (gl 692581), none, none, none, none, none] [gl 31519426] (K, R, V) _ _
  refine gX_lstoren dX12_wayOf_42 (show (3 : Nat) + 1 < 7 from by decide) (ls2 := [some (ga 775), some (gl 692581), none, some (gl 31519426), none, none, none]) rfl ?_
  refine gX_ldc2 (x := 27) dX12_wayOf_43 clX12_266 (by decide) ⟨by decide, by decide⟩ ?_
  refine gX_bipush dX12_wayOf_46 (by decide) ⟨by decide, by decide⟩ ?_
  refine gX_bipush dX12_wayOf_48 (by decide) ⟨by decide, by decide⟩ ?_
  refine gX_bipush dX12_wayOf_50 (by decide) ⟨by decide, by decide⟩ ?_
  refine gX_bipush dX12_wayOf_52 (by decide) ⟨by decide, by decide⟩ ?_
  refine gX_stat (J := iX12_code) (av := [gi 105, gi 110, gi 115, gi 116]) (st := [gl 27]) dX12_wayOf_54 lkX12_272 kX12_code sX12_code (gFit_m (by decide)) rfl (Nat.le_of_ble_eq_true rfl) (Nat.zero_le _) (Nat.zero_le _) rfl ?_
  refine m_code (C := 187886) ⟨by omega, by omega, by omega, by omega, by omega, by omega, by omega, by omega⟩ (by decide) ?_
  show gX l E _ 57 [some (ga 775), some (gl 692581), none, some (gl 31519426), none, none, none] [gl 187886, gl 27] (K, R, V) _ _
  refine gX_bipush dX12_wayOf_57 (by decide) ⟨by decide, by decide⟩ ?_
  refine gX_bipush dX12_wayOf_59 (by decide) ⟨by decide, by decide⟩ ?_
  refine gX_stat (J := iX12_longer) (av := [gl 187886, gi 101, gi 97]) (st := [gl 27]) dX12_wayOf_61 lkX12_278 kX12_longer sX12_longer (gFit_m (by decide)) rfl (Nat.le_of_ble_eq_true rfl) (Nat.zero_le _) (Nat.zero_le _) rfl ?_
  refine m_longer (C := 136969030) ⟨by omega, by omega, by omega, by omega, by omega, by omega⟩ (by decide) ?_
  show gX l E _ 64 [some (ga 775), some (gl 692581), none, some (gl 31519426), none, none, none] [gl 136969030, gl 27] (K, R, V) _ _
  refine gX_lmul dX12_wayOf_64 ⟨by omega, by omega⟩ ?_
  refine gX_ldc2 (x := 100) dX12_wayOf_65 clX12_276 (by decide) ⟨by decide, by decide⟩ ?_
  refine gX_ladd dX12_wayOf_68 ⟨by omega, by omega⟩ ?_
  refine gX_ldc2 (x := 96) dX12_wayOf_69 clX12_268 (by decide) ⟨by decide, by decide⟩ ?_
  refine gX_lsub dX12_wayOf_72 ⟨by omega, by omega⟩ ?_
  rw [show (27 : Int) * 136969030 + 100 - 96 = 3698163814 from rfl]
  refine gX_lstore dX12_wayOf_73 (show (5 : Nat) + 1 < 7 from by decide) (ls2 := [some (ga 775), some (gl 692581), none, some (gl 31519426), none, some (gl 3698163814), none]) rfl ?_
  refine gX_aloadn dX12_wayOf_75 rfl ?_
  refine gX_gL 43 dX12_wayOf_76 fdX12_251 rfl rfl hM.1 ?_
  rw [hw]
  refine gX_lloadn dX12_wayOf_79 rfl ?_
  refine gX_lcmp dX12_wayOf_80 ?_
  refine gX_ifne (tgt := 88) dX12_wayOf_81 (by decide) (fun w1 => ?_) (fun w1 => ?_)
  · refine gX_aloadn dX12_wayOf_88 rfl ?_
    refine gX_gL 43 dX12_wayOf_89 fdX12_251 rfl rfl hM.1 ?_
    rw [hw]
    refine gX_lloadn dX12_wayOf_92 rfl ?_
    refine gX_lcmp dX12_wayOf_93 ?_
    refine gX_ifne (tgt := 101) dX12_wayOf_94 (by decide) (fun w2 => ?_) (fun w2 => ?_)
    · refine gX_aloadn dX12_wayOf_101 rfl ?_
      refine gX_gL 43 dX12_wayOf_102 fdX12_251 rfl rfl hM.1 ?_
      rw [hw]
      refine gX_lload dX12_wayOf_105 rfl ?_
      refine gX_lcmp dX12_wayOf_107 ?_
      refine gX_ifne (tgt := 115) dX12_wayOf_108 (by decide) (fun w3 => ?_) (fun w3 => ?_)
      · refine gX_iconst dX12_wayOf_115 ⟨by decide, by decide⟩ ?_
        refine gX_iret dX12_wayOf_116 (Or.inl rfl) ?_
        have ec : wyO w = -1 := by
          unfold wyO
          rw [if_neg (fun z => absurd ((gcmp_eq _ _).mpr z) (by assumption)), if_neg (fun z => absurd ((gcmp_eq _ _).mpr z) (by assumption)), if_neg (fun z => absurd ((gcmp_eq _ _).mpr z) (by assumption))]
        rw [ec] at hQ
        exact hQ
      · refine gX_iconst dX12_wayOf_111 ⟨by decide, by decide⟩ ?_
        refine gX_goto (tgt := 116) dX12_wayOf_112 (by decide) ?_
        refine gX_iret dX12_wayOf_116 (Or.inl rfl) ?_
        have ec : wyO w = 2 := by
          unfold wyO
          rw [if_neg (fun z => absurd ((gcmp_eq _ _).mpr z) (by assumption)), if_neg (fun z => absurd ((gcmp_eq _ _).mpr z) (by assumption)), if_pos ((gcmp_eq _ _).mp (by assumption))]
        rw [ec] at hQ
        exact hQ
    · refine gX_iconst dX12_wayOf_97 ⟨by decide, by decide⟩ ?_
      refine gX_goto (tgt := 116) dX12_wayOf_98 (by decide) ?_
      refine gX_iret dX12_wayOf_116 (Or.inl rfl) ?_
      have ec : wyO w = 1 := by
        unfold wyO
        rw [if_neg (fun z => absurd ((gcmp_eq _ _).mpr z) (by assumption)), if_pos ((gcmp_eq _ _).mp (by assumption))]
      rw [ec] at hQ
      exact hQ
  · refine gX_iconst dX12_wayOf_84 ⟨by decide, by decide⟩ ?_
    refine gX_goto (tgt := 116) dX12_wayOf_85 (by decide) ?_
    refine gX_iret dX12_wayOf_116 (Or.inl rfl) ?_
    have ec : wyO w = 0 := by
      unfold wyO
      rw [if_pos ((gcmp_eq _ _).mp (by assumption))]
    rw [ec] at hQ
    exact hQ
set_option maxRecDepth 4000 in
theorem m_readWord (hM : mdK K R) (ht : tdIs V ys) (ha : V 775 18 = a) (h0 : 0 ≤ a) (h1 : a ≤ ys.length) (hQ : ∀ V', V' 775 18 = pkB ys a → V' 775 44 = leF ys 321 (pkB ys a) → V' 775 43 = wc ys (pkB ys a) (leF ys 321 (pkB ys a) - pkB ys a).toNat → letr ys (pkB ys a) (leF ys 321 (pkB ys a) - pkB ys a).toNat → hwF' V V' → Q none (K, R, V')) : gC l E (d + 2) iX12_readWord [ga 775] (K, R, V) Q := by
  refine gC_of kX12_readWord (ls := [some (ga 775), none]) rfl (Nat.le_of_ble_eq_true rfl) ?_
  have hyl := ht.2.1
  have hpk := pkB_in (ys := ys) h0 h1
  refine gX_aloadn dX12_readWord_0 rfl ?_
  refine gX_virt (J := iX12_here) (av := []) (a := 775) (st := []) dX12_readWord_1 lkX12_170 kX12_here vX12_here (gFit_m (by decide)) hM.1 rfl rfl (Nat.le_of_ble_eq_true rfl) (Nat.zero_le _) (Nat.zero_le _) rfl ?_
  refine m_here hM ht ha h0 h1 (fun Va ha1 hf0 => ?_)
  show gX l E _ 4 [some (ga 775), none] [gi (lat ys (pkB ys a))] (K, R, Va) _ _
  refine gX_istoren dX12_readWord_4 (show (1 : Nat) < 2 from by decide) (ls2 := [some (ga 775), some (gi (lat ys (pkB ys a)))]) rfl ?_
  refine gX_aloadn dX12_readWord_5 rfl ?_
  refine gX_lconst (x := 0) dX12_readWord_6 (by decide) ⟨by decide, by decide⟩ ?_
  refine gX_pL 43 dX12_readWord_7 fdX12_251 fpX12_251 rfl rfl hM.1 ?_
  refine gX_aloadn dX12_readWord_10 rfl ?_
  refine gX_aloadn dX12_readWord_11 rfl ?_
  refine gX_gI 18 dX12_readWord_12 fdX12_167 rfl (Or.inl rfl) hM.1 ?_
  rw [show gup Va 775 43 0 775 18 = (pkB ys a) by rw [gup_k (by omega)]; exact ha1]
  refine gX_pI 44 dX12_readWord_15 fdX12_255 fpX12_255 rfl (Or.inl rfl) hM.1 ?_
  have lp : ∀ (jj : Nat) (b : Int) (n : Nat) (V1 : Int → Int → Int) (bc bs : Nat), (ys.length : Int) - b < (jj : Int) → (pkB ys a) ≤ b → b ≤ ys.length → V1 775 44 = b → V1 775 43 = wc ys (pkB ys a) (b - (pkB ys a)).toNat → letr ys (pkB ys a) (b - (pkB ys a)).toNat → V1 775 18 = (pkB ys a) → leF ys n b = (leF ys 321 (pkB ys a)) → (ys.length : Int) - b < n → hwF' V V1 → gX l E (gFm E (d + 2) iX12_readWord Q) 18 [some (ga 775), some (gi (lat ys (pkB ys a)))] [] (K, R, V1) bc bs := by
    intro jj
    induction jj with
    | zero =>
      intro b n V1 bc bs hj q0 q1 hb1 hw1 hl1 h18 hp1 hn1 hf1
      exfalso; omega
    | succ jj ih =>
      intro b n V1 bc bs hj q0 q1 hb1 hw1 hl1 h18 hp1 hn1 hf1
      refine gX_aloadn dX12_readWord_18 rfl ?_
      refine gX_gI 44 dX12_readWord_19 fdX12_255 rfl (Or.inl rfl) hM.1 ?_
      rw [hb1]
      refine gX_aloadn dX12_readWord_22 rfl ?_
      refine gX_gI 16 dX12_readWord_23 fdX12_162 rfl (Or.inl rfl) hM.1 ?_
      rw [show V1 775 16 = (ys.length : Int) by rw [hf1.2 16 (by omega) (by omega) (by omega)]; exact ht.1]
      refine gX_icmpge (tgt := 108) dX12_readWord_26 (by decide) (fun b1 => ?_) (fun b1 => ?_)
      · refine gX_vret dX12_readWord_108 rfl ?_
        obtain ⟨n9, rfl⟩ : ∃ n9, n = n9 + 1 := ⟨n - 1, by omega⟩
        have hnL : ¬ (b < ys.length ∧ isL (lat ys b) = true) := by
          rintro ⟨z1, z2⟩
          unfold isL at z2
          rw [decide_eq_true_eq] at z2
          omega
        have e1 : leF ys (n9 + 1) b = b := if_neg hnL
        rw [e1] at hp1
        rw [hp1] at hw1 hl1 hb1
        exact hQ V1 h18 hb1 hw1 hl1 hf1
      · refine gX_aloadn dX12_readWord_29 rfl ?_
        refine gX_gR 15 dX12_readWord_30 fdX12_52 rfl rfl hM.1 (mR15 hM) ?_
        refine gX_aloadn dX12_readWord_33 rfl ?_
        refine gX_gI 44 dX12_readWord_34 fdX12_255 rfl (Or.inl rfl) hM.1 ?_
        rw [hb1]
        refine gX_iald dX12_readWord_37 (mA15 hM) (by omega) (by omega) ?_
        rw [show V1 790 b = lat ys b by rw [hf1.1 790 (by omega)]; exact ht.at (by omega) (by omega)]
        refine gX_i2l dX12_readWord_38 ?_
        refine gX_ldc2 (x := 97) dX12_readWord_39 clX12_258 (by decide) ⟨by decide, by decide⟩ ?_
        refine gX_ldc2 (x := 122) dX12_readWord_42 clX12_260 (by decide) ⟨by decide, by decide⟩ ?_
        refine gX_stat (J := iX12_in) (av := [gl (lat ys b), gl 97, gl 122]) (st := []) dX12_readWord_45 lkX12_154 kX12_in sX12_in (gFit_m (by decide)) rfl (Nat.le_of_ble_eq_true rfl) (Nat.zero_le _) (Nat.zero_le _) rfl ?_
        refine m_in ?_
        show gX l E _ 48 [some (ga 775), some (gi (lat ys (pkB ys a)))] [gi (b2i (inR (lat ys b) 97 122))] (K, R, V1) _ _
        refine gX_ifeq (tgt := 108) dX12_readWord_48 (by decide) (fun b2 => ?_) (fun b2 => ?_)
        · have b2 := inR_0 b2
          refine gX_vret dX12_readWord_108 rfl ?_
          obtain ⟨n9, rfl⟩ : ∃ n9, n = n9 + 1 := ⟨n - 1, by omega⟩
          have hnL : ¬ (b < ys.length ∧ isL (lat ys b) = true) := by
            rintro ⟨z1, z2⟩
            unfold isL at z2
            rw [decide_eq_true_eq] at z2
            omega
          have e1 : leF ys (n9 + 1) b = b := if_neg hnL
          rw [e1] at hp1
          rw [hp1] at hw1 hl1 hb1
          exact hQ V1 h18 hb1 hw1 hl1 hf1
        · have b2 := inR_1 b2
          have hwr := wc_rg (ys := ys) (tok := (pkB ys a)) _ hl1
          have hg1 := gcmp_le (wc ys (pkB ys a) (b - (pkB ys a)).toNat) 100000000000
          refine gX_aloadn dX12_readWord_51 rfl ?_
          refine gX_aloadn dX12_readWord_52 rfl ?_
          refine gX_gL 43 dX12_readWord_53 fdX12_251 rfl rfl hM.1 ?_
          rw [hw1]
          refine gX_ldc2 (x := 100000000000) dX12_readWord_56 clX12_262 (by decide) ⟨by decide, by decide⟩ ?_
          refine gX_lcmp dX12_readWord_59 ?_
          refine gX_ifle (tgt := 69) dX12_readWord_60 (by decide) (fun b3 => ?_) (fun b3 => ?_)
          · refine gX_ldc2 (x := 27) dX12_readWord_69 clX12_266 (by decide) ⟨by decide, by decide⟩ ?_
            refine gX_aloadn dX12_readWord_72 rfl ?_
            refine gX_gL 43 dX12_readWord_73 fdX12_251 rfl rfl hM.1 ?_
            rw [hw1]
            refine gX_lmul dX12_readWord_76 ⟨by omega, by omega⟩ ?_
            refine gX_aloadn dX12_readWord_77 rfl ?_
            refine gX_gR 15 dX12_readWord_78 fdX12_52 rfl rfl hM.1 (mR15 hM) ?_
            refine gX_aloadn dX12_readWord_81 rfl ?_
            refine gX_gI 44 dX12_readWord_82 fdX12_255 rfl (Or.inl rfl) hM.1 ?_
            rw [hb1]
            refine gX_iald dX12_readWord_85 (mA15 hM) (by omega) (by omega) ?_
            rw [show V1 790 b = lat ys b by rw [hf1.1 790 (by omega)]; exact ht.at (by omega) (by omega)]
            refine gX_i2l dX12_readWord_86 ?_
            refine gX_ladd dX12_readWord_87 ⟨by omega, by omega⟩ ?_
            refine gX_ldc2 (x := 96) dX12_readWord_88 clX12_268 (by decide) ⟨by decide, by decide⟩ ?_
            refine gX_lsub dX12_readWord_91 ⟨by omega, by omega⟩ ?_
            refine gX_pL 43 dX12_readWord_92 fdX12_251 fpX12_251 rfl rfl hM.1 ?_
            refine gX_aloadn dX12_readWord_95 rfl ?_
            refine gX_dup dX12_readWord_96 rfl ?_
            refine gX_gI 44 dX12_readWord_97 fdX12_255 rfl (Or.inl rfl) hM.1 ?_
            rw [show gup V1 775 43 (((27 * (wc ys (pkB ys a) (b - (pkB ys a)).toNat)) + (lat ys b)) - 96) 775 44 = b by rw [gup_k (by omega)]; exact hb1]
            refine gX_iconst dX12_readWord_100 ⟨by decide, by decide⟩ ?_
            refine gX_iadd dX12_readWord_101 ⟨by omega, by omega⟩ ?_
            refine gX_pI 44 dX12_readWord_102 fdX12_255 fpX12_255 rfl (Or.inl rfl) hM.1 ?_
            refine gX_goto (tgt := 18) dX12_readWord_105 (by decide) ?_
            obtain ⟨n9, rfl⟩ : ∃ n9, n = n9 + 1 := ⟨n - 1, by omega⟩
            have hisL : isL (lat ys b) = true := by unfold isL; rw [decide_eq_true_eq]; omega
            have e1 : leF ys (n9 + 1) b = leF ys n9 (b + 1) := if_pos ⟨by omega, hisL⟩
            rw [e1] at hp1
            have en : (b + 1 - (pkB ys a)).toNat = (b - (pkB ys a)).toNat + 1 := by omega
            have ei : (pkB ys a) + (((b - (pkB ys a)).toNat : Nat) : Int) = b := by omega
            have ew : wc ys (pkB ys a) (b + 1 - (pkB ys a)).toNat = 27 * (wc ys (pkB ys a) (b - (pkB ys a)).toNat) + lat ys b - 96 := by
              rw [en]
              show (if wc ys (pkB ys a) (b - (pkB ys a)).toNat > 100000000000 then _ else _) = _
              rw [if_neg (by have := (gcmp_le (wc ys (pkB ys a) (b - (pkB ys a)).toNat) 100000000000).mp (by omega); omega), ei]
            exact ih (b + 1) n9 _ _ _ (by omega) (by omega) (by omega) gup_s (by rw [gup_k (by omega), ew]; exact gup_s) (by rw [en]; intro j hj; by_cases ej : j = (b - (pkB ys a)).toNat; (rw [ej, ei]; omega); exact hl1 j (by omega)) (by rw [gup_k (by omega), gup_k (by omega)]; exact h18) hp1 (by omega) ⟨fun x hx => by rw [gup_ne hx, gup_ne hx]; exact hf1.1 x hx, fun k h1 h2 h3 => by rw [gup_k h3, gup_k h2]; exact hf1.2 k h1 h2 h3⟩
          · refine gX_ldc2 (x := 200000000000) dX12_readWord_63 clX12_264 (by decide) ⟨by decide, by decide⟩ ?_
            refine gX_goto (tgt := 92) dX12_readWord_66 (by decide) ?_
            refine gX_pL 43 dX12_readWord_92 fdX12_251 fpX12_251 rfl rfl hM.1 ?_
            refine gX_aloadn dX12_readWord_95 rfl ?_
            refine gX_dup dX12_readWord_96 rfl ?_
            refine gX_gI 44 dX12_readWord_97 fdX12_255 rfl (Or.inl rfl) hM.1 ?_
            rw [show gup V1 775 43 200000000000 775 44 = b by rw [gup_k (by omega)]; exact hb1]
            refine gX_iconst dX12_readWord_100 ⟨by decide, by decide⟩ ?_
            refine gX_iadd dX12_readWord_101 ⟨by omega, by omega⟩ ?_
            refine gX_pI 44 dX12_readWord_102 fdX12_255 fpX12_255 rfl (Or.inl rfl) hM.1 ?_
            refine gX_goto (tgt := 18) dX12_readWord_105 (by decide) ?_
            obtain ⟨n9, rfl⟩ : ∃ n9, n = n9 + 1 := ⟨n - 1, by omega⟩
            have hisL : isL (lat ys b) = true := by unfold isL; rw [decide_eq_true_eq]; omega
            have e1 : leF ys (n9 + 1) b = leF ys n9 (b + 1) := if_pos ⟨by omega, hisL⟩
            rw [e1] at hp1
            have en : (b + 1 - (pkB ys a)).toNat = (b - (pkB ys a)).toNat + 1 := by omega
            have ei : (pkB ys a) + (((b - (pkB ys a)).toNat : Nat) : Int) = b := by omega
            have ew : wc ys (pkB ys a) (b + 1 - (pkB ys a)).toNat = 200000000000 := by
              rw [en]
              show (if wc ys (pkB ys a) (b - (pkB ys a)).toNat > 100000000000 then _ else _) = _
              rw [if_pos (by have := (gcmp_gt (wc ys (pkB ys a) (b - (pkB ys a)).toNat) 100000000000).mp (by omega); omega)]
            exact ih (b + 1) n9 _ _ _ (by omega) (by omega) (by omega) gup_s (by rw [gup_k (by omega), ew]; exact gup_s) (by rw [en]; intro j hj; by_cases ej : j = (b - (pkB ys a)).toNat; (rw [ej, ei]; omega); exact hl1 j (by omega)) (by rw [gup_k (by omega), gup_k (by omega)]; exact h18) hp1 (by omega) ⟨fun x hx => by rw [gup_ne hx, gup_ne hx]; exact hf1.1 x hx, fun k h1 h2 h3 => by rw [gup_k h3, gup_k h2]; exact hf1.2 k h1 h2 h3⟩
  exact lp (ys.length + 1) (pkB ys a) 321 _ _ _ (by omega) (by omega) (by omega) gup_s (by rw [gup_k (by omega), show ((pkB ys a) - (pkB ys a)).toNat = 0 by omega]; exact gup_s) (by rw [show ((pkB ys a) - (pkB ys a)).toNat = 0 by omega]; intro j hj; omega) (by rw [gup_k (by omega), gup_k (by omega)]; exact ha1) rfl (by omega) ⟨fun x hx => by rw [gup_ne hx, gup_ne hx]; exact hf0.1 x hx, fun k h1 h2 h3 => by rw [gup_k h3, gup_k h2]; exact hf0.2 k h1⟩
end MD16
