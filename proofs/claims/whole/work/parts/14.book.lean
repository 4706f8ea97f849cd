/-! Gloss and Book: what they hold, told by lists; their simple methods. Written by wip/whole/tools/mk_book.py. -/
/-- a gloss: kind, host, first, last, gone, its row -/
abbrev gG : Type := Int × Int × Int × Int × Int × List Int
def glK (K : List gK) (R : Int → Int → Int) (g : Int) : Prop := kd (K, R, fun _ _ => 0) g = some (.inl 3) ∧ R g 0 = g + 1 ∧ gRow K R (g + 1) 8
def glIs (V : Int → Int → Int) (g : Int) (q : gG) : Prop := V g 1 = q.1 ∧ V g 2 = q.2.1 ∧ V g 3 = q.2.2.1 ∧ V g 4 = q.2.2.2.1 ∧ V g 5 = q.2.2.2.2.1 ∧ (q.2.2.2.2.1 = 0 ∨ q.2.2.2.2.1 = 1) ∧ rIs V (g + 1) 8 q.2.2.2.2.2
def bkK (K : List gK) (R : Int → Int → Int) (B : Int) : Prop := kd (K, R, fun _ _ => 0) B = some (.inl 1) ∧ R B 0 = B + 1 ∧ R B 1 = B + 3 ∧ R B 2 = B + 4 ∧ R B 3 = B + 6 ∧ R B 4 = B + 8 ∧ gRow K R (B + 1) 40 ∧ kd (K, R, fun _ _ => 0) (B + 3) = some (.inr (4, 20)) ∧ gRow K R (B + 4) 20 ∧ gRow K R (B + 6) 6 ∧ gRow K R (B + 8) 6 ∧ ∀ g : Int, 0 ≤ g → g < 20 → R (B + 3) g = B + 10 + 3 * g ∧ glK K R (B + 10 + 3 * g)
def bkIs (V : Int → Int → Int) (B : Int) (tx : List Int) (gs : List gG) : Prop := rIs V (B + 1) 40 tx ∧ V B 5 = gs.length ∧ gs.length ≤ 20 ∧ ∀ (k : Nat) (q : gG), gs[k]? = some q → glIs V (B + 10 + 3 * k) q
def gDf : gG := (0, -1, 0, 0, 0, [])
/-- the k-th gloss -/
def gq (gs : List gG) (k : Int) : gG := gs.getD k.toNat gDf
theorem gq_of {gs : List gG} {k : Nat} {q : gG} (h : gs[k]? = some q) : gq gs k = q := by
  unfold gq
  rw [Int.toNat_natCast, List.getD_eq_getElem?_getD, h]
  rfl
theorem bkIs.gl {V : Int → Int → Int} {B : Int} {tx : List Int} {gs : List gG} (h : bkIs V B tx gs) {g : Int} (h0 : 0 ≤ g) (h1 : g < gs.length) : glIs V (B + 10 + 3 * g) (gq gs g) := by
  have hg : gs[g.toNat]? = some gs[g.toNat] := List.getElem?_eq_getElem (by omega)
  have h2 := h.2.2.2 _ _ hg
  rw [Int.toNat_of_nonneg h0] at h2
  have h3 := gq_of hg
  rw [Int.toNat_of_nonneg h0] at h3
  rw [h3]
  exact h2
theorem glIs.kept {V V' : Int → Int → Int} {g : Int} {q : gG} (h : glIs V g q) (h1 : V' g = V g) (h2 : V' (g + 1) = V (g + 1)) (h3 : V' (g + 2) = V (g + 2)) : glIs V' g q := by
  obtain ⟨a1, a2, a3, a4, a5, a6, a7⟩ := h
  refine ⟨by rw [h1]; exact a1, by rw [h1]; exact a2, by rw [h1]; exact a3, by rw [h1]; exact a4, by rw [h1]; exact a5, a6, a7.kept h2 ?_⟩
  rw [show g + 1 + 1 = g + 2 by omega]
  exact h3
theorem bkIs.kept {V V' : Int → Int → Int} {B : Int} {tx : List Int} {gs : List gG} (h : bkIs V B tx gs) (hf : ∀ a, B ≤ a → a < B + 70 → V' a = V a) : bkIs V' B tx gs := by
  refine ⟨h.1.kept (hf _ (by omega) (by omega)) (hf _ (by omega) (by omega)), by rw [hf B (by omega) (by omega)]; exact h.2.1, h.2.2.1, fun k q hk => ?_⟩
  have hl := (List.getElem?_eq_some_iff.mp hk).1
  have h20 := h.2.2.1
  exact (h.2.2.2 k q hk).kept (hf _ (by omega) (by omega)) (hf _ (by omega) (by omega)) (hf _ (by omega) (by omega))
theorem bkIs.fr {V V' : Int → Int → Int} {B : Int} {tx : List Int} {gs : List gG} (h : bkIs V B tx gs) {lo hi : Int} (hf : gFr V V' lo hi) (h1 : hi ≤ B ∨ B + 70 ≤ lo) : bkIs V' B tx gs := h.kept fun a g1 g2 => hf a (by omega)
def onT (q : gG) : Int := if q.2.2.2.2.1 = 0 ∧ q.2.1 = -1 then 1 else 0
def shr (p q : gG) : Int := if p.2.1 = q.2.1 ∧ p.2.2.1 = q.2.2.1 then 1 else 0
def cov (q : gG) (i : Int) : Int := if q.2.2.1 ≤ i ∧ i ≤ q.2.2.2.1 then 1 else 0
def lml (q : gG) : Int := q.2.2.2.1 - q.2.2.1 + 1
/-- the row of a gloss, or the text -/
def rwL (tx : List Int) (gs : List gG) (h : Int) : List Int := if 0 ≤ h ∧ h < gs.length then (gq gs h).2.2.2.2.2 else tx
def rwA (B n h : Int) : Int := if 0 ≤ h ∧ h < n then B + 11 + 3 * h else B + 1
def dpt (gs : List gG) : Nat → Int → Int
  | 0, _ => 0
  | f + 1, g => if 0 ≤ g ∧ g < gs.length then 1 + dpt gs f (gq gs g).2.1 else 0
def cntB (f : Nat → Bool) : Nat → Int
  | 0 => 0
  | n + 1 => cntB f n + (if f n = true then 1 else 0)
def sumB (f : Nat → Int) : Nat → Int
  | 0 => 0
  | n + 1 => sumB f n + f n
def maxB (f : Nat → Int) : Nat → Int
  | 0 => 0
  | n + 1 => max (maxB f n) (f n)
def anyB (f : Nat → Bool) : Nat → Bool
  | 0 => false
  | n + 1 => anyB f n || f n
theorem cntB_bd (f : Nat → Bool) : ∀ n : Nat, 0 ≤ cntB f n ∧ cntB f n ≤ n := by
  intro n
  induction n with
  | zero => exact ⟨by show (0 : Int) ≤ 0; omega, by show (0 : Int) ≤ 0; omega⟩
  | succ n ih =>
    show 0 ≤ cntB f n + (if f n = true then 1 else 0) ∧ cntB f n + (if f n = true then 1 else 0) ≤ ((n + 1 : Nat) : Int)
    split <;> omega
theorem cntB_s (f : Nat → Bool) (n : Nat) : cntB f (n + 1) = cntB f n + (if f n = true then 1 else 0) := rfl
theorem cntB_congr {f g : Nat → Bool} : ∀ n : Nat, (∀ k, k < n → f k = g k) → cntB f n = cntB g n := by
  intro n
  induction n with
  | zero => intro _; rfl
  | succ n ih => intro h; rw [cntB_s, cntB_s, ih (fun k hk => h k (by omega)), h n (by omega)]
def ordS (gs : List gG) (g : Int) : Int := cntB (fun h => decide (shr (gq gs h) (gq gs g) = 1)) g.toNat
def inSp (gs : List gG) (i : Int) : Bool := anyB (fun g => decide (onT (gq gs g) = 1) && decide (cov (gq gs g) i = 1)) gs.length
section BOOK
variable {l : Launch} {E : gE} {d : Nat} {K : List gK} {R V : Int → Int → Int} {B g : Int} {Q : gQ} {tx : List Int} {gs : List gG} {q : gG}
set_option maxRecDepth 4000 in
theorem c_isOnText (hg : glK K R g) (hv : glIs V g q) (hQ : Q (some (gi (onT q))) (K, R, V)) : gC l E (d + 1) iX3_isOnText [ga g] (K, R, V) Q := by
  refine gC_of kX3_isOnText (ls := [some (ga g)]) rfl (Nat.le_of_ble_eq_true rfl) ?_
  obtain ⟨a1, a2, a3, a4, a5, a6, a7⟩ := hv
  refine gX_aloadn dX3_isOnText_0 rfl ?_
  refine gX_gI 5 dX3_isOnText_1 fdX3_33 rfl (Or.inr rfl) hg.1 ?_
  refine gX_ifne (tgt := 19) dX3_isOnText_4 (by decide) (fun w1 => ?_) (fun w1 => ?_)
  · refine gX_iconst dX3_isOnText_19 ⟨by decide, by decide⟩ ?_
    refine gX_iret dX3_isOnText_20 (Or.inr ⟨rfl, Or.inl rfl⟩) ?_
    have e : onT q = 0 := by unfold onT; split <;> omega
    rw [← e]
    exact hQ
  · refine gX_aloadn dX3_isOnText_7 rfl ?_
    refine gX_gI 2 dX3_isOnText_8 fdX3_24 rfl (Or.inl rfl) hg.1 ?_
    refine gX_iconst dX3_isOnText_11 ⟨by decide, by decide⟩ ?_
    refine gX_icmpne (tgt := 19) dX3_isOnText_12 (by decide) (fun w2 => ?_) (fun w2 => ?_)
    · refine gX_iconst dX3_isOnText_19 ⟨by decide, by decide⟩ ?_
      refine gX_iret dX3_isOnText_20 (Or.inr ⟨rfl, Or.inl rfl⟩) ?_
      have e : onT q = 0 := by unfold onT; split <;> omega
      rw [← e]
      exact hQ
    · refine gX_iconst dX3_isOnText_15 ⟨by decide, by decide⟩ ?_
      refine gX_goto (tgt := 20) dX3_isOnText_16 (by decide) ?_
      refine gX_iret dX3_isOnText_20 (Or.inr ⟨rfl, Or.inr rfl⟩) ?_
      have e : onT q = 1 := by unfold onT; split <;> omega
      rw [← e]
      exact hQ
set_option maxRecDepth 4000 in
theorem c_covers {i : Int} (hg : glK K R g) (hv : glIs V g q) (hQ : Q (some (gi (cov q i))) (K, R, V)) : gC l E (d + 1) iX3_covers [ga g, gi i] (K, R, V) Q := by
  refine gC_of kX3_covers (ls := [some (ga g), some (gi i)]) rfl (Nat.le_of_ble_eq_true rfl) ?_
  obtain ⟨a1, a2, a3, a4, a5, a6, a7⟩ := hv
  refine gX_aloadn dX3_covers_0 rfl ?_
  refine gX_gI 3 dX3_covers_1 fdX3_27 rfl (Or.inl rfl) hg.1 ?_
  refine gX_iloadn dX3_covers_4 rfl ?_
  refine gX_icmpgt (tgt := 20) dX3_covers_5 (by decide) (fun w1 => ?_) (fun w1 => ?_)
  · refine gX_iconst dX3_covers_20 ⟨by decide, by decide⟩ ?_
    refine gX_iret dX3_covers_21 (Or.inr ⟨rfl, Or.inl rfl⟩) ?_
    have e : cov q i = 0 := by unfold cov; split <;> omega
    rw [← e]
    exact hQ
  · refine gX_iloadn dX3_covers_8 rfl ?_
    refine gX_aloadn dX3_covers_9 rfl ?_
    refine gX_gI 4 dX3_covers_10 fdX3_30 rfl (Or.inl rfl) hg.1 ?_
    refine gX_icmpgt (tgt := 20) dX3_covers_13 (by decide) (fun w2 => ?_) (fun w2 => ?_)
    · refine gX_iconst dX3_covers_20 ⟨by decide, by decide⟩ ?_
      refine gX_iret dX3_covers_21 (Or.inr ⟨rfl, Or.inl rfl⟩) ?_
      have e : cov q i = 0 := by unfold cov; split <;> omega
      rw [← e]
      exact hQ
    · refine gX_iconst dX3_covers_16 ⟨by decide, by decide⟩ ?_
      refine gX_goto (tgt := 21) dX3_covers_17 (by decide) ?_
      refine gX_iret dX3_covers_21 (Or.inr ⟨rfl, Or.inr rfl⟩) ?_
      have e : cov q i = 1 := by unfold cov; split <;> omega
      rw [← e]
      exact hQ
set_option maxRecDepth 4000 in
theorem c_sharesSpan {h : Int} {q2 : gG} (hg : glK K R g) (hv : glIs V g q) (hh : glK K R h) (hw : glIs V h q2) (hQ : Q (some (gi (shr q q2))) (K, R, V)) : gC l E (d + 1) iX3_sharesSpan [ga g, ga h] (K, R, V) Q := by
  refine gC_of kX3_sharesSpan (ls := [some (ga g), some (ga h)]) rfl (Nat.le_of_ble_eq_true rfl) ?_
  obtain ⟨a1, a2, a3, a4, a5, a6, a7⟩ := hv
  obtain ⟨b1, b2, b3, b4, b5, b6, b7⟩ := hw
  refine gX_aloadn dX3_sharesSpan_0 rfl ?_
  refine gX_gI 2 dX3_sharesSpan_1 fdX3_24 rfl (Or.inl rfl) hg.1 ?_
  refine gX_aloadn dX3_sharesSpan_4 rfl ?_
  refine gX_gI 2 dX3_sharesSpan_5 fdX3_24 rfl (Or.inl rfl) hh.1 ?_
  refine gX_icmpne (tgt := 26) dX3_sharesSpan_8 (by decide) (fun w1 => ?_) (fun w1 => ?_)
  · refine gX_iconst dX3_sharesSpan_26 ⟨by decide, by decide⟩ ?_
    refine gX_iret dX3_sharesSpan_27 (Or.inr ⟨rfl, Or.inl rfl⟩) ?_
    have e : shr q q2 = 0 := by unfold shr; split <;> omega
    rw [← e]
    exact hQ
  · refine gX_aloadn dX3_sharesSpan_11 rfl ?_
    refine gX_gI 3 dX3_sharesSpan_12 fdX3_27 rfl (Or.inl rfl) hg.1 ?_
    refine gX_aloadn dX3_sharesSpan_15 rfl ?_
    refine gX_gI 3 dX3_sharesSpan_16 fdX3_27 rfl (Or.inl rfl) hh.1 ?_
    refine gX_icmpne (tgt := 26) dX3_sharesSpan_19 (by decide) (fun w2 => ?_) (fun w2 => ?_)
    · refine gX_iconst dX3_sharesSpan_26 ⟨by decide, by decide⟩ ?_
      refine gX_iret dX3_sharesSpan_27 (Or.inr ⟨rfl, Or.inl rfl⟩) ?_
      have e : shr q q2 = 0 := by unfold shr; split <;> omega
      rw [← e]
      exact hQ
    · refine gX_iconst dX3_sharesSpan_22 ⟨by decide, by decide⟩ ?_
      refine gX_goto (tgt := 27) dX3_sharesSpan_23 (by decide) ?_
      refine gX_iret dX3_sharesSpan_27 (Or.inr ⟨rfl, Or.inr rfl⟩) ?_
      have e : shr q q2 = 1 := by unfold shr; split <;> omega
      rw [← e]
      exact hQ
set_option maxRecDepth 4000 in
theorem c_lemmaLength (hg : glK K R g) (hv : glIs V g q) (hb : in32 (q.2.2.2.1 - q.2.2.1) ∧ in32 (lml q)) (hQ : Q (some (gi (lml q))) (K, R, V)) : gC l E (d + 1) iX3_lemmaLength [ga g] (K, R, V) Q := by
  refine gC_of kX3_lemmaLength (ls := [some (ga g)]) rfl (Nat.le_of_ble_eq_true rfl) ?_
  obtain ⟨a1, a2, a3, a4, a5, a6, a7⟩ := hv
  have e0 : V g 4 - V g 3 = q.2.2.2.1 - q.2.2.1 := by rw [a3, a4]
  have e : V g 4 - V g 3 + 1 = lml q := by rw [e0]; rfl
  refine gX_aloadn dX3_lemmaLength_0 rfl ?_
  refine gX_gI 4 dX3_lemmaLength_1 fdX3_30 rfl (Or.inl rfl) hg.1 ?_
  refine gX_aloadn dX3_lemmaLength_4 rfl ?_
  refine gX_gI 3 dX3_lemmaLength_5 fdX3_27 rfl (Or.inl rfl) hg.1 ?_
  refine gX_isub dX3_lemmaLength_8 (by rw [e0]; exact hb.1) ?_
  refine gX_iconst dX3_lemmaLength_9 ⟨by decide, by decide⟩ ?_
  refine gX_iadd dX3_lemmaLength_10 (by rw [e]; exact hb.2) ?_
  refine gX_iret dX3_lemmaLength_11 (Or.inl rfl) ?_
  rw [e]
  exact hQ
set_option maxRecDepth 4000 in
theorem c_glossAt (hB : bkK K R B) (hb : bkIs V B tx gs) (h0 : 0 ≤ g) (h1 : g < gs.length) (hQ : Q (some (ga (B + 10 + 3 * g))) (K, R, V)) : gC l E (d + 1) iX1_glossAt [ga B, gi g] (K, R, V) Q := by
  refine gC_of kX1_glossAt (ls := [some (ga B), some (gi g)]) rfl (Nat.le_of_ble_eq_true rfl) ?_
  have h2 := hb.2.1
  have h3 := hb.2.2.1
  refine gX_iloadn dX1_glossAt_0 rfl ?_
  refine gX_iflt (tgt := 30) dX1_glossAt_1 (by decide) (fun w1 => ?_) (fun w1 => ?_)
  · exfalso; omega
  · refine gX_iloadn dX1_glossAt_4 rfl ?_
    refine gX_aloadn dX1_glossAt_5 rfl ?_
    refine gX_gI 5 dX1_glossAt_6 fdX1_35 rfl (Or.inl rfl) hB.1 ?_
    refine gX_icmpge (tgt := 30) dX1_glossAt_9 (by decide) (fun w2 => ?_) (fun w2 => ?_)
    · exfalso; omega
    · refine gX_iloadn dX1_glossAt_12 rfl ?_
      refine gX_aloadn dX1_glossAt_13 rfl ?_
      refine gX_gR 1 dX1_glossAt_14 fdX1_22 rfl rfl hB.1 hB.2.2.1 ?_
      refine gX_alen dX1_glossAt_17 hB.2.2.2.2.2.2.2.1 (by decide) (by omega) ?_
      refine gX_icmpge (tgt := 30) dX1_glossAt_18 (by decide) (fun w3 => ?_) (fun w3 => ?_)
      · exfalso; omega
      · refine gX_aloadn dX1_glossAt_21 rfl ?_
        refine gX_gR 1 dX1_glossAt_22 fdX1_22 rfl rfl hB.1 hB.2.2.1 ?_
        refine gX_iloadn dX1_glossAt_25 rfl ?_
        refine gX_aald dX1_glossAt_26 hB.2.2.2.2.2.2.2.1 rfl (by omega) (by omega) (hB.2.2.2.2.2.2.2.2.2.2.2 g (by omega) (by omega)).1 ?_
        refine gX_goto (tgt := 31) dX1_glossAt_27 (by decide) ?_
        refine gX_aret dX1_glossAt_31 rfl rfl ?_
        exact hQ
set_option maxRecDepth 4000 in
theorem c_glossAtN (hB : bkK K R B) (hb : bkIs V B tx gs) (h0 : ¬ (0 ≤ g ∧ g < gs.length)) (hQ : Q (some (ga (-1))) (K, R, V)) : gC l E (d + 1) iX1_glossAt [ga B, gi g] (K, R, V) Q := by
  refine gC_of kX1_glossAt (ls := [some (ga B), some (gi g)]) rfl (Nat.le_of_ble_eq_true rfl) ?_
  have h2 := hb.2.1
  have h3 := hb.2.2.1
  refine gX_iloadn dX1_glossAt_0 rfl ?_
  refine gX_iflt (tgt := 30) dX1_glossAt_1 (by decide) (fun w1 => ?_) (fun w1 => ?_)
  · refine gX_null dX1_glossAt_30 ?_
    refine gX_aret dX1_glossAt_31 rfl rfl ?_
    exact hQ
  · refine gX_iloadn dX1_glossAt_4 rfl ?_
    refine gX_aloadn dX1_glossAt_5 rfl ?_
    refine gX_gI 5 dX1_glossAt_6 fdX1_35 rfl (Or.inl rfl) hB.1 ?_
    refine gX_icmpge (tgt := 30) dX1_glossAt_9 (by decide) (fun w2 => ?_) (fun w2 => ?_)
    · refine gX_null dX1_glossAt_30 ?_
      refine gX_aret dX1_glossAt_31 rfl rfl ?_
      exact hQ
    · exfalso; omega
set_option maxRecDepth 4000 in
theorem c_rowOf (hB : bkK K R B) (hb : bkIs V B tx gs) (hQ : Q (some (ga (rwA B gs.length g))) (K, R, V)) : gC l E (d + 2) iX1_rowOf [ga B, gi g] (K, R, V) Q := by
  refine gC_of kX1_rowOf (ls := [some (ga B), some (gi g), none]) rfl (Nat.le_of_ble_eq_true rfl) ?_
  have h2 := hb.2.2.1
  by_cases hc : 0 ≤ g ∧ g < gs.length
  · refine gX_aloadn dX1_rowOf_0 rfl ?_
    refine gX_iloadn dX1_rowOf_1 rfl ?_
    refine gX_virt (J := iX1_glossAt) (av := [gi g]) (a := B) (st := []) dX1_rowOf_2 lkX1_58 kX1_glossAt vX1_glossAt (gFit_m (by decide)) hB.1 rfl rfl (Nat.le_of_ble_eq_true rfl) (Nat.zero_le _) (Nat.zero_le _) rfl ?_
    refine c_glossAt hB hb (by omega) (by omega) ?_
    show gX l E _ 5 [some (ga B), some (gi g), none] [ga (B + 10 + 3 * g)] (K, R, V) _ _
    refine gX_astoren dX1_rowOf_5 (show (2 : Nat) < 3 from by decide) (ls2 := [some (ga B), some (gi g), some (ga (B + 10 + 3 * g))]) rfl ?_
    refine gX_aloadn dX1_rowOf_6 rfl ?_
    refine gX_ifnonnull (tgt := 17) dX1_rowOf_7 (by decide) (fun w1 => ?_) (fun w1 => absurd (kd_pos (hB.2.2.2.2.2.2.2.2.2.2.2 g (by omega) (by omega)).2.1) (by omega))
    refine gX_aloadn dX1_rowOf_17 rfl ?_
    refine gX_gR 0 dX1_rowOf_18 fdX1_65 rfl rfl (hB.2.2.2.2.2.2.2.2.2.2.2 g (by omega) (by omega)).2.1 (hB.2.2.2.2.2.2.2.2.2.2.2 g (by omega) (by omega)).2.2.1 ?_
    refine gX_aret dX1_rowOf_21 rfl rfl ?_
    have e : rwA B gs.length g = B + 10 + 3 * g + 1 := by unfold rwA; rw [if_pos (by omega)]; omega
    rw [← e]
    exact hQ
  · refine gX_aloadn dX1_rowOf_0 rfl ?_
    refine gX_iloadn dX1_rowOf_1 rfl ?_
    refine gX_virt (J := iX1_glossAt) (av := [gi g]) (a := B) (st := []) dX1_rowOf_2 lkX1_58 kX1_glossAt vX1_glossAt (gFit_m (by decide)) hB.1 rfl rfl (Nat.le_of_ble_eq_true rfl) (Nat.zero_le _) (Nat.zero_le _) rfl ?_
    refine c_glossAtN hB hb hc ?_
    show gX l E _ 5 [some (ga B), some (gi g), none] [ga (-1)] (K, R, V) _ _
    refine gX_astoren dX1_rowOf_5 (show (2 : Nat) < 3 from by decide) (ls2 := [some (ga B), some (gi g), some (ga (-1))]) rfl ?_
    refine gX_aloadn dX1_rowOf_6 rfl ?_
    refine gX_ifnonnull (tgt := 17) dX1_rowOf_7 (by decide) (fun k1 => absurd k1 (by omega)) (fun k1 => ?_)
    refine gX_aloadn dX1_rowOf_10 rfl ?_
    refine gX_gR 0 dX1_rowOf_11 fdX1_14 rfl rfl hB.1 hB.2.1 ?_
    refine gX_goto (tgt := 21) dX1_rowOf_14 (by decide) ?_
    refine gX_aret dX1_rowOf_21 rfl rfl ?_
    have e : rwA B gs.length g = B + 1 := by unfold rwA; rw [if_neg hc]
    rw [← e]
    exact hQ
theorem rwA_row {h : Int} (hB : bkK K R B) (hb : bkIs V B tx gs) : ∃ n : Nat, gRow K R (rwA B gs.length h) n ∧ rIs V (rwA B gs.length h) n (rwL tx gs h) ∧ n ≤ 40 := by
  have h3 := hb.2.2.1
  unfold rwA rwL
  by_cases hc : 0 ≤ h ∧ h < gs.length
  · rw [if_pos hc, if_pos hc]
    have e : B + 11 + 3 * h = B + 10 + 3 * h + 1 := by omega
    rw [e]
    exact ⟨8, (hB.2.2.2.2.2.2.2.2.2.2.2 h hc.1 (by omega)).2.2.2, (hb.gl hc.1 hc.2).2.2.2.2.2.2, by omega⟩
  · rw [if_neg hc, if_neg hc]
    exact ⟨40, hB.2.2.2.2.2.2.1, hb.1, by omega⟩
theorem gAtI (hB : bkK K R B) (hb : bkIs V B tx gs) (hQ : Q (some (ga (if 0 ≤ g ∧ g < gs.length then B + 10 + 3 * g else -1))) (K, R, V)) : gC l E (d + 1) iX1_glossAt [ga B, gi g] (K, R, V) Q := by
  by_cases hc : 0 ≤ g ∧ g < gs.length
  · rw [if_pos hc] at hQ
    exact c_glossAt hB hb hc.1 hc.2 hQ
  · rw [if_neg hc] at hQ
    exact c_glossAtN hB hb hc hQ
set_option maxRecDepth 4000 in
theorem c_depthOf (hB : bkK K R B) (hb : bkIs V B tx gs) (hQ : Q (some (gi (dpt gs 5 g))) (K, R, V)) : gC l E (d + 2) iX1_depthOf [ga B, gi g] (K, R, V) Q := by
  refine gC_of kX1_depthOf (ls := [some (ga B), some (gi g), none, none]) rfl (Nat.le_of_ble_eq_true rfl) ?_
  have h20 := hb.2.2.1
  have lp : ∀ (jj : Nat) (x dd : Int) (bc bs : Nat), dd + jj = 5 → 0 ≤ dd → Q (some (gi (dd + dpt gs jj x))) (K, R, V) → gX l E (gFm E (d + 2) iX1_depthOf Q) 8 [some (ga B), some (gi g), some (gi dd), some (ga (if 0 ≤ x ∧ x < gs.length then B + 10 + 3 * x else -1))] [] (K, R, V) bc bs := by
    intro jj
    induction jj with
    | zero =>
      intro x dd bc bs hj hd hq
      have e : dpt gs 0 x = 0 := rfl
      rw [e] at hq
      by_cases hc : 0 ≤ x ∧ x < gs.length
      · rw [if_pos hc]
        refine gX_aloadn dX1_depthOf_8 rfl ?_
        refine gX_ifnull (tgt := 32) dX1_depthOf_9 (by decide) (fun k1 => absurd (kd_pos (hB.2.2.2.2.2.2.2.2.2.2.2 x hc.1 (by omega)).2.1) (by omega)) (fun k1 => ?_)
        refine gX_iloadn dX1_depthOf_12 rfl ?_
        refine gX_iconst dX1_depthOf_13 ⟨by decide, by decide⟩ ?_
        refine gX_icmpgt (tgt := 32) dX1_depthOf_14 (by decide) (fun k2 => ?_) (fun k2 => ?_)
        · refine gX_iloadn dX1_depthOf_32 rfl ?_
          refine gX_iret dX1_depthOf_33 (Or.inl rfl) ?_
          rw [Int.add_zero] at hq
          exact hq
        · exfalso; omega
      · rw [if_neg hc]
        refine gX_aloadn dX1_depthOf_8 rfl ?_
        refine gX_ifnull (tgt := 32) dX1_depthOf_9 (by decide) (fun k1 => ?_) (fun k1 => absurd k1 (by omega))
        refine gX_iloadn dX1_depthOf_32 rfl ?_
        refine gX_iret dX1_depthOf_33 (Or.inl rfl) ?_
        rw [Int.add_zero] at hq
        exact hq
    | succ jj ih =>
      intro x dd bc bs hj hd hq
      by_cases hc : 0 ≤ x ∧ x < gs.length
      · have e : dpt gs (jj + 1) x = 1 + dpt gs jj (gq gs x).2.1 := by
          show (if 0 ≤ x ∧ x < gs.length then 1 + dpt gs jj (gq gs x).2.1 else 0) = _
          rw [if_pos hc]
        rw [e] at hq
        rw [if_pos hc]
        refine gX_aloadn dX1_depthOf_8 rfl ?_
        refine gX_ifnull (tgt := 32) dX1_depthOf_9 (by decide) (fun w1 => absurd (kd_pos (hB.2.2.2.2.2.2.2.2.2.2.2 x hc.1 (by omega)).2.1) (by omega)) (fun w1 => ?_)
        refine gX_iloadn dX1_depthOf_12 rfl ?_
        refine gX_iconst dX1_depthOf_13 ⟨by decide, by decide⟩ ?_
        refine gX_icmpgt (tgt := 32) dX1_depthOf_14 (by decide) (fun w2 => ?_) (fun w2 => ?_)
        · exfalso; omega
        · refine gX_iinc dX1_depthOf_17 rfl (show (2 : Nat) < 4 from by decide) ⟨by omega, by omega⟩ (ls2 := [some (ga B), some (gi g), some (gi (dd + 1)), some (ga (B + 10 + 3 * x))]) rfl ?_
          refine gX_aloadn dX1_depthOf_20 rfl ?_
          refine gX_aloadn dX1_depthOf_21 rfl ?_
          refine gX_gI 2 dX1_depthOf_22 fdX1_71 rfl (Or.inl rfl) (hB.2.2.2.2.2.2.2.2.2.2.2 x hc.1 (by omega)).2.1 ?_
          rw [(hb.gl hc.1 hc.2).2.1]
          refine gX_virt (J := iX1_glossAt) (av := [gi ((gq gs x).2.1)]) (a := B) (st := []) dX1_depthOf_25 lkX1_58 kX1_glossAt vX1_glossAt (gFit_m (by decide)) hB.1 rfl rfl (Nat.le_of_ble_eq_true rfl) (Nat.zero_le _) (Nat.zero_le _) rfl ?_
          refine gAtI hB hb ?_
          show gX l E _ 28 [some (ga B), some (gi g), some (gi (dd + 1)), some (ga (B + 10 + 3 * x))] [ga (if 0 ≤ (gq gs x).2.1 ∧ (gq gs x).2.1 < gs.length then B + 10 + 3 * (gq gs x).2.1 else -1)] (K, R, V) _ _
          refine gX_astoren dX1_depthOf_28 (show (3 : Nat) < 4 from by decide) (ls2 := [some (ga B), some (gi g), some (gi (dd + 1)), some (ga (if 0 ≤ (gq gs x).2.1 ∧ (gq gs x).2.1 < gs.length then B + 10 + 3 * (gq gs x).2.1 else -1))]) rfl ?_
          refine gX_goto (tgt := 8) dX1_depthOf_29 (by decide) ?_
          refine ih (gq gs x).2.1 (dd + 1) _ _ (by omega) (by omega) ?_
          rw [show dd + 1 + dpt gs jj (gq gs x).2.1 = dd + (1 + dpt gs jj (gq gs x).2.1) by omega]
          exact hq
      · have e : dpt gs (jj + 1) x = 0 := by
          show (if 0 ≤ x ∧ x < gs.length then 1 + dpt gs jj (gq gs x).2.1 else 0) = _
          rw [if_neg hc]
        rw [e] at hq
        rw [if_neg hc]
        refine gX_aloadn dX1_depthOf_8 rfl ?_
        refine gX_ifnull (tgt := 32) dX1_depthOf_9 (by decide) (fun k1 => ?_) (fun k1 => absurd k1 (by omega))
        refine gX_iloadn dX1_depthOf_32 rfl ?_
        refine gX_iret dX1_depthOf_33 (Or.inl rfl) ?_
        rw [Int.add_zero] at hq
        exact hq
  refine gX_iconst dX1_depthOf_0 ⟨by decide, by decide⟩ ?_
  refine gX_istoren dX1_depthOf_1 (show (2 : Nat) < 4 from by decide) (ls2 := [some (ga B), some (gi g), some (gi 0), none]) rfl ?_
  refine gX_aloadn dX1_depthOf_2 rfl ?_
  refine gX_iloadn dX1_depthOf_3 rfl ?_
  refine gX_virt (J := iX1_glossAt) (av := [gi g]) (a := B) (st := []) dX1_depthOf_4 lkX1_58 kX1_glossAt vX1_glossAt (gFit_m (by decide)) hB.1 rfl rfl (Nat.le_of_ble_eq_true rfl) (Nat.zero_le _) (Nat.zero_le _) rfl ?_
  refine gAtI hB hb ?_
  show gX l E _ 7 [some (ga B), some (gi g), some (gi 0), none] [ga (if 0 ≤ g ∧ g < gs.length then B + 10 + 3 * g else -1)] (K, R, V) _ _
  refine gX_astoren dX1_depthOf_7 (show (3 : Nat) < 4 from by decide) (ls2 := [some (ga B), some (gi g), some (gi 0), some (ga (if 0 ≤ g ∧ g < gs.length then B + 10 + 3 * g else -1))]) rfl ?_
  refine lp 5 g 0 _ _ (by omega) (by omega) ?_
  rw [Int.zero_add]
  exact hQ
set_option maxRecDepth 4000 in
theorem c_orderInSpan (hB : bkK K R B) (hb : bkIs V B tx gs) (h0 : 0 ≤ g) (h1 : g < gs.length) (hQ : Q (some (gi (ordS gs g))) (K, R, V)) : gC l E (d + 2) iX1_orderInSpan [ga B, gi g] (K, R, V) Q := by
  refine gC_of kX1_orderInSpan (ls := [some (ga B), some (gi g), none, none, none, none]) rfl (Nat.le_of_ble_eq_true rfl) ?_
  have h20 := hb.2.2.1
  have lp : ∀ (jj : Nat) (i : Int) (j5 : Option gV) (bc bs : Nat), g - i < (jj : Int) → 0 ≤ i → i ≤ g → gX l E (gFm E (d + 2) iX1_orderInSpan Q) 11 [some (ga B), some (gi g), some (ga (B + 10 + 3 * g)), some (gi (cntB (fun h => decide (shr (gq gs h) (gq gs g) = 1)) i.toNat)), some (gi i), j5] [] (K, R, V) bc bs := by
    intro jj
    induction jj with
    | zero =>
      intro i j5 bc bs hj q0 q1
      exfalso; omega
    | succ jj ih =>
      intro i j5 bc bs hj q0 q1
      refine gX_iload dX1_orderInSpan_11 rfl ?_
      refine gX_iloadn dX1_orderInSpan_13 rfl ?_
      refine gX_icmpge (tgt := 52) dX1_orderInSpan_14 (by decide) (fun w1 => ?_) (fun w1 => ?_)
      · refine gX_iloadn dX1_orderInSpan_52 rfl ?_
        refine gX_iret dX1_orderInSpan_53 (Or.inl rfl) ?_
        have eg : i = g := by omega
        subst eg
        exact hQ
      · refine gX_aloadn dX1_orderInSpan_17 rfl ?_
        refine gX_iload dX1_orderInSpan_18 rfl ?_
        refine gX_virt (J := iX1_glossAt) (av := [gi i]) (a := B) (st := []) dX1_orderInSpan_20 lkX1_58 kX1_glossAt vX1_glossAt (gFit_m (by decide)) hB.1 rfl rfl (Nat.le_of_ble_eq_true rfl) (Nat.zero_le _) (Nat.zero_le _) rfl ?_
        refine c_glossAt hB hb (by omega) (by omega) ?_
        show gX l E _ 23 [some (ga B), some (gi g), some (ga (B + 10 + 3 * g)), some (gi (cntB (fun h => decide (shr (gq gs h) (gq gs g) = 1)) i.toNat)), some (gi i), j5] [ga (B + 10 + 3 * i)] (K, R, V) _ _
        refine gX_astore dX1_orderInSpan_23 (show (5 : Nat) < 6 from by decide) (ls2 := [some (ga B), some (gi g), some (ga (B + 10 + 3 * g)), some (gi (cntB (fun h => decide (shr (gq gs h) (gq gs g) = 1)) i.toNat)), some (gi i), some (ga (B + 10 + 3 * i))]) rfl ?_
        refine gX_aloadn dX1_orderInSpan_25 rfl ?_
        refine gX_ifnull (tgt := 46) dX1_orderInSpan_26 (by decide) (fun w2 => absurd (kd_pos (hB.2.2.2.2.2.2.2.2.2.2.2 g h0 (by omega)).2.1) (by omega)) (fun w2 => ?_)
        refine gX_aload dX1_orderInSpan_29 rfl ?_
        refine gX_ifnull (tgt := 46) dX1_orderInSpan_31 (by decide) (fun w3 => absurd (kd_pos (hB.2.2.2.2.2.2.2.2.2.2.2 i (by omega) (by omega)).2.1) (by omega)) (fun w3 => ?_)
        refine gX_aload dX1_orderInSpan_34 rfl ?_
        refine gX_aloadn dX1_orderInSpan_36 rfl ?_
        refine gX_virt (J := iX3_sharesSpan) (av := [ga (B + 10 + 3 * g)]) (a := (B + 10 + 3 * i)) (st := []) dX1_orderInSpan_37 lkX1_84 kX3_sharesSpan vX3_sharesSpan (gFit_m (by decide)) (hB.2.2.2.2.2.2.2.2.2.2.2 i (by omega) (by omega)).2.1 rfl rfl (Nat.le_of_ble_eq_true rfl) (Nat.zero_le _) (Nat.zero_le _) rfl ?_
        refine c_sharesSpan (hB.2.2.2.2.2.2.2.2.2.2.2 i (by omega) (by omega)).2 (hb.gl (by omega) (by omega)) (hB.2.2.2.2.2.2.2.2.2.2.2 g h0 (by omega)).2 (hb.gl h0 h1) ?_
        show gX l E _ 40 [some (ga B), some (gi g), some (ga (B + 10 + 3 * g)), some (gi (cntB (fun h => decide (shr (gq gs h) (gq gs g) = 1)) i.toNat)), some (gi i), some (ga (B + 10 + 3 * i))] [gi (shr (gq gs i) (gq gs g))] (K, R, V) _ _
        have hs01 : shr (gq gs i) (gq gs g) = 0 ∨ shr (gq gs i) (gq gs g) = 1 := by unfold shr; split <;> omega
        have bd := cntB_bd (fun h => decide (shr (gq gs h) (gq gs g) = 1)) i.toNat
        refine gX_ifeq (tgt := 46) dX1_orderInSpan_40 (by decide) (fun w4 => ?_) (fun w4 => ?_)
        · refine gX_iinc dX1_orderInSpan_46 rfl (show (4 : Nat) < 6 from by decide) ⟨by omega, by omega⟩ (ls2 := [some (ga B), some (gi g), some (ga (B + 10 + 3 * g)), some (gi (cntB (fun h => decide (shr (gq gs h) (gq gs g) = 1)) i.toNat)), some (gi (i + 1)), some (ga (B + 10 + 3 * i))]) rfl ?_
          refine gX_goto (tgt := 11) dX1_orderInSpan_49 (by decide) ?_
          have ec : cntB (fun h => decide (shr (gq gs h) (gq gs g) = 1)) (i + 1).toNat = cntB (fun h => decide (shr (gq gs h) (gq gs g) = 1)) i.toNat + 0 := by
            rw [show (i + 1).toNat = i.toNat + 1 by omega, cntB_s]
            simp only [Int.toNat_of_nonneg q0, decide_eq_true_eq]
            rw [if_neg (by omega)]
          rw [Int.add_zero] at ec
          rw [← ec]
          exact ih (i + 1) _ _ _ (by omega) (by omega) (by omega)
        · refine gX_iinc dX1_orderInSpan_43 rfl (show (3 : Nat) < 6 from by decide) ⟨by omega, by omega⟩ (ls2 := [some (ga B), some (gi g), some (ga (B + 10 + 3 * g)), some (gi ((cntB (fun h => decide (shr (gq gs h) (gq gs g) = 1)) i.toNat) + 1)), some (gi i), some (ga (B + 10 + 3 * i))]) rfl ?_
          refine gX_iinc dX1_orderInSpan_46 rfl (show (4 : Nat) < 6 from by decide) ⟨by omega, by omega⟩ (ls2 := [some (ga B), some (gi g), some (ga (B + 10 + 3 * g)), some (gi ((cntB (fun h => decide (shr (gq gs h) (gq gs g) = 1)) i.toNat) + 1)), some (gi (i + 1)), some (ga (B + 10 + 3 * i))]) rfl ?_
          refine gX_goto (tgt := 11) dX1_orderInSpan_49 (by decide) ?_
          have ec : cntB (fun h => decide (shr (gq gs h) (gq gs g) = 1)) (i + 1).toNat = cntB (fun h => decide (shr (gq gs h) (gq gs g) = 1)) i.toNat + 1 := by
            rw [show (i + 1).toNat = i.toNat + 1 by omega, cntB_s]
            simp only [Int.toNat_of_nonneg q0, decide_eq_true_eq]
            rw [if_pos (by omega)]
          rw [← ec]
          exact ih (i + 1) _ _ _ (by omega) (by omega) (by omega)
  refine gX_aloadn dX1_orderInSpan_0 rfl ?_
  refine gX_iloadn dX1_orderInSpan_1 rfl ?_
  refine gX_virt (J := iX1_glossAt) (av := [gi g]) (a := B) (st := []) dX1_orderInSpan_2 lkX1_58 kX1_glossAt vX1_glossAt (gFit_m (by decide)) hB.1 rfl rfl (Nat.le_of_ble_eq_true rfl) (Nat.zero_le _) (Nat.zero_le _) rfl ?_
  refine c_glossAt hB hb h0 h1 ?_
  show gX l E _ 5 [some (ga B), some (gi g), none, none, none, none] [ga (B + 10 + 3 * g)] (K, R, V) _ _
  refine gX_astoren dX1_orderInSpan_5 (show (2 : Nat) < 6 from by decide) (ls2 := [some (ga B), some (gi g), some (ga (B + 10 + 3 * g)), none, none, none]) rfl ?_
  refine gX_iconst dX1_orderInSpan_6 ⟨by decide, by decide⟩ ?_
  refine gX_istoren dX1_orderInSpan_7 (show (3 : Nat) < 6 from by decide) (ls2 := [some (ga B), some (gi g), some (ga (B + 10 + 3 * g)), some (gi 0), none, none]) rfl ?_
  refine gX_iconst dX1_orderInSpan_8 ⟨by decide, by decide⟩ ?_
  refine gX_istore dX1_orderInSpan_9 (show (4 : Nat) < 6 from by decide) (ls2 := [some (ga B), some (gi g), some (ga (B + 10 + 3 * g)), some (gi 0), some (gi 0), none]) rfl ?_
  exact lp (g.toNat + 1) 0 none _ _ (by omega) (by omega) (by omega)
end BOOK
