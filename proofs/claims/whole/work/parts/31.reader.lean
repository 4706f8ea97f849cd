/-! BookReader. Written by wip/whole/tools/mk_reader.py. -/
def rdK (K : List gK) (R : Int → Int → Int) (D : Int) : Prop := kd (K, R, fun _ _ => 0) D = some (.inl 2)
def rdIs (V : Int → Int → Int) (D st op lf : Int) : Prop := V D 0 = st ∧ V D 1 = op ∧ V D 2 = lf
/-- a book being read: the told text, the text, the glosses, the state, the open gloss, where the lemma began -/
abbrev bR : Type := tS × List Int × List gG × Int × Int × Int
def brIs (V : Int → Int → Int) (D T B : Int) (ys : List Int) (s : bR) : Prop := toIs V T ys s.1 ∧ bkIs V B s.2.1 s.2.2.1 ∧ bmIs V B (-1) (-1) (List.replicate 6 0) (List.replicate 6 0) ∧ rdIs V D s.2.2.2.1 s.2.2.2.2.1 s.2.2.2.2.2
def brF (V V' : Int → Int → Int) (D T B : Int) : Prop := ∀ a, a ≠ D → a ≠ T → (a < B ∨ B + 70 ≤ a) → V' a = V a
theorem brF.trans {V V1 V2 : Int → Int → Int} {D T B : Int} (h : brF V V1 D T B) (h2 : brF V1 V2 D T B) : brF V V2 D T B := fun a h3 h4 h5 => (h2 a h3 h4 h5).trans (h a h3 h4 h5)
theorem brF.rf {V : Int → Int → Int} {D T B : Int} : brF V V D T B := fun _ _ _ _ => rfl
theorem oFr.br {V V1 : Int → Int → Int} {D T B : Int} (h : oFr V V1 T) : brF V V1 D T B := fun a _ h4 _ => h a h4
theorem brIs.told {V V1 : Int → Int → Int} {D T B : Int} {ys : List Int} {s : bR} {t : tS} (h : brIs V D T B ys s) (hd1 : T + 3 ≤ D) (hd2 : D < B) (ht : toIs V1 T ys t) (hf : oFr V V1 T) : brIs V1 D T B ys (t, s.2) :=
  ⟨ht, h.2.1.kept (fun a _ _ => hf a (by omega)), h.2.2.1.kept (fun a _ _ => hf a (by omega)), by unfold rdIs; rw [hf D (by omega)]; exact h.2.2.2⟩
/-- the reader alone has changed -/
theorem brIs.rd {V V1 : Int → Int → Int} {D T B st op lf : Int} {ys : List Int} {s : bR} (h : brIs V D T B ys s) (hd1 : T + 3 ≤ D) (hd2 : D < B) (hr : rdIs V1 D st op lf) (hf : oFr V V1 D) : brIs V1 D T B ys (s.1, s.2.1, s.2.2.1, st, op, lf) :=
  ⟨h.1.kept (hf _ (by omega)) (hf _ (by omega)) (hf _ (by omega)), h.2.1.kept (fun a _ _ => hf a (by omega)), h.2.2.1.kept (fun a _ _ => hf a (by omega)), hr⟩
def bF (n x : Int) (s : bR) : bR := ((s.1.1, s.1.2.1, n, x), s.2)
def inG (gs : List gG) (g : Int) : Bool := decide (0 ≤ g ∧ g < gs.length)
def roO (gs : List gG) (g : Int) : Int := if inG gs g = true then (if (gq gs g).1 = 0 then 4 else 8) else 40
def rdAdd (s : bR) (w : Int) : bR := (s.1, if inG s.2.2.1 s.2.2.2.2.1 = true then s.2.1 else s.2.1 ++ [w], if inG s.2.2.1 s.2.2.2.2.1 = true then s.2.2.1.set s.2.2.2.2.1.toNat (rwG (gq s.2.2.1 s.2.2.2.2.1) ((gq s.2.2.1 s.2.2.2.2.1).2.2.2.2.2 ++ [w])) else s.2.2.1, if s.2.2.2.1 = 2 ∨ s.2.2.2.1 = 3 then 3 else 0, s.2.2.2.2.1, s.2.2.2.2.2)
def rdWord (ys : List Int) (s : bR) : Int × bR := if s.2.2.2.1 = 4 then (0, bF 1 s.1.1 s) else if (tkNum ys 0 63 s.1).1 = -1 then (0, (tkNum ys 0 63 s.1).2, s.2) else if roO s.2.2.1 s.2.2.2.2.1 ≤ (rwL s.2.1 s.2.2.1 s.2.2.2.2.1).length then (0, bF 3 (tkNum ys 0 63 s.1).2.2.1 ((tkNum ys 0 63 s.1).2, s.2)) else (1, rdAdd ((tkNum ys 0 63 s.1).2, s.2) (tkNum ys 0 63 s.1).1)
def rdOpen (s : bR) : Int × bR := if s.2.2.2.1 = 0 ∨ s.2.2.2.1 = 1 then (1, s.1, s.2.1, s.2.2.1, 2, s.2.2.2.2.1, (rwL s.2.1 s.2.2.1 s.2.2.2.2.1).length) else (0, bF 1 s.1.1 s)
def sib (s : bR) : Bool := decide (s.2.2.2.1 = 0) && inG s.2.2.1 s.2.2.2.2.1
def glH (s : bR) : Int := if sib s = true then (gq s.2.2.1 s.2.2.2.2.1).2.1 else s.2.2.2.2.1
def glA (s : bR) : Int := if sib s = true then (gq s.2.2.1 s.2.2.2.2.1).2.2.1 else s.2.2.2.2.2
def glZ (s : bR) : Int := if sib s = true then (gq s.2.2.1 s.2.2.2.2.1).2.2.2.1 else (rwL s.2.1 s.2.2.1 (glH s)).length - 1
def rdGl (s : bR) : Int × bR := if sib s = false ∧ s.2.2.2.1 ≠ 3 then (0, bF 1 s.1.1 s) else if 20 ≤ s.2.2.1.length then (0, bF 4 s.1.1 s) else if 4 ≤ dpt s.2.2.1 5 (glH s) then (0, bF 5 s.1.1 s) else (1, s.1, s.2.1, s.2.2.1 ++ [(0, glH s, glA s, glZ s, 0, [])], 4, s.2.2.1.length, s.2.2.2.2.2)
def kdG (q : gG) (k : Int) : gG := (k, q.2)
def rdKind (k : Int) (s : bR) : Int × bR := if s.2.2.2.1 = 4 ∧ inG s.2.2.1 s.2.2.2.2.1 = true then (1, s.1, s.2.1, s.2.2.1.set s.2.2.2.2.1.toNat (kdG (gq s.2.2.1 s.2.2.2.2.1) k), 1, s.2.2.2.2.1, s.2.2.2.2.2) else (0, bF 1 s.1.1 s)
def rdClose (s : bR) : Int × bR := if sib s = true then (1, s.1, s.2.1, s.2.2.1, s.2.2.2.1, (gq s.2.2.1 s.2.2.2.2.1).2.1, s.2.2.2.2.2) else (0, bF 1 s.1.1 s)
theorem inG_t {gs : List gG} {g : Int} (h : 0 ≤ g ∧ g < gs.length) : inG gs g = true := decide_eq_true h
theorem inG_f {gs : List gG} {g : Int} (h : ¬ (0 ≤ g ∧ g < gs.length)) : inG gs g = false := decide_eq_false h
section READER
variable {l : Launch} {E : gE} {d : Nat} {K : List gK} {R V : Int → Int → Int} {B T D g : Int} {Q : gQ} {ys : List Int} {s : bR}
set_option maxRecDepth 4000 in
theorem c_openSpan (hD : rdK K R D) (hT : toK K R T) (hB : bkK K R B) (hd1 : T + 3 ≤ D) (hd2 : D < B) (hs : brIs V D T B ys s) (hQ : ∀ V', brIs V' D T B ys (rdOpen s).2 → brF V V' D T B → Q (some (gi (rdOpen s).1)) (K, R, V')) : gC l E (d + 3) iX2_openSpan [ga D, ga T, ga B] (K, R, V) Q := by
  refine gC_of kX2_openSpan (ls := [some (ga D), some (ga T), some (ga B)]) rfl (Nat.le_of_ble_eq_true rfl) ?_
  obtain ⟨nn, hrn1, hrn2, hrn3⟩ := rwA_row (h := s.2.2.2.2.1) hB hs.2.1
  refine gX_aloadn dX2_openSpan_0 rfl ?_
  refine gX_gI 0 dX2_openSpan_1 fdX2_11 rfl (Or.inl rfl) hD ?_
  rw [hs.2.2.2.1]
  refine gX_ifeq (tgt := 25) dX2_openSpan_4 (by decide) (fun w1 => ?_) (fun w1 => ?_)
  · refine gX_aloadn dX2_openSpan_25 rfl ?_
    refine gX_aloadn dX2_openSpan_26 rfl ?_
    refine gX_aloadn dX2_openSpan_27 rfl ?_
    refine gX_gI 1 dX2_openSpan_28 fdX2_15 rfl (Or.inl rfl) hD ?_
    rw [hs.2.2.2.2.1]
    refine gX_virt (J := iX1_rowOf) (av := [gi s.2.2.2.2.1]) (a := B) (st := [ga D]) dX2_openSpan_31 lkX2_58 kX1_rowOf vX1_rowOf (gFit_m (by decide)) hB.1 rfl rfl (Nat.le_of_ble_eq_true rfl) (Nat.zero_le _) (Nat.zero_le _) rfl ?_
    refine c_rowOf hB hs.2.1 ?_
    show gX l E _ 34 [some (ga D), some (ga T), some (ga B)] [ga (rwA B s.2.2.1.length s.2.2.2.2.1), ga D] (K, R, V) _ _
    refine gX_virt (J := iX6_length) (av := []) (a := (rwA B s.2.2.1.length s.2.2.2.2.1)) (st := [ga D]) dX2_openSpan_34 lkX2_62 kX6_length vX6_length (gFit_m (by decide)) hrn1.1 rfl rfl (Nat.le_of_ble_eq_true rfl) (Nat.zero_le _) (Nat.zero_le _) rfl ?_
    refine q_Row_length hrn1 hrn2 ?_
    show gX l E _ 37 [some (ga D), some (ga T), some (ga B)] [gi ((rwL s.2.1 s.2.2.1 s.2.2.2.2.1).length), ga D] (K, R, V) _ _
    refine gX_pI 2 dX2_openSpan_37 fdX2_18 fpX2_18 rfl (Or.inl rfl) hD ?_
    refine gX_aloadn dX2_openSpan_40 rfl ?_
    refine gX_iconst dX2_openSpan_41 ⟨by decide, by decide⟩ ?_
    refine gX_pI 0 dX2_openSpan_42 fdX2_11 fpX2_11 rfl (Or.inl rfl) hD ?_
    refine gX_iconst dX2_openSpan_45 ⟨by decide, by decide⟩ ?_
    refine gX_iret dX2_openSpan_46 (Or.inr ⟨rfl, Or.inr rfl⟩) ?_
    have e : rdOpen s = _ := if_pos (by omega)
    rw [e] at hQ
    exact hQ _ (hs.rd hd1 hd2 ⟨gup_s, by rw [gup_o (Or.inr (by omega)), gup_o (Or.inr (by omega))]; exact hs.2.2.2.2.1, by rw [gup_o (Or.inr (by omega))]; exact gup_s⟩ (fun a ha => by rw [gup_ne ha, gup_ne ha])) (fun a ha _ _ => by rw [gup_ne ha, gup_ne ha])
  · refine gX_aloadn dX2_openSpan_7 rfl ?_
    refine gX_gI 0 dX2_openSpan_8 fdX2_11 rfl (Or.inl rfl) hD ?_
    rw [hs.2.2.2.1]
    refine gX_iconst dX2_openSpan_11 ⟨by decide, by decide⟩ ?_
    refine gX_icmpeq (tgt := 25) dX2_openSpan_12 (by decide) (fun w2 => ?_) (fun w2 => ?_)
    · refine gX_aloadn dX2_openSpan_25 rfl ?_
      refine gX_aloadn dX2_openSpan_26 rfl ?_
      refine gX_aloadn dX2_openSpan_27 rfl ?_
      refine gX_gI 1 dX2_openSpan_28 fdX2_15 rfl (Or.inl rfl) hD ?_
      rw [hs.2.2.2.2.1]
      refine gX_virt (J := iX1_rowOf) (av := [gi s.2.2.2.2.1]) (a := B) (st := [ga D]) dX2_openSpan_31 lkX2_58 kX1_rowOf vX1_rowOf (gFit_m (by decide)) hB.1 rfl rfl (Nat.le_of_ble_eq_true rfl) (Nat.zero_le _) (Nat.zero_le _) rfl ?_
      refine c_rowOf hB hs.2.1 ?_
      show gX l E _ 34 [some (ga D), some (ga T), some (ga B)] [ga (rwA B s.2.2.1.length s.2.2.2.2.1), ga D] (K, R, V) _ _
      refine gX_virt (J := iX6_length) (av := []) (a := (rwA B s.2.2.1.length s.2.2.2.2.1)) (st := [ga D]) dX2_openSpan_34 lkX2_62 kX6_length vX6_length (gFit_m (by decide)) hrn1.1 rfl rfl (Nat.le_of_ble_eq_true rfl) (Nat.zero_le _) (Nat.zero_le _) rfl ?_
      refine q_Row_length hrn1 hrn2 ?_
      show gX l E _ 37 [some (ga D), some (ga T), some (ga B)] [gi ((rwL s.2.1 s.2.2.1 s.2.2.2.2.1).length), ga D] (K, R, V) _ _
      refine gX_pI 2 dX2_openSpan_37 fdX2_18 fpX2_18 rfl (Or.inl rfl) hD ?_
      refine gX_aloadn dX2_openSpan_40 rfl ?_
      refine gX_iconst dX2_openSpan_41 ⟨by decide, by decide⟩ ?_
      refine gX_pI 0 dX2_openSpan_42 fdX2_11 fpX2_11 rfl (Or.inl rfl) hD ?_
      refine gX_iconst dX2_openSpan_45 ⟨by decide, by decide⟩ ?_
      refine gX_iret dX2_openSpan_46 (Or.inr ⟨rfl, Or.inr rfl⟩) ?_
      have e : rdOpen s = _ := if_pos (by omega)
      rw [e] at hQ
      exact hQ _ (hs.rd hd1 hd2 ⟨gup_s, by rw [gup_o (Or.inr (by omega)), gup_o (Or.inr (by omega))]; exact hs.2.2.2.2.1, by rw [gup_o (Or.inr (by omega))]; exact gup_s⟩ (fun a ha => by rw [gup_ne ha, gup_ne ha])) (fun a ha _ _ => by rw [gup_ne ha, gup_ne ha])
    · refine gX_aloadn dX2_openSpan_15 rfl ?_
      refine gX_iconst dX2_openSpan_16 ⟨by decide, by decide⟩ ?_
      refine gX_aloadn dX2_openSpan_17 rfl ?_
      refine gX_gI 1 dX2_openSpan_18 fdX2_47 rfl (Or.inl rfl) hT.1 ?_
      rw [hs.1.1]
      refine gX_virt (J := iX8_fail) (av := [gi 1, gi s.1.1]) (a := T) (st := []) dX2_openSpan_21 lkX2_50 kX8_fail vX8_fail (gFit_m (by decide)) hT.1 rfl rfl (Nat.le_of_ble_eq_true rfl) (Nat.zero_le _) (Nat.zero_le _) rfl ?_
      refine c_fail hT hs.1 (fun V8 ht8 hf8 => ?_)
      show gX l E _ 24 [some (ga D), some (ga T), some (ga B)] [gi 0] (K, R, V8) _ _
      refine gX_iret dX2_openSpan_24 (Or.inr ⟨rfl, Or.inl rfl⟩) ?_
      have e : rdOpen s = _ := if_neg (by omega)
      rw [e] at hQ
      exact hQ V8 (hs.told hd1 hd2 ht8 hf8) hf8.br
set_option maxRecDepth 4000 in
theorem c_closeSpan (hD : rdK K R D) (hT : toK K R T) (hB : bkK K R B) (hd1 : T + 3 ≤ D) (hd2 : D < B) (hs : brIs V D T B ys s) (hQ : ∀ V', brIs V' D T B ys (rdClose s).2 → brF V V' D T B → Q (some (gi (rdClose s).1)) (K, R, V')) : gC l E (d + 2) iX2_closeSpan [ga D, ga T, ga B] (K, R, V) Q := by
  refine gC_of kX2_closeSpan (ls := [some (ga D), some (ga T), some (ga B), none]) rfl (Nat.le_of_ble_eq_true rfl) ?_
  refine gX_aloadn dX2_closeSpan_0 rfl ?_
  refine gX_aloadn dX2_closeSpan_1 rfl ?_
  refine gX_gI 1 dX2_closeSpan_2 fdX2_15 rfl (Or.inl rfl) hD ?_
  rw [hs.2.2.2.2.1]
  refine gX_virt (J := iX1_glossAt) (av := [gi s.2.2.2.2.1]) (a := B) (st := []) dX2_closeSpan_5 lkX2_67 kX1_glossAt vX1_glossAt (gFit_m (by decide)) hB.1 rfl rfl (Nat.le_of_ble_eq_true rfl) (Nat.zero_le _) (Nat.zero_le _) rfl ?_
  refine gAtI hB hs.2.1 ?_
  by_cases n0 : 0 ≤ s.2.2.2.2.1 ∧ s.2.2.2.2.1 < s.2.2.1.length
  · rw [if_pos n0]
    have ng := inG_t n0
    show gX l E _ 8 [some (ga D), some (ga T), some (ga B), none] [ga (B + 10 + 3 * s.2.2.2.2.1)] (K, R, V) _ _
    refine gX_astoren dX2_closeSpan_8 (show (3 : Nat) < 4 from by decide) (ls2 := [some (ga D), some (ga T), some (ga B), some (ga (B + 10 + 3 * s.2.2.2.2.1))]) rfl ?_
    refine gX_aloadn dX2_closeSpan_9 rfl ?_
    refine gX_gI 0 dX2_closeSpan_10 fdX2_11 rfl (Or.inl rfl) hD ?_
    rw [hs.2.2.2.1]
    refine gX_ifne (tgt := 20) dX2_closeSpan_13 (by decide) (fun y1 => ?_) (fun y1 => ?_)
    · refine gX_aloadn dX2_closeSpan_20 rfl ?_
      refine gX_iconst dX2_closeSpan_21 ⟨by decide, by decide⟩ ?_
      refine gX_aloadn dX2_closeSpan_22 rfl ?_
      refine gX_gI 1 dX2_closeSpan_23 fdX2_47 rfl (Or.inl rfl) hT.1 ?_
      rw [hs.1.1]
      refine gX_virt (J := iX8_fail) (av := [gi 1, gi s.1.1]) (a := T) (st := []) dX2_closeSpan_26 lkX2_50 kX8_fail vX8_fail (gFit_m (by decide)) hT.1 rfl rfl (Nat.le_of_ble_eq_true rfl) (Nat.zero_le _) (Nat.zero_le _) rfl ?_
      refine c_fail hT hs.1 (fun V8 ht8 hf8 => ?_)
      show gX l E _ 29 [some (ga D), some (ga T), some (ga B), some (ga (B + 10 + 3 * s.2.2.2.2.1))] [gi 0] (K, R, V8) _ _
      refine gX_iret dX2_closeSpan_29 (Or.inr ⟨rfl, Or.inl rfl⟩) ?_
      have e : rdClose s = _ := if_neg (by unfold sib; rw [ng]; simp only [Bool.and_true, Bool.and_false, decide_eq_true_eq, Bool.false_eq_true, not_false_eq_true]; try omega)
      rw [e] at hQ
      exact hQ V8 (hs.told hd1 hd2 ht8 hf8) hf8.br
    · refine gX_aloadn dX2_closeSpan_16 rfl ?_
      refine gX_ifnonnull (tgt := 30) dX2_closeSpan_17 (by decide) (fun y2 => ?_) (fun y2 => absurd (kd_pos (hB.2.2.2.2.2.2.2.2.2.2.2 s.2.2.2.2.1 n0.1 (by have := hs.2.1.2.2.1; omega)).2.1) (by omega))
      refine gX_aloadn dX2_closeSpan_30 rfl ?_
      refine gX_aloadn dX2_closeSpan_31 rfl ?_
      refine gX_gI 2 dX2_closeSpan_32 fdX2_105 rfl (Or.inl rfl) (hB.2.2.2.2.2.2.2.2.2.2.2 s.2.2.2.2.1 n0.1 (by have := hs.2.1.2.2.1; omega)).2.1 ?_
      rw [(hs.2.1.gl n0.1 n0.2).2.1]
      refine gX_pI 1 dX2_closeSpan_35 fdX2_15 fpX2_15 rfl (Or.inl rfl) hD ?_
      refine gX_iconst dX2_closeSpan_38 ⟨by decide, by decide⟩ ?_
      refine gX_iret dX2_closeSpan_39 (Or.inr ⟨rfl, Or.inr rfl⟩) ?_
      have e : rdClose s = _ := if_pos (by unfold sib; rw [ng]; simp only [Bool.and_true, decide_eq_true_eq]; omega)
      rw [e] at hQ
      exact hQ _ (hs.rd hd1 hd2 ⟨by rw [gup_o (Or.inr (by omega))]; exact hs.2.2.2.1, gup_s, by rw [gup_o (Or.inr (by omega))]; exact hs.2.2.2.2.2⟩ (fun a ha => by rw [gup_ne ha])) (fun a ha _ _ => by rw [gup_ne ha])
  · rw [if_neg n0]
    have ng := inG_f n0
    show gX l E _ 8 [some (ga D), some (ga T), some (ga B), none] [ga (-1)] (K, R, V) _ _
    refine gX_astoren dX2_closeSpan_8 (show (3 : Nat) < 4 from by decide) (ls2 := [some (ga D), some (ga T), some (ga B), some (ga (-1))]) rfl ?_
    refine gX_aloadn dX2_closeSpan_9 rfl ?_
    refine gX_gI 0 dX2_closeSpan_10 fdX2_11 rfl (Or.inl rfl) hD ?_
    rw [hs.2.2.2.1]
    refine gX_ifne (tgt := 20) dX2_closeSpan_13 (by decide) (fun n1 => ?_) (fun n1 => ?_)
    · refine gX_aloadn dX2_closeSpan_20 rfl ?_
      refine gX_iconst dX2_closeSpan_21 ⟨by decide, by decide⟩ ?_
      refine gX_aloadn dX2_closeSpan_22 rfl ?_
      refine gX_gI 1 dX2_closeSpan_23 fdX2_47 rfl (Or.inl rfl) hT.1 ?_
      rw [hs.1.1]
      refine gX_virt (J := iX8_fail) (av := [gi 1, gi s.1.1]) (a := T) (st := []) dX2_closeSpan_26 lkX2_50 kX8_fail vX8_fail (gFit_m (by decide)) hT.1 rfl rfl (Nat.le_of_ble_eq_true rfl) (Nat.zero_le _) (Nat.zero_le _) rfl ?_
      refine c_fail hT hs.1 (fun V8 ht8 hf8 => ?_)
      show gX l E _ 29 [some (ga D), some (ga T), some (ga B), some (ga (-1))] [gi 0] (K, R, V8) _ _
      refine gX_iret dX2_closeSpan_29 (Or.inr ⟨rfl, Or.inl rfl⟩) ?_
      have e : rdClose s = _ := if_neg (by unfold sib; rw [ng]; simp only [Bool.and_true, Bool.and_false, decide_eq_true_eq, Bool.false_eq_true, not_false_eq_true]; try omega)
      rw [e] at hQ
      exact hQ V8 (hs.told hd1 hd2 ht8 hf8) hf8.br
    · refine gX_aloadn dX2_closeSpan_16 rfl ?_
      refine gX_ifnonnull (tgt := 30) dX2_closeSpan_17 (by decide) (fun n2 => absurd n2 (by omega)) (fun n2 => ?_)
      refine gX_aloadn dX2_closeSpan_20 rfl ?_
      refine gX_iconst dX2_closeSpan_21 ⟨by decide, by decide⟩ ?_
      refine gX_aloadn dX2_closeSpan_22 rfl ?_
      refine gX_gI 1 dX2_closeSpan_23 fdX2_47 rfl (Or.inl rfl) hT.1 ?_
      rw [hs.1.1]
      refine gX_virt (J := iX8_fail) (av := [gi 1, gi s.1.1]) (a := T) (st := []) dX2_closeSpan_26 lkX2_50 kX8_fail vX8_fail (gFit_m (by decide)) hT.1 rfl rfl (Nat.le_of_ble_eq_true rfl) (Nat.zero_le _) (Nat.zero_le _) rfl ?_
      refine c_fail hT hs.1 (fun V8 ht8 hf8 => ?_)
      show gX l E _ 29 [some (ga D), some (ga T), some (ga B), some (ga (-1))] [gi 0] (K, R, V8) _ _
      refine gX_iret dX2_closeSpan_29 (Or.inr ⟨rfl, Or.inl rfl⟩) ?_
      have e : rdClose s = _ := if_neg (by unfold sib; rw [ng]; simp only [Bool.and_true, Bool.and_false, decide_eq_true_eq, Bool.false_eq_true, not_false_eq_true]; try omega)
      rw [e] at hQ
      exact hQ V8 (hs.told hd1 hd2 ht8 hf8) hf8.br
set_option maxRecDepth 4000 in
theorem c_nameKind {k : Int} (hD : rdK K R D) (hT : toK K R T) (hB : bkK K R B) (hd1 : T + 3 ≤ D) (hd2 : D < B) (hs : brIs V D T B ys s) (hQ : ∀ V', brIs V' D T B ys (rdKind k s).2 → brF V V' D T B → Q (some (gi (rdKind k s).1)) (K, R, V')) : gC l E (d + 2) iX2_nameKind [ga D, gi k, ga T, ga B] (K, R, V) Q := by
  refine gC_of kX2_nameKind (ls := [some (ga D), some (gi k), some (ga T), some (ga B), none]) rfl (Nat.le_of_ble_eq_true rfl) ?_
  refine gX_aloadn dX2_nameKind_0 rfl ?_
  refine gX_aloadn dX2_nameKind_1 rfl ?_
  refine gX_gI 1 dX2_nameKind_2 fdX2_15 rfl (Or.inl rfl) hD ?_
  rw [hs.2.2.2.2.1]
  refine gX_virt (J := iX1_glossAt) (av := [gi s.2.2.2.2.1]) (a := B) (st := []) dX2_nameKind_5 lkX2_67 kX1_glossAt vX1_glossAt (gFit_m (by decide)) hB.1 rfl rfl (Nat.le_of_ble_eq_true rfl) (Nat.zero_le _) (Nat.zero_le _) rfl ?_
  refine gAtI hB hs.2.1 ?_
  by_cases n0 : 0 ≤ s.2.2.2.2.1 ∧ s.2.2.2.2.1 < s.2.2.1.length
  · rw [if_pos n0]
    have ng := inG_t n0
    show gX l E _ 8 [some (ga D), some (gi k), some (ga T), some (ga B), none] [ga (B + 10 + 3 * s.2.2.2.2.1)] (K, R, V) _ _
    refine gX_astore dX2_nameKind_8 (show (4 : Nat) < 5 from by decide) (ls2 := [some (ga D), some (gi k), some (ga T), some (ga B), some (ga (B + 10 + 3 * s.2.2.2.2.1))]) rfl ?_
    refine gX_aloadn dX2_nameKind_10 rfl ?_
    refine gX_gI 0 dX2_nameKind_11 fdX2_11 rfl (Or.inl rfl) hD ?_
    rw [hs.2.2.2.1]
    refine gX_iconst dX2_nameKind_14 ⟨by decide, by decide⟩ ?_
    refine gX_icmpne (tgt := 23) dX2_nameKind_15 (by decide) (fun y1 => ?_) (fun y1 => ?_)
    · refine gX_aloadn dX2_nameKind_23 rfl ?_
      refine gX_iconst dX2_nameKind_24 ⟨by decide, by decide⟩ ?_
      refine gX_aloadn dX2_nameKind_25 rfl ?_
      refine gX_gI 1 dX2_nameKind_26 fdX2_47 rfl (Or.inl rfl) hT.1 ?_
      rw [hs.1.1]
      refine gX_virt (J := iX8_fail) (av := [gi 1, gi s.1.1]) (a := T) (st := []) dX2_nameKind_29 lkX2_50 kX8_fail vX8_fail (gFit_m (by decide)) hT.1 rfl rfl (Nat.le_of_ble_eq_true rfl) (Nat.zero_le _) (Nat.zero_le _) rfl ?_
      refine c_fail hT hs.1 (fun V8 ht8 hf8 => ?_)
      show gX l E _ 32 [some (ga D), some (gi k), some (ga T), some (ga B), some (ga (B + 10 + 3 * s.2.2.2.2.1))] [gi 0] (K, R, V8) _ _
      refine gX_iret dX2_nameKind_32 (Or.inr ⟨rfl, Or.inl rfl⟩) ?_
      have e : rdKind k s = _ := if_neg (by rintro ⟨z1, z2⟩; first | omega | (rw [ng] at z2; exact absurd z2 (by decide)))
      rw [e] at hQ
      exact hQ V8 (hs.told hd1 hd2 ht8 hf8) hf8.br
    · refine gX_aload dX2_nameKind_18 rfl ?_
      refine gX_ifnonnull (tgt := 33) dX2_nameKind_20 (by decide) (fun y2 => ?_) (fun y2 => absurd (kd_pos (hB.2.2.2.2.2.2.2.2.2.2.2 s.2.2.2.2.1 n0.1 (by have := hs.2.1.2.2.1; omega)).2.1) (by omega))
      refine gX_aload dX2_nameKind_33 rfl ?_
      refine gX_iloadn dX2_nameKind_35 rfl ?_
      refine gX_pI 1 dX2_nameKind_36 fdX2_82 fpX2_82 rfl (Or.inl rfl) (hB.2.2.2.2.2.2.2.2.2.2.2 s.2.2.2.2.1 n0.1 (by have := hs.2.1.2.2.1; omega)).2.1 ?_
      refine gX_aloadn dX2_nameKind_39 rfl ?_
      refine gX_iconst dX2_nameKind_40 ⟨by decide, by decide⟩ ?_
      refine gX_pI 0 dX2_nameKind_41 fdX2_11 fpX2_11 rfl (Or.inl rfl) hD ?_
      refine gX_iconst dX2_nameKind_44 ⟨by decide, by decide⟩ ?_
      refine gX_iret dX2_nameKind_45 (Or.inr ⟨rfl, Or.inr rfl⟩) ?_
      have e : rdKind k s = _ := if_pos ⟨by omega, ng⟩
      rw [e] at hQ
      have h20 := hs.2.1.2.2.1
      have hv := hs.2.1.gl n0.1 n0.2
      refine hQ _ ⟨?_, ?_, ?_, ?_⟩ (fun a ha _ hb => by rw [gup_ne ha, gup_ne (by omega)])
      · exact hs.1.kept ((gup_ne (by omega)).trans (gup_ne (by omega))) ((gup_ne (by omega)).trans (gup_ne (by omega))) ((gup_ne (by omega)).trans (gup_ne (by omega)))
      · refine hs.2.1.setg n0.1 n0.2 ?_ (fun a g1 g2 g3 => by rw [gup_ne (by omega), gup_ne (by omega)])
        refine glIs.kept (V := gup V (B + 10 + 3 * s.2.2.2.2.1) 1 k) ⟨gup_s, ?_, ?_, ?_, ?_, hv.2.2.2.2.2.1, ?_⟩ (gup_ne (by omega)) (gup_ne (by omega)) (gup_ne (by omega))
        · rw [gup_o (Or.inr (by omega))]; exact hv.2.1
        · rw [gup_o (Or.inr (by omega))]; exact hv.2.2.1
        · rw [gup_o (Or.inr (by omega))]; exact hv.2.2.2.1
        · rw [gup_o (Or.inr (by omega))]; exact hv.2.2.2.2.1
        · exact hv.2.2.2.2.2.2.kept (gup_ne (by omega)) (gup_ne (by omega))
      · exact hs.2.2.1.kept (fun a g1 g2 => by rw [gup_ne (by omega), gup_ne (by omega)])
      · exact ⟨gup_s, by rw [gup_o (Or.inr (by omega)), gup_o (Or.inl (by omega))]; exact hs.2.2.2.2.1, by rw [gup_o (Or.inr (by omega)), gup_o (Or.inl (by omega))]; exact hs.2.2.2.2.2⟩
  · rw [if_neg n0]
    have ng := inG_f n0
    show gX l E _ 8 [some (ga D), some (gi k), some (ga T), some (ga B), none] [ga (-1)] (K, R, V) _ _
    refine gX_astore dX2_nameKind_8 (show (4 : Nat) < 5 from by decide) (ls2 := [some (ga D), some (gi k), some (ga T), some (ga B), some (ga (-1))]) rfl ?_
    refine gX_aloadn dX2_nameKind_10 rfl ?_
    refine gX_gI 0 dX2_nameKind_11 fdX2_11 rfl (Or.inl rfl) hD ?_
    rw [hs.2.2.2.1]
    refine gX_iconst dX2_nameKind_14 ⟨by decide, by decide⟩ ?_
    refine gX_icmpne (tgt := 23) dX2_nameKind_15 (by decide) (fun n1 => ?_) (fun n1 => ?_)
    · refine gX_aloadn dX2_nameKind_23 rfl ?_
      refine gX_iconst dX2_nameKind_24 ⟨by decide, by decide⟩ ?_
      refine gX_aloadn dX2_nameKind_25 rfl ?_
      refine gX_gI 1 dX2_nameKind_26 fdX2_47 rfl (Or.inl rfl) hT.1 ?_
      rw [hs.1.1]
      refine gX_virt (J := iX8_fail) (av := [gi 1, gi s.1.1]) (a := T) (st := []) dX2_nameKind_29 lkX2_50 kX8_fail vX8_fail (gFit_m (by decide)) hT.1 rfl rfl (Nat.le_of_ble_eq_true rfl) (Nat.zero_le _) (Nat.zero_le _) rfl ?_
      refine c_fail hT hs.1 (fun V8 ht8 hf8 => ?_)
      show gX l E _ 32 [some (ga D), some (gi k), some (ga T), some (ga B), some (ga (-1))] [gi 0] (K, R, V8) _ _
      refine gX_iret dX2_nameKind_32 (Or.inr ⟨rfl, Or.inl rfl⟩) ?_
      have e : rdKind k s = _ := if_neg (by rintro ⟨z1, z2⟩; first | omega | (rw [ng] at z2; exact absurd z2 (by decide)))
      rw [e] at hQ
      exact hQ V8 (hs.told hd1 hd2 ht8 hf8) hf8.br
    · refine gX_aload dX2_nameKind_18 rfl ?_
      refine gX_ifnonnull (tgt := 33) dX2_nameKind_20 (by decide) (fun n2 => absurd n2 (by omega)) (fun n2 => ?_)
      refine gX_aloadn dX2_nameKind_23 rfl ?_
      refine gX_iconst dX2_nameKind_24 ⟨by decide, by decide⟩ ?_
      refine gX_aloadn dX2_nameKind_25 rfl ?_
      refine gX_gI 1 dX2_nameKind_26 fdX2_47 rfl (Or.inl rfl) hT.1 ?_
      rw [hs.1.1]
      refine gX_virt (J := iX8_fail) (av := [gi 1, gi s.1.1]) (a := T) (st := []) dX2_nameKind_29 lkX2_50 kX8_fail vX8_fail (gFit_m (by decide)) hT.1 rfl rfl (Nat.le_of_ble_eq_true rfl) (Nat.zero_le _) (Nat.zero_le _) rfl ?_
      refine c_fail hT hs.1 (fun V8 ht8 hf8 => ?_)
      show gX l E _ 32 [some (ga D), some (gi k), some (ga T), some (ga B), some (ga (-1))] [gi 0] (K, R, V8) _ _
      refine gX_iret dX2_nameKind_32 (Or.inr ⟨rfl, Or.inl rfl⟩) ?_
      have e : rdKind k s = _ := if_neg (by rintro ⟨z1, z2⟩; first | omega | (rw [ng] at z2; exact absurd z2 (by decide)))
      rw [e] at hQ
      exact hQ V8 (hs.told hd1 hd2 ht8 hf8) hf8.br
theorem c_rowOfN {tx : List Int} {gs : List gG} (hB : bkK K R B) (hb : bkIs V B tx gs) (h0 : ¬ (0 ≤ g ∧ g < gs.length)) (hQ : Q (some (ga (B + 1))) (K, R, V)) : gC l E (d + 2) iX1_rowOf [ga B, gi g] (K, R, V) Q := c_rowOf hB hb (by
  have e : rwA B gs.length g = B + 1 := by unfold rwA; rw [if_neg h0]
  rw [e]; exact hQ)
set_option maxRecDepth 4000 in
theorem c_roomOf {q : gG} (hg : glK K R g) (hv : glIs V g q) (hQ : Q (some (gi (if q.1 = 0 then 4 else 8))) (K, R, V)) : gC l E (d + 1) iX2_roomOf [ga g] (K, R, V) Q := by
  refine gC_of kX2_roomOf (ls := [some (ga g)]) rfl (Nat.le_of_ble_eq_true rfl) ?_
  refine gX_aloadn dX2_roomOf_0 rfl ?_
  refine gX_ifnonnull (tgt := 7) dX2_roomOf_1 (by decide) (fun w1 => ?_) (fun w1 => absurd (kd_pos hg.1) (by omega))
  refine gX_aloadn dX2_roomOf_7 rfl ?_
  refine gX_gI 1 dX2_roomOf_8 fdX2_82 rfl (Or.inl rfl) hg.1 ?_
  rw [hv.1]
  refine gX_ifne (tgt := 18) dX2_roomOf_11 (by decide) (fun w2 => ?_) (fun w2 => ?_)
  · refine gX_bipush dX2_roomOf_18 (by decide) ⟨by decide, by decide⟩ ?_
    refine gX_iret dX2_roomOf_20 (Or.inl rfl) ?_
    rw [if_neg (by omega)] at hQ
    exact hQ
  · refine gX_iconst dX2_roomOf_14 ⟨by decide, by decide⟩ ?_
    refine gX_goto (tgt := 20) dX2_roomOf_15 (by decide) ?_
    refine gX_iret dX2_roomOf_20 (Or.inl rfl) ?_
    rw [if_pos (by omega)] at hQ
    exact hQ
set_option maxRecDepth 4000 in
theorem c_roomOfN (hQ : Q (some (gi 40)) (K, R, V)) : gC l E (d + 1) iX2_roomOf [ga (-1)] (K, R, V) Q := by
  refine gC_of kX2_roomOf (ls := [some (ga (-1))]) rfl (Nat.le_of_ble_eq_true rfl) ?_
  refine gX_aloadn dX2_roomOf_0 rfl ?_
  refine gX_ifnonnull (tgt := 7) dX2_roomOf_1 (by decide) (fun w1 => absurd w1 (by omega)) (fun w1 => ?_)
  refine gX_bipush dX2_roomOf_4 (by decide) ⟨by decide, by decide⟩ ?_
  refine gX_iret dX2_roomOf_6 (Or.inl rfl) ?_
  exact hQ
set_option maxRecDepth 4000 in
theorem c_readWord (hD : rdK K R D) (hT : toK K R T) (hB : bkK K R B) (hd1 : T + 3 ≤ D) (hd2 : D < B) (hs : brIs V D T B ys s) (h0 : 0 ≤ s.1.1) (hl : s.1.1 ≤ ys.length) (hQ : ∀ V', brIs V' D T B ys (rdWord ys s).2 → brF V V' D T B → Q (some (gi (rdWord ys s).1)) (K, R, V')) : gC l E (d + 4) iX2_readWord [ga D, ga T, ga B] (K, R, V) Q := by
  refine gC_of kX2_readWord (ls := [some (ga D), some (ga T), some (ga B), none, none]) rfl (Nat.le_of_ble_eq_true rfl) ?_
  have h20 := hs.2.1.2.2.1
  by_cases n0 : 0 ≤ s.2.2.2.2.1 ∧ s.2.2.2.2.1 < s.2.2.1.length
  · have ng := inG_t n0
    have ero : roO s.2.2.1 s.2.2.2.2.1 = (if (gq s.2.2.1 s.2.2.2.2.1).1 = 0 then 4 else 8) := if_pos ng
    have erl : rwL s.2.1 s.2.2.1 s.2.2.2.2.1 = (gq s.2.2.1 s.2.2.2.2.1).2.2.2.2.2 := if_pos n0
    have hrb : ((if (gq s.2.2.1 s.2.2.2.2.1).1 = 0 then 4 else 8) : Int) ≤ 8 := by split <;> omega
    refine gX_aloadn dX2_readWord_0 rfl ?_
    refine gX_gI 0 dX2_readWord_1 fdX2_11 rfl (Or.inl rfl) hD ?_
    rw [hs.2.2.2.1]
    refine gX_iconst dX2_readWord_4 ⟨by decide, by decide⟩ ?_
    refine gX_icmpne (tgt := 18) dX2_readWord_5 (by decide) (fun y1 => ?_) (fun y1 => ?_)
    · refine gX_aloadn dX2_readWord_18 rfl ?_
      refine gX_iconst dX2_readWord_19 ⟨by decide, by decide⟩ ?_
      refine gX_bipush dX2_readWord_20 (by decide) ⟨by decide, by decide⟩ ?_
      refine gX_virt (J := iX8_takeNumber) (av := [gi 0, gi 63]) (a := T) (st := []) dX2_readWord_22 lkX2_54 kX8_takeNumber vX8_takeNumber (gFit_m (by decide)) hT.1 rfl rfl (Nat.le_of_ble_eq_true rfl) (Nat.zero_le _) (Nat.zero_le _) rfl ?_
      refine c_takeNumber hT hs.1 h0 hl (fun V1 ht1 hf1 => ?_)
      show gX l E _ 25 [some (ga D), some (ga T), some (ga B), none, none] [gi ((tkNum ys 0 63 s.1).1)] (K, R, V1) _ _
      have h1 := hs.told hd1 hd2 ht1 hf1
      have hb1 : bkIs V1 B s.2.1 s.2.2.1 := h1.2.1
      refine gX_istoren dX2_readWord_25 (show (3 : Nat) < 5 from by decide) (ls2 := [some (ga D), some (ga T), some (ga B), some (gi ((tkNum ys 0 63 s.1).1)), none]) rfl ?_
      refine gX_iloadn dX2_readWord_26 rfl ?_
      refine gX_iconst dX2_readWord_27 ⟨by decide, by decide⟩ ?_
      refine gX_icmpne (tgt := 33) dX2_readWord_28 (by decide) (fun y2 => ?_) (fun y2 => ?_)
      · refine gX_aloadn dX2_readWord_33 rfl ?_
        refine gX_aloadn dX2_readWord_34 rfl ?_
        refine gX_gI 1 dX2_readWord_35 fdX2_15 rfl (Or.inl rfl) hD ?_
        rw [show V1 D 1 = s.2.2.2.2.1 from h1.2.2.2.2.1]
        refine gX_virt (J := iX1_rowOf) (av := [gi s.2.2.2.2.1]) (a := B) (st := []) dX2_readWord_38 lkX2_58 kX1_rowOf vX1_rowOf (gFit_m (by decide)) hB.1 rfl rfl (Nat.le_of_ble_eq_true rfl) (Nat.zero_le _) (Nat.zero_le _) rfl ?_
        refine c_rowOfG hB hb1 n0.1 n0.2 ?_
        show gX l E _ 41 [some (ga D), some (ga T), some (ga B), some (gi ((tkNum ys 0 63 s.1).1)), none] [ga (B + 10 + 3 * s.2.2.2.2.1 + 1)] (K, R, V1) _ _
        refine gX_astore dX2_readWord_41 (show (4 : Nat) < 5 from by decide) (ls2 := [some (ga D), some (ga T), some (ga B), some (gi ((tkNum ys 0 63 s.1).1)), some (ga (B + 10 + 3 * s.2.2.2.2.1 + 1))]) rfl ?_
        refine gX_aload dX2_readWord_43 rfl ?_
        refine gX_virt (J := iX6_length) (av := []) (a := (B + 10 + 3 * s.2.2.2.2.1 + 1)) (st := []) dX2_readWord_45 lkX2_62 kX6_length vX6_length (gFit_m (by decide)) (hB.2.2.2.2.2.2.2.2.2.2.2 s.2.2.2.2.1 n0.1 (by have := hs.2.1.2.2.1; omega)).2.2.2.1 rfl rfl (Nat.le_of_ble_eq_true rfl) (Nat.zero_le _) (Nat.zero_le _) rfl ?_
        refine q_Row_length (hB.2.2.2.2.2.2.2.2.2.2.2 s.2.2.2.2.1 n0.1 (by have := hs.2.1.2.2.1; omega)).2.2.2 (hb1.gl n0.1 n0.2).2.2.2.2.2.2 ?_
        show gX l E _ 48 [some (ga D), some (ga T), some (ga B), some (gi ((tkNum ys 0 63 s.1).1)), some (ga (B + 10 + 3 * s.2.2.2.2.1 + 1))] [gi ((gq s.2.2.1 s.2.2.2.2.1).2.2.2.2.2.length)] (K, R, V1) _ _
        refine gX_aloadn dX2_readWord_48 rfl ?_
        refine gX_aloadn dX2_readWord_49 rfl ?_
        refine gX_gI 1 dX2_readWord_50 fdX2_15 rfl (Or.inl rfl) hD ?_
        rw [show V1 D 1 = s.2.2.2.2.1 from h1.2.2.2.2.1]
        refine gX_virt (J := iX1_glossAt) (av := [gi s.2.2.2.2.1]) (a := B) (st := [gi ((gq s.2.2.1 s.2.2.2.2.1).2.2.2.2.2.length)]) dX2_readWord_53 lkX2_67 kX1_glossAt vX1_glossAt (gFit_m (by decide)) hB.1 rfl rfl (Nat.le_of_ble_eq_true rfl) (Nat.zero_le _) (Nat.zero_le _) rfl ?_
        refine c_glossAt hB hb1 n0.1 n0.2 ?_
        show gX l E _ 56 [some (ga D), some (ga T), some (ga B), some (gi ((tkNum ys 0 63 s.1).1)), some (ga (B + 10 + 3 * s.2.2.2.2.1 + 1))] [ga (B + 10 + 3 * s.2.2.2.2.1), gi ((gq s.2.2.1 s.2.2.2.2.1).2.2.2.2.2.length)] (K, R, V1) _ _
        refine gX_stat (J := iX2_roomOf) (av := [ga (B + 10 + 3 * s.2.2.2.2.1)]) (st := [gi ((gq s.2.2.1 s.2.2.2.2.1).2.2.2.2.2.length)]) dX2_readWord_56 lkX2_71 kX2_roomOf sX2_roomOf (gFit_m (by decide)) rfl (Nat.le_of_ble_eq_true rfl) (Nat.zero_le _) (Nat.zero_le _) rfl ?_
        refine c_roomOf (hB.2.2.2.2.2.2.2.2.2.2.2 s.2.2.2.2.1 n0.1 (by have := hs.2.1.2.2.1; omega)).2 (hb1.gl n0.1 n0.2) ?_
        show gX l E _ 59 [some (ga D), some (ga T), some (ga B), some (gi ((tkNum ys 0 63 s.1).1)), some (ga (B + 10 + 3 * s.2.2.2.2.1 + 1))] [gi (if (gq s.2.2.1 s.2.2.2.2.1).1 = 0 then 4 else 8), gi ((gq s.2.2.1 s.2.2.2.2.1).2.2.2.2.2.length)] (K, R, V1) _ _
        refine gX_icmplt (tgt := 72) dX2_readWord_59 (by decide) (fun y3 => ?_) (fun y3 => ?_)
        · refine gX_aload dX2_readWord_72 rfl ?_
          refine gX_iloadn dX2_readWord_74 rfl ?_
          refine gX_virt (J := iX6_add) (av := [gi ((tkNum ys 0 63 s.1).1)]) (a := (B + 10 + 3 * s.2.2.2.2.1 + 1)) (st := []) dX2_readWord_75 lkX2_78 kX6_add vX6_add (gFit_m (by decide)) (hB.2.2.2.2.2.2.2.2.2.2.2 s.2.2.2.2.1 n0.1 (by have := hs.2.1.2.2.1; omega)).2.2.2.1 rfl rfl (Nat.le_of_ble_eq_true rfl) (Nat.zero_le _) (Nat.zero_le _) rfl ?_
          refine q_Row_add (hB.2.2.2.2.2.2.2.2.2.2.2 s.2.2.2.2.1 n0.1 (by have := hs.2.1.2.2.1; omega)).2.2.2 (hb1.gl n0.1 n0.2).2.2.2.2.2.2 (fun V2 hx2 hf2 => ?_)
          show gX l E _ 78 [some (ga D), some (ga T), some (ga B), some (gi ((tkNum ys 0 63 s.1).1)), some (ga (B + 10 + 3 * s.2.2.2.2.1 + 1))] [] (K, R, V2) _ _
          refine gX_aloadn dX2_readWord_78 rfl ?_
          refine gX_aloadn dX2_readWord_79 rfl ?_
          refine gX_gI 0 dX2_readWord_80 fdX2_11 rfl (Or.inl rfl) hD ?_
          rw [show V2 D 0 = s.2.2.2.1 from (congrFun (hf2 D (by omega) (by omega)) 0).trans h1.2.2.2.1]
          refine gX_iconst dX2_readWord_83 ⟨by decide, by decide⟩ ?_
          refine gX_icmpeq (tgt := 95) dX2_readWord_84 (by decide) (fun y4 => ?_) (fun y4 => ?_)
          · refine gX_iconst dX2_readWord_95 ⟨by decide, by decide⟩ ?_
            refine gX_goto (tgt := 100) dX2_readWord_96 (by decide) ?_
            refine gX_pI 0 dX2_readWord_100 fdX2_11 fpX2_11 rfl (Or.inl rfl) hD ?_
            refine gX_iconst dX2_readWord_103 ⟨by decide, by decide⟩ ?_
            refine gX_iret dX2_readWord_104 (Or.inr ⟨rfl, Or.inr rfl⟩) ?_
            have e : rdWord ys s = _ := (if_neg (by omega)).trans ((if_neg (by omega)).trans (if_neg (by rw [ero, erl]; omega)))
            rw [e] at hQ
            have es : (if s.2.2.2.1 = 2 ∨ s.2.2.2.1 = 3 then 3 else 0 : Int) = 3 := if_pos (by omega)
            have ea : ladd 8 (gq s.2.2.1 s.2.2.2.2.1).2.2.2.2.2 (tkNum ys 0 63 s.1).1 = (gq s.2.2.1 s.2.2.2.2.1).2.2.2.2.2 ++ [(tkNum ys 0 63 s.1).1] := if_pos (by omega)
            rw [ea] at hx2
            refine hQ (gup V2 D 0 3) ⟨?_, ?_, ?_, ?_⟩ (fun a g1 g2 g3 => by rw [gup_ne g1, hf2 a (by omega) (by omega), hf1 a g2])
            · exact (h1.1.kept (hf2 _ (by omega) (by omega)) (hf2 _ (by omega) (by omega)) (hf2 _ (by omega) (by omega))).kept (gup_ne (by omega)) (gup_ne (by omega)) (gup_ne (by omega))
            · show bkIs _ B (if inG s.2.2.1 s.2.2.2.2.1 = true then _ else _) (if inG s.2.2.1 s.2.2.2.2.1 = true then _ else _)
              rw [if_pos ng, if_pos ng]
              have hv := hb1.gl n0.1 n0.2
              refine (hb1.setg (V' := V2) n0.1 n0.2 (q := rwG (gq s.2.2.1 s.2.2.2.2.1) ((gq s.2.2.1 s.2.2.2.2.1).2.2.2.2.2 ++ [(tkNum ys 0 63 s.1).1])) ⟨?_, ?_, ?_, ?_, ?_, hv.2.2.2.2.2.1, hx2⟩ (fun a g1 g2 g3 => hf2 a (by omega) (by omega))).kept (fun a g1 g2 => gup_ne (by omega))
              · rw [hf2 _ (by omega) (by omega)]; exact hv.1
              · rw [hf2 _ (by omega) (by omega)]; exact hv.2.1
              · rw [hf2 _ (by omega) (by omega)]; exact hv.2.2.1
              · rw [hf2 _ (by omega) (by omega)]; exact hv.2.2.2.1
              · rw [hf2 _ (by omega) (by omega)]; exact hv.2.2.2.2.1
            · exact (h1.2.2.1.kept6 (hf2 _ (by omega) (by omega)) (fun a g1 g2 => hf2 a (by omega) (by omega))).kept (fun a g1 g2 => gup_ne (by omega))
            · refine ⟨?_, ?_, ?_⟩
              · show gup V2 D 0 _ D 0 = (if _ then _ else _)
                rw [es]; exact gup_s
              · rw [gup_o (Or.inr (by omega)), hf2 _ (by omega) (by omega)]; exact h1.2.2.2.2.1
              · rw [gup_o (Or.inr (by omega)), hf2 _ (by omega) (by omega)]; exact h1.2.2.2.2.2
          · refine gX_aloadn dX2_readWord_87 rfl ?_
            refine gX_gI 0 dX2_readWord_88 fdX2_11 rfl (Or.inl rfl) hD ?_
            rw [show V2 D 0 = s.2.2.2.1 from (congrFun (hf2 D (by omega) (by omega)) 0).trans h1.2.2.2.1]
            refine gX_iconst dX2_readWord_91 ⟨by decide, by decide⟩ ?_
            refine gX_icmpne (tgt := 99) dX2_readWord_92 (by decide) (fun y5 => ?_) (fun y5 => ?_)
            · refine gX_iconst dX2_readWord_99 ⟨by decide, by decide⟩ ?_
              refine gX_pI 0 dX2_readWord_100 fdX2_11 fpX2_11 rfl (Or.inl rfl) hD ?_
              refine gX_iconst dX2_readWord_103 ⟨by decide, by decide⟩ ?_
              refine gX_iret dX2_readWord_104 (Or.inr ⟨rfl, Or.inr rfl⟩) ?_
              have e : rdWord ys s = _ := (if_neg (by omega)).trans ((if_neg (by omega)).trans (if_neg (by rw [ero, erl]; omega)))
              rw [e] at hQ
              have es : (if s.2.2.2.1 = 2 ∨ s.2.2.2.1 = 3 then 3 else 0 : Int) = 0 := if_neg (by omega)
              have ea : ladd 8 (gq s.2.2.1 s.2.2.2.2.1).2.2.2.2.2 (tkNum ys 0 63 s.1).1 = (gq s.2.2.1 s.2.2.2.2.1).2.2.2.2.2 ++ [(tkNum ys 0 63 s.1).1] := if_pos (by omega)
              rw [ea] at hx2
              refine hQ (gup V2 D 0 0) ⟨?_, ?_, ?_, ?_⟩ (fun a g1 g2 g3 => by rw [gup_ne g1, hf2 a (by omega) (by omega), hf1 a g2])
              · exact (h1.1.kept (hf2 _ (by omega) (by omega)) (hf2 _ (by omega) (by omega)) (hf2 _ (by omega) (by omega))).kept (gup_ne (by omega)) (gup_ne (by omega)) (gup_ne (by omega))
              · show bkIs _ B (if inG s.2.2.1 s.2.2.2.2.1 = true then _ else _) (if inG s.2.2.1 s.2.2.2.2.1 = true then _ else _)
                rw [if_pos ng, if_pos ng]
                have hv := hb1.gl n0.1 n0.2
                refine (hb1.setg (V' := V2) n0.1 n0.2 (q := rwG (gq s.2.2.1 s.2.2.2.2.1) ((gq s.2.2.1 s.2.2.2.2.1).2.2.2.2.2 ++ [(tkNum ys 0 63 s.1).1])) ⟨?_, ?_, ?_, ?_, ?_, hv.2.2.2.2.2.1, hx2⟩ (fun a g1 g2 g3 => hf2 a (by omega) (by omega))).kept (fun a g1 g2 => gup_ne (by omega))
                · rw [hf2 _ (by omega) (by omega)]; exact hv.1
                · rw [hf2 _ (by omega) (by omega)]; exact hv.2.1
                · rw [hf2 _ (by omega) (by omega)]; exact hv.2.2.1
                · rw [hf2 _ (by omega) (by omega)]; exact hv.2.2.2.1
                · rw [hf2 _ (by omega) (by omega)]; exact hv.2.2.2.2.1
              · exact (h1.2.2.1.kept6 (hf2 _ (by omega) (by omega)) (fun a g1 g2 => hf2 a (by omega) (by omega))).kept (fun a g1 g2 => gup_ne (by omega))
              · refine ⟨?_, ?_, ?_⟩
                · show gup V2 D 0 _ D 0 = (if _ then _ else _)
                  rw [es]; exact gup_s
                · rw [gup_o (Or.inr (by omega)), hf2 _ (by omega) (by omega)]; exact h1.2.2.2.2.1
                · rw [gup_o (Or.inr (by omega)), hf2 _ (by omega) (by omega)]; exact h1.2.2.2.2.2
            · refine gX_iconst dX2_readWord_95 ⟨by decide, by decide⟩ ?_
              refine gX_goto (tgt := 100) dX2_readWord_96 (by decide) ?_
              refine gX_pI 0 dX2_readWord_100 fdX2_11 fpX2_11 rfl (Or.inl rfl) hD ?_
              refine gX_iconst dX2_readWord_103 ⟨by decide, by decide⟩ ?_
              refine gX_iret dX2_readWord_104 (Or.inr ⟨rfl, Or.inr rfl⟩) ?_
              have e : rdWord ys s = _ := (if_neg (by omega)).trans ((if_neg (by omega)).trans (if_neg (by rw [ero, erl]; omega)))
              rw [e] at hQ
              have es : (if s.2.2.2.1 = 2 ∨ s.2.2.2.1 = 3 then 3 else 0 : Int) = 3 := if_pos (by omega)
              have ea : ladd 8 (gq s.2.2.1 s.2.2.2.2.1).2.2.2.2.2 (tkNum ys 0 63 s.1).1 = (gq s.2.2.1 s.2.2.2.2.1).2.2.2.2.2 ++ [(tkNum ys 0 63 s.1).1] := if_pos (by omega)
              rw [ea] at hx2
              refine hQ (gup V2 D 0 3) ⟨?_, ?_, ?_, ?_⟩ (fun a g1 g2 g3 => by rw [gup_ne g1, hf2 a (by omega) (by omega), hf1 a g2])
              · exact (h1.1.kept (hf2 _ (by omega) (by omega)) (hf2 _ (by omega) (by omega)) (hf2 _ (by omega) (by omega))).kept (gup_ne (by omega)) (gup_ne (by omega)) (gup_ne (by omega))
              · show bkIs _ B (if inG s.2.2.1 s.2.2.2.2.1 = true then _ else _) (if inG s.2.2.1 s.2.2.2.2.1 = true then _ else _)
                rw [if_pos ng, if_pos ng]
                have hv := hb1.gl n0.1 n0.2
                refine (hb1.setg (V' := V2) n0.1 n0.2 (q := rwG (gq s.2.2.1 s.2.2.2.2.1) ((gq s.2.2.1 s.2.2.2.2.1).2.2.2.2.2 ++ [(tkNum ys 0 63 s.1).1])) ⟨?_, ?_, ?_, ?_, ?_, hv.2.2.2.2.2.1, hx2⟩ (fun a g1 g2 g3 => hf2 a (by omega) (by omega))).kept (fun a g1 g2 => gup_ne (by omega))
                · rw [hf2 _ (by omega) (by omega)]; exact hv.1
                · rw [hf2 _ (by omega) (by omega)]; exact hv.2.1
                · rw [hf2 _ (by omega) (by omega)]; exact hv.2.2.1
                · rw [hf2 _ (by omega) (by omega)]; exact hv.2.2.2.1
                · rw [hf2 _ (by omega) (by omega)]; exact hv.2.2.2.2.1
              · exact (h1.2.2.1.kept6 (hf2 _ (by omega) (by omega)) (fun a g1 g2 => hf2 a (by omega) (by omega))).kept (fun a g1 g2 => gup_ne (by omega))
              · refine ⟨?_, ?_, ?_⟩
                · show gup V2 D 0 _ D 0 = (if _ then _ else _)
                  rw [es]; exact gup_s
                · rw [gup_o (Or.inr (by omega)), hf2 _ (by omega) (by omega)]; exact h1.2.2.2.2.1
                · rw [gup_o (Or.inr (by omega)), hf2 _ (by omega) (by omega)]; exact h1.2.2.2.2.2
        · refine gX_aloadn dX2_readWord_62 rfl ?_
          refine gX_iconst dX2_readWord_63 ⟨by decide, by decide⟩ ?_
          refine gX_aloadn dX2_readWord_64 rfl ?_
          refine gX_gI 2 dX2_readWord_65 fdX2_75 rfl (Or.inl rfl) hT.1 ?_
          rw [show V1 T 2 = (tkNum ys 0 63 s.1).2.2.1 from h1.1.2.1]
          refine gX_virt (J := iX8_fail) (av := [gi 3, gi ((tkNum ys 0 63 s.1).2.2.1)]) (a := T) (st := []) dX2_readWord_68 lkX2_50 kX8_fail vX8_fail (gFit_m (by decide)) hT.1 rfl rfl (Nat.le_of_ble_eq_true rfl) (Nat.zero_le _) (Nat.zero_le _) rfl ?_
          refine c_fail hT h1.1 (fun V8 ht8 hf8 => ?_)
          show gX l E _ 71 [some (ga D), some (ga T), some (ga B), some (gi ((tkNum ys 0 63 s.1).1)), some (ga (B + 10 + 3 * s.2.2.2.2.1 + 1))] [gi 0] (K, R, V8) _ _
          refine gX_iret dX2_readWord_71 (Or.inr ⟨rfl, Or.inl rfl⟩) ?_
          have e : rdWord ys s = _ := (if_neg (by omega)).trans ((if_neg (by omega)).trans (if_pos (by rw [ero, erl]; omega)))
          rw [e] at hQ
          exact hQ V8 (h1.told hd1 hd2 ht8 hf8) (hf1.br.trans hf8.br)
      · refine gX_iconst dX2_readWord_31 ⟨by decide, by decide⟩ ?_
        refine gX_iret dX2_readWord_32 (Or.inr ⟨rfl, Or.inl rfl⟩) ?_
        have e : rdWord ys s = _ := (if_neg (by omega)).trans (if_pos (by omega))
        rw [e] at hQ
        exact hQ V1 h1 hf1.br
    · refine gX_aloadn dX2_readWord_8 rfl ?_
      refine gX_iconst dX2_readWord_9 ⟨by decide, by decide⟩ ?_
      refine gX_aloadn dX2_readWord_10 rfl ?_
      refine gX_gI 1 dX2_readWord_11 fdX2_47 rfl (Or.inl rfl) hT.1 ?_
      rw [hs.1.1]
      refine gX_virt (J := iX8_fail) (av := [gi 1, gi s.1.1]) (a := T) (st := []) dX2_readWord_14 lkX2_50 kX8_fail vX8_fail (gFit_m (by decide)) hT.1 rfl rfl (Nat.le_of_ble_eq_true rfl) (Nat.zero_le _) (Nat.zero_le _) rfl ?_
      refine c_fail hT hs.1 (fun V8 ht8 hf8 => ?_)
      show gX l E _ 17 [some (ga D), some (ga T), some (ga B), none, none] [gi 0] (K, R, V8) _ _
      refine gX_iret dX2_readWord_17 (Or.inr ⟨rfl, Or.inl rfl⟩) ?_
      have e : rdWord ys s = _ := if_pos (by omega)
      rw [e] at hQ
      exact hQ V8 (hs.told hd1 hd2 ht8 hf8) hf8.br
  · have ng := inG_f n0
    have ero : roO s.2.2.1 s.2.2.2.2.1 = 40 := if_neg (by rw [ng]; decide)
    have erl : rwL s.2.1 s.2.2.1 s.2.2.2.2.1 = s.2.1 := if_neg n0
    have hrb : (40 : Int) ≤ 40 := by omega
    refine gX_aloadn dX2_readWord_0 rfl ?_
    refine gX_gI 0 dX2_readWord_1 fdX2_11 rfl (Or.inl rfl) hD ?_
    rw [hs.2.2.2.1]
    refine gX_iconst dX2_readWord_4 ⟨by decide, by decide⟩ ?_
    refine gX_icmpne (tgt := 18) dX2_readWord_5 (by decide) (fun n1 => ?_) (fun n1 => ?_)
    · refine gX_aloadn dX2_readWord_18 rfl ?_
      refine gX_iconst dX2_readWord_19 ⟨by decide, by decide⟩ ?_
      refine gX_bipush dX2_readWord_20 (by decide) ⟨by decide, by decide⟩ ?_
      refine gX_virt (J := iX8_takeNumber) (av := [gi 0, gi 63]) (a := T) (st := []) dX2_readWord_22 lkX2_54 kX8_takeNumber vX8_takeNumber (gFit_m (by decide)) hT.1 rfl rfl (Nat.le_of_ble_eq_true rfl) (Nat.zero_le _) (Nat.zero_le _) rfl ?_
      refine c_takeNumber hT hs.1 h0 hl (fun V1 ht1 hf1 => ?_)
      show gX l E _ 25 [some (ga D), some (ga T), some (ga B), none, none] [gi ((tkNum ys 0 63 s.1).1)] (K, R, V1) _ _
      have h1 := hs.told hd1 hd2 ht1 hf1
      have hb1 : bkIs V1 B s.2.1 s.2.2.1 := h1.2.1
      refine gX_istoren dX2_readWord_25 (show (3 : Nat) < 5 from by decide) (ls2 := [some (ga D), some (ga T), some (ga B), some (gi ((tkNum ys 0 63 s.1).1)), none]) rfl ?_
      refine gX_iloadn dX2_readWord_26 rfl ?_
      refine gX_iconst dX2_readWord_27 ⟨by decide, by decide⟩ ?_
      refine gX_icmpne (tgt := 33) dX2_readWord_28 (by decide) (fun n2 => ?_) (fun n2 => ?_)
      · refine gX_aloadn dX2_readWord_33 rfl ?_
        refine gX_aloadn dX2_readWord_34 rfl ?_
        refine gX_gI 1 dX2_readWord_35 fdX2_15 rfl (Or.inl rfl) hD ?_
        rw [show V1 D 1 = s.2.2.2.2.1 from h1.2.2.2.2.1]
        refine gX_virt (J := iX1_rowOf) (av := [gi s.2.2.2.2.1]) (a := B) (st := []) dX2_readWord_38 lkX2_58 kX1_rowOf vX1_rowOf (gFit_m (by decide)) hB.1 rfl rfl (Nat.le_of_ble_eq_true rfl) (Nat.zero_le _) (Nat.zero_le _) rfl ?_
        refine c_rowOfN hB hb1 n0 ?_
        show gX l E _ 41 [some (ga D), some (ga T), some (ga B), some (gi ((tkNum ys 0 63 s.1).1)), none] [ga (B + 1)] (K, R, V1) _ _
        refine gX_astore dX2_readWord_41 (show (4 : Nat) < 5 from by decide) (ls2 := [some (ga D), some (ga T), some (ga B), some (gi ((tkNum ys 0 63 s.1).1)), some (ga (B + 1))]) rfl ?_
        refine gX_aload dX2_readWord_43 rfl ?_
        refine gX_virt (J := iX6_length) (av := []) (a := (B + 1)) (st := []) dX2_readWord_45 lkX2_62 kX6_length vX6_length (gFit_m (by decide)) hB.2.2.2.2.2.2.1.1 rfl rfl (Nat.le_of_ble_eq_true rfl) (Nat.zero_le _) (Nat.zero_le _) rfl ?_
        refine q_Row_length hB.2.2.2.2.2.2.1 hb1.1 ?_
        show gX l E _ 48 [some (ga D), some (ga T), some (ga B), some (gi ((tkNum ys 0 63 s.1).1)), some (ga (B + 1))] [gi s.2.1.length] (K, R, V1) _ _
        refine gX_aloadn dX2_readWord_48 rfl ?_
        refine gX_aloadn dX2_readWord_49 rfl ?_
        refine gX_gI 1 dX2_readWord_50 fdX2_15 rfl (Or.inl rfl) hD ?_
        rw [show V1 D 1 = s.2.2.2.2.1 from h1.2.2.2.2.1]
        refine gX_virt (J := iX1_glossAt) (av := [gi s.2.2.2.2.1]) (a := B) (st := [gi s.2.1.length]) dX2_readWord_53 lkX2_67 kX1_glossAt vX1_glossAt (gFit_m (by decide)) hB.1 rfl rfl (Nat.le_of_ble_eq_true rfl) (Nat.zero_le _) (Nat.zero_le _) rfl ?_
        refine c_glossAtN hB hb1 n0 ?_
        show gX l E _ 56 [some (ga D), some (ga T), some (ga B), some (gi ((tkNum ys 0 63 s.1).1)), some (ga (B + 1))] [ga (-1), gi s.2.1.length] (K, R, V1) _ _
        refine gX_stat (J := iX2_roomOf) (av := [ga (-1)]) (st := [gi s.2.1.length]) dX2_readWord_56 lkX2_71 kX2_roomOf sX2_roomOf (gFit_m (by decide)) rfl (Nat.le_of_ble_eq_true rfl) (Nat.zero_le _) (Nat.zero_le _) rfl ?_
        refine c_roomOfN ?_
        show gX l E _ 59 [some (ga D), some (ga T), some (ga B), some (gi ((tkNum ys 0 63 s.1).1)), some (ga (B + 1))] [gi 40, gi s.2.1.length] (K, R, V1) _ _
        refine gX_icmplt (tgt := 72) dX2_readWord_59 (by decide) (fun n3 => ?_) (fun n3 => ?_)
        · refine gX_aload dX2_readWord_72 rfl ?_
          refine gX_iloadn dX2_readWord_74 rfl ?_
          refine gX_virt (J := iX6_add) (av := [gi ((tkNum ys 0 63 s.1).1)]) (a := (B + 1)) (st := []) dX2_readWord_75 lkX2_78 kX6_add vX6_add (gFit_m (by decide)) hB.2.2.2.2.2.2.1.1 rfl rfl (Nat.le_of_ble_eq_true rfl) (Nat.zero_le _) (Nat.zero_le _) rfl ?_
          refine q_Row_add hB.2.2.2.2.2.2.1 hb1.1 (fun V2 hx2 hf2 => ?_)
          show gX l E _ 78 [some (ga D), some (ga T), some (ga B), some (gi ((tkNum ys 0 63 s.1).1)), some (ga (B + 1))] [] (K, R, V2) _ _
          refine gX_aloadn dX2_readWord_78 rfl ?_
          refine gX_aloadn dX2_readWord_79 rfl ?_
          refine gX_gI 0 dX2_readWord_80 fdX2_11 rfl (Or.inl rfl) hD ?_
          rw [show V2 D 0 = s.2.2.2.1 from (congrFun (hf2 D (by omega) (by omega)) 0).trans h1.2.2.2.1]
          refine gX_iconst dX2_readWord_83 ⟨by decide, by decide⟩ ?_
          refine gX_icmpeq (tgt := 95) dX2_readWord_84 (by decide) (fun n4 => ?_) (fun n4 => ?_)
          · refine gX_iconst dX2_readWord_95 ⟨by decide, by decide⟩ ?_
            refine gX_goto (tgt := 100) dX2_readWord_96 (by decide) ?_
            refine gX_pI 0 dX2_readWord_100 fdX2_11 fpX2_11 rfl (Or.inl rfl) hD ?_
            refine gX_iconst dX2_readWord_103 ⟨by decide, by decide⟩ ?_
            refine gX_iret dX2_readWord_104 (Or.inr ⟨rfl, Or.inr rfl⟩) ?_
            have e : rdWord ys s = _ := (if_neg (by omega)).trans ((if_neg (by omega)).trans (if_neg (by rw [ero, erl]; omega)))
            rw [e] at hQ
            have es : (if s.2.2.2.1 = 2 ∨ s.2.2.2.1 = 3 then 3 else 0 : Int) = 3 := if_pos (by omega)
            have ea : ladd 40 s.2.1 (tkNum ys 0 63 s.1).1 = s.2.1 ++ [(tkNum ys 0 63 s.1).1] := if_pos (by omega)
            rw [ea] at hx2
            refine hQ (gup V2 D 0 3) ⟨?_, ?_, ?_, ?_⟩ (fun a g1 g2 g3 => by rw [gup_ne g1, hf2 a (by omega) (by omega), hf1 a g2])
            · exact (h1.1.kept (hf2 _ (by omega) (by omega)) (hf2 _ (by omega) (by omega)) (hf2 _ (by omega) (by omega))).kept (gup_ne (by omega)) (gup_ne (by omega)) (gup_ne (by omega))
            · show bkIs _ B (if inG s.2.2.1 s.2.2.2.2.1 = true then _ else _) (if inG s.2.2.1 s.2.2.2.2.1 = true then _ else _)
              rw [if_neg (by rw [ng]; decide), if_neg (by rw [ng]; decide)]
              exact (hb1.sett hx2 (fun a g1 g2 g3 g4 => hf2 a g3 (by omega))).kept (fun a g1 g2 => gup_ne (by omega))
            · exact (h1.2.2.1.kept6 (hf2 _ (by omega) (by omega)) (fun a g1 g2 => hf2 a (by omega) (by omega))).kept (fun a g1 g2 => gup_ne (by omega))
            · refine ⟨?_, ?_, ?_⟩
              · show gup V2 D 0 _ D 0 = (if _ then _ else _)
                rw [es]; exact gup_s
              · rw [gup_o (Or.inr (by omega)), hf2 _ (by omega) (by omega)]; exact h1.2.2.2.2.1
              · rw [gup_o (Or.inr (by omega)), hf2 _ (by omega) (by omega)]; exact h1.2.2.2.2.2
          · refine gX_aloadn dX2_readWord_87 rfl ?_
            refine gX_gI 0 dX2_readWord_88 fdX2_11 rfl (Or.inl rfl) hD ?_
            rw [show V2 D 0 = s.2.2.2.1 from (congrFun (hf2 D (by omega) (by omega)) 0).trans h1.2.2.2.1]
            refine gX_iconst dX2_readWord_91 ⟨by decide, by decide⟩ ?_
            refine gX_icmpne (tgt := 99) dX2_readWord_92 (by decide) (fun n5 => ?_) (fun n5 => ?_)
            · refine gX_iconst dX2_readWord_99 ⟨by decide, by decide⟩ ?_
              refine gX_pI 0 dX2_readWord_100 fdX2_11 fpX2_11 rfl (Or.inl rfl) hD ?_
              refine gX_iconst dX2_readWord_103 ⟨by decide, by decide⟩ ?_
              refine gX_iret dX2_readWord_104 (Or.inr ⟨rfl, Or.inr rfl⟩) ?_
              have e : rdWord ys s = _ := (if_neg (by omega)).trans ((if_neg (by omega)).trans (if_neg (by rw [ero, erl]; omega)))
              rw [e] at hQ
              have es : (if s.2.2.2.1 = 2 ∨ s.2.2.2.1 = 3 then 3 else 0 : Int) = 0 := if_neg (by omega)
              have ea : ladd 40 s.2.1 (tkNum ys 0 63 s.1).1 = s.2.1 ++ [(tkNum ys 0 63 s.1).1] := if_pos (by omega)
              rw [ea] at hx2
              refine hQ (gup V2 D 0 0) ⟨?_, ?_, ?_, ?_⟩ (fun a g1 g2 g3 => by rw [gup_ne g1, hf2 a (by omega) (by omega), hf1 a g2])
              · exact (h1.1.kept (hf2 _ (by omega) (by omega)) (hf2 _ (by omega) (by omega)) (hf2 _ (by omega) (by omega))).kept (gup_ne (by omega)) (gup_ne (by omega)) (gup_ne (by omega))
              · show bkIs _ B (if inG s.2.2.1 s.2.2.2.2.1 = true then _ else _) (if inG s.2.2.1 s.2.2.2.2.1 = true then _ else _)
                rw [if_neg (by rw [ng]; decide), if_neg (by rw [ng]; decide)]
                exact (hb1.sett hx2 (fun a g1 g2 g3 g4 => hf2 a g3 (by omega))).kept (fun a g1 g2 => gup_ne (by omega))
              · exact (h1.2.2.1.kept6 (hf2 _ (by omega) (by omega)) (fun a g1 g2 => hf2 a (by omega) (by omega))).kept (fun a g1 g2 => gup_ne (by omega))
              · refine ⟨?_, ?_, ?_⟩
                · show gup V2 D 0 _ D 0 = (if _ then _ else _)
                  rw [es]; exact gup_s
                · rw [gup_o (Or.inr (by omega)), hf2 _ (by omega) (by omega)]; exact h1.2.2.2.2.1
                · rw [gup_o (Or.inr (by omega)), hf2 _ (by omega) (by omega)]; exact h1.2.2.2.2.2
            · refine gX_iconst dX2_readWord_95 ⟨by decide, by decide⟩ ?_
              refine gX_goto (tgt := 100) dX2_readWord_96 (by decide) ?_
              refine gX_pI 0 dX2_readWord_100 fdX2_11 fpX2_11 rfl (Or.inl rfl) hD ?_
              refine gX_iconst dX2_readWord_103 ⟨by decide, by decide⟩ ?_
              refine gX_iret dX2_readWord_104 (Or.inr ⟨rfl, Or.inr rfl⟩) ?_
              have e : rdWord ys s = _ := (if_neg (by omega)).trans ((if_neg (by omega)).trans (if_neg (by rw [ero, erl]; omega)))
              rw [e] at hQ
              have es : (if s.2.2.2.1 = 2 ∨ s.2.2.2.1 = 3 then 3 else 0 : Int) = 3 := if_pos (by omega)
              have ea : ladd 40 s.2.1 (tkNum ys 0 63 s.1).1 = s.2.1 ++ [(tkNum ys 0 63 s.1).1] := if_pos (by omega)
              rw [ea] at hx2
              refine hQ (gup V2 D 0 3) ⟨?_, ?_, ?_, ?_⟩ (fun a g1 g2 g3 => by rw [gup_ne g1, hf2 a (by omega) (by omega), hf1 a g2])
              · exact (h1.1.kept (hf2 _ (by omega) (by omega)) (hf2 _ (by omega) (by omega)) (hf2 _ (by omega) (by omega))).kept (gup_ne (by omega)) (gup_ne (by omega)) (gup_ne (by omega))
              · show bkIs _ B (if inG s.2.2.1 s.2.2.2.2.1 = true then _ else _) (if inG s.2.2.1 s.2.2.2.2.1 = true then _ else _)
                rw [if_neg (by rw [ng]; decide), if_neg (by rw [ng]; decide)]
                exact (hb1.sett hx2 (fun a g1 g2 g3 g4 => hf2 a g3 (by omega))).kept (fun a g1 g2 => gup_ne (by omega))
              · exact (h1.2.2.1.kept6 (hf2 _ (by omega) (by omega)) (fun a g1 g2 => hf2 a (by omega) (by omega))).kept (fun a g1 g2 => gup_ne (by omega))
              · refine ⟨?_, ?_, ?_⟩
                · show gup V2 D 0 _ D 0 = (if _ then _ else _)
                  rw [es]; exact gup_s
                · rw [gup_o (Or.inr (by omega)), hf2 _ (by omega) (by omega)]; exact h1.2.2.2.2.1
                · rw [gup_o (Or.inr (by omega)), hf2 _ (by omega) (by omega)]; exact h1.2.2.2.2.2
        · refine gX_aloadn dX2_readWord_62 rfl ?_
          refine gX_iconst dX2_readWord_63 ⟨by decide, by decide⟩ ?_
          refine gX_aloadn dX2_readWord_64 rfl ?_
          refine gX_gI 2 dX2_readWord_65 fdX2_75 rfl (Or.inl rfl) hT.1 ?_
          rw [show V1 T 2 = (tkNum ys 0 63 s.1).2.2.1 from h1.1.2.1]
          refine gX_virt (J := iX8_fail) (av := [gi 3, gi ((tkNum ys 0 63 s.1).2.2.1)]) (a := T) (st := []) dX2_readWord_68 lkX2_50 kX8_fail vX8_fail (gFit_m (by decide)) hT.1 rfl rfl (Nat.le_of_ble_eq_true rfl) (Nat.zero_le _) (Nat.zero_le _) rfl ?_
          refine c_fail hT h1.1 (fun V8 ht8 hf8 => ?_)
          show gX l E _ 71 [some (ga D), some (ga T), some (ga B), some (gi ((tkNum ys 0 63 s.1).1)), some (ga (B + 1))] [gi 0] (K, R, V8) _ _
          refine gX_iret dX2_readWord_71 (Or.inr ⟨rfl, Or.inl rfl⟩) ?_
          have e : rdWord ys s = _ := (if_neg (by omega)).trans ((if_neg (by omega)).trans (if_pos (by rw [ero, erl]; omega)))
          rw [e] at hQ
          exact hQ V8 (h1.told hd1 hd2 ht8 hf8) (hf1.br.trans hf8.br)
      · refine gX_iconst dX2_readWord_31 ⟨by decide, by decide⟩ ?_
        refine gX_iret dX2_readWord_32 (Or.inr ⟨rfl, Or.inl rfl⟩) ?_
        have e : rdWord ys s = _ := (if_neg (by omega)).trans (if_pos (by omega))
        rw [e] at hQ
        exact hQ V1 h1 hf1.br
    · refine gX_aloadn dX2_readWord_8 rfl ?_
      refine gX_iconst dX2_readWord_9 ⟨by decide, by decide⟩ ?_
      refine gX_aloadn dX2_readWord_10 rfl ?_
      refine gX_gI 1 dX2_readWord_11 fdX2_47 rfl (Or.inl rfl) hT.1 ?_
      rw [hs.1.1]
      refine gX_virt (J := iX8_fail) (av := [gi 1, gi s.1.1]) (a := T) (st := []) dX2_readWord_14 lkX2_50 kX8_fail vX8_fail (gFit_m (by decide)) hT.1 rfl rfl (Nat.le_of_ble_eq_true rfl) (Nat.zero_le _) (Nat.zero_le _) rfl ?_
      refine c_fail hT hs.1 (fun V8 ht8 hf8 => ?_)
      show gX l E _ 17 [some (ga D), some (ga T), some (ga B), none, none] [gi 0] (K, R, V8) _ _
      refine gX_iret dX2_readWord_17 (Or.inr ⟨rfl, Or.inl rfl⟩) ?_
      have e : rdWord ys s = _ := if_pos (by omega)
      rw [e] at hQ
      exact hQ V8 (hs.told hd1 hd2 ht8 hf8) hf8.br
set_option maxRecDepth 4000 in
theorem c_openGloss (hD : rdK K R D) (hT : toK K R T) (hB : bkK K R B) (hd1 : T + 3 ≤ D) (hd2 : D < B) (hs : brIs V D T B ys s) (hQ : ∀ V', brIs V' D T B ys (rdGl s).2 → brF V V' D T B → Q (some (gi (rdGl s).1)) (K, R, V')) : gC l E (d + 3) iX2_openGloss [ga D, ga T, ga B] (K, R, V) Q := by
  refine gC_of kX2_openGloss (ls := [some (ga D), some (ga T), some (ga B), none, none, none, none]) rfl (Nat.le_of_ble_eq_true rfl) ?_
  have h20 := hs.2.1.2.2.1
  have tY : (0 ≤ s.2.2.2.2.1 ∧ s.2.2.2.2.1 < s.2.2.1.length) → sib s = true → ∀ (bc bs : Nat), gX l E (gFm E (d + 3) iX2_openGloss Q) 20 [some (ga D), some (ga T), some (ga B), some (ga (B + 10 + 3 * s.2.2.2.2.1)), none, none, none] [] (K, R, V) bc bs := by
    intro n0 hsb bc bs
    have eH : glH s = (gq s.2.2.1 s.2.2.2.2.1).2.1 := if_pos hsb
    have eA : glA s = (gq s.2.2.1 s.2.2.2.2.1).2.2.1 := if_pos hsb
    have eZ : glZ s = (gq s.2.2.1 s.2.2.2.2.1).2.2.2.1 := (if_pos hsb).trans rfl
    refine gX_aloadn dX2_openGloss_20 rfl ?_
    refine gX_ifnonnull (tgt := 42) dX2_openGloss_21 (by decide) (fun y1 => ?_) (fun y1 => absurd (kd_pos (hB.2.2.2.2.2.2.2.2.2.2.2 s.2.2.2.2.1 n0.1 (by have := hs.2.1.2.2.1; omega)).2.1) (by omega))
    refine gX_aloadn dX2_openGloss_42 rfl ?_
    refine gX_gI 5 dX2_openGloss_43 fdX2_102 rfl (Or.inl rfl) hB.1 ?_
    rw [hs.2.1.2.1]
    refine gX_bipush dX2_openGloss_46 (by decide) ⟨by decide, by decide⟩ ?_
    refine gX_icmplt (tgt := 61) dX2_openGloss_48 (by decide) (fun y2 => ?_) (fun y2 => ?_)
    · refine gX_aloadn dX2_openGloss_61 rfl ?_
      refine gX_ifnonnull (tgt := 72) dX2_openGloss_62 (by decide) (fun y3 => ?_) (fun y3 => absurd (kd_pos (hB.2.2.2.2.2.2.2.2.2.2.2 s.2.2.2.2.1 n0.1 (by have := hs.2.1.2.2.1; omega)).2.1) (by omega))
      refine gX_aloadn dX2_openGloss_72 rfl ?_
      refine gX_gI 2 dX2_openGloss_73 fdX2_105 rfl (Or.inl rfl) (hB.2.2.2.2.2.2.2.2.2.2.2 s.2.2.2.2.1 n0.1 (by have := hs.2.1.2.2.1; omega)).2.1 ?_
      rw [(hs.2.1.gl n0.1 n0.2).2.1]
      refine gX_istore dX2_openGloss_76 (show (4 : Nat) < 7 from by decide) (ls2 := [some (ga D), some (ga T), some (ga B), some (ga (B + 10 + 3 * s.2.2.2.2.1)), some (gi ((gq s.2.2.1 s.2.2.2.2.1).2.1)), none, none]) rfl ?_
      refine gX_aloadn dX2_openGloss_78 rfl ?_
      refine gX_iload dX2_openGloss_79 rfl ?_
      refine gX_virt (J := iX1_depthOf) (av := [gi ((gq s.2.2.1 s.2.2.2.2.1).2.1)]) (a := B) (st := []) dX2_openGloss_81 lkX2_108 kX1_depthOf vX1_depthOf (gFit_m (by decide)) hB.1 rfl rfl (Nat.le_of_ble_eq_true rfl) (Nat.zero_le _) (Nat.zero_le _) rfl ?_
      refine c_depthOf hB hs.2.1 ?_
      show gX l E _ 84 [some (ga D), some (ga T), some (ga B), some (ga (B + 10 + 3 * s.2.2.2.2.1)), some (gi ((gq s.2.2.1 s.2.2.2.2.1).2.1)), none, none] [gi (dpt s.2.2.1 5 ((gq s.2.2.1 s.2.2.2.2.1).2.1))] (K, R, V) _ _
      refine gX_iconst dX2_openGloss_84 ⟨by decide, by decide⟩ ?_
      refine gX_icmplt (tgt := 98) dX2_openGloss_85 (by decide) (fun y4 => ?_) (fun y4 => ?_)
      · refine gX_aloadn dX2_openGloss_98 rfl ?_
        refine gX_ifnonnull (tgt := 109) dX2_openGloss_99 (by decide) (fun y5 => ?_) (fun y5 => absurd (kd_pos (hB.2.2.2.2.2.2.2.2.2.2.2 s.2.2.2.2.1 n0.1 (by have := hs.2.1.2.2.1; omega)).2.1) (by omega))
        refine gX_aloadn dX2_openGloss_109 rfl ?_
        refine gX_gI 3 dX2_openGloss_110 fdX2_112 rfl (Or.inl rfl) (hB.2.2.2.2.2.2.2.2.2.2.2 s.2.2.2.2.1 n0.1 (by have := hs.2.1.2.2.1; omega)).2.1 ?_
        rw [(hs.2.1.gl n0.1 n0.2).2.2.1]
        refine gX_istore dX2_openGloss_113 (show (5 : Nat) < 7 from by decide) (ls2 := [some (ga D), some (ga T), some (ga B), some (ga (B + 10 + 3 * s.2.2.2.2.1)), some (gi ((gq s.2.2.1 s.2.2.2.2.1).2.1)), some (gi ((gq s.2.2.1 s.2.2.2.2.1).2.2.1)), none]) rfl ?_
        refine gX_aloadn dX2_openGloss_115 rfl ?_
        refine gX_ifnonnull (tgt := 133) dX2_openGloss_116 (by decide) (fun y6 => ?_) (fun y6 => absurd (kd_pos (hB.2.2.2.2.2.2.2.2.2.2.2 s.2.2.2.2.1 n0.1 (by have := hs.2.1.2.2.1; omega)).2.1) (by omega))
        refine gX_aloadn dX2_openGloss_133 rfl ?_
        refine gX_gI 4 dX2_openGloss_134 fdX2_115 rfl (Or.inl rfl) (hB.2.2.2.2.2.2.2.2.2.2.2 s.2.2.2.2.1 n0.1 (by have := hs.2.1.2.2.1; omega)).2.1 ?_
        rw [(hs.2.1.gl n0.1 n0.2).2.2.2.1]
        refine gX_istore dX2_openGloss_137 (show (6 : Nat) < 7 from by decide) (ls2 := [some (ga D), some (ga T), some (ga B), some (ga (B + 10 + 3 * s.2.2.2.2.1)), some (gi ((gq s.2.2.1 s.2.2.2.2.1).2.1)), some (gi ((gq s.2.2.1 s.2.2.2.2.1).2.2.1)), some (gi ((gq s.2.2.1 s.2.2.2.2.1).2.2.2.1))]) rfl ?_
        refine gX_aloadn dX2_openGloss_139 rfl ?_
        refine gX_aloadn dX2_openGloss_140 rfl ?_
        refine gX_iload dX2_openGloss_141 rfl ?_
        refine gX_iload dX2_openGloss_143 rfl ?_
        refine gX_iload dX2_openGloss_145 rfl ?_
        refine gX_virt (J := iX1_addGloss) (av := [gi ((gq s.2.2.1 s.2.2.2.2.1).2.1), gi ((gq s.2.2.1 s.2.2.2.2.1).2.2.1), gi ((gq s.2.2.1 s.2.2.2.2.1).2.2.2.1)]) (a := B) (st := [ga D]) dX2_openGloss_147 lkX2_118 kX1_addGloss vX1_addGloss (gFit_m (by decide)) hB.1 rfl rfl (Nat.le_of_ble_eq_true rfl) (Nat.zero_le _) (Nat.zero_le _) rfl ?_
        refine c_addGloss hB hs.2.1 (by omega) (fun V1 hb1 hk1 hf1 => ?_)
        show gX l E _ 150 [some (ga D), some (ga T), some (ga B), some (ga (B + 10 + 3 * s.2.2.2.2.1)), some (gi ((gq s.2.2.1 s.2.2.2.2.1).2.1)), some (gi ((gq s.2.2.1 s.2.2.2.2.1).2.2.1)), some (gi ((gq s.2.2.1 s.2.2.2.2.1).2.2.2.1))] [gi s.2.2.1.length, ga D] (K, R, V1) _ _
        refine gX_pI 1 dX2_openGloss_150 fdX2_15 fpX2_15 rfl (Or.inl rfl) hD ?_
        refine gX_aloadn dX2_openGloss_153 rfl ?_
        refine gX_iconst dX2_openGloss_154 ⟨by decide, by decide⟩ ?_
        refine gX_pI 0 dX2_openGloss_155 fdX2_11 fpX2_11 rfl (Or.inl rfl) hD ?_
        refine gX_iconst dX2_openGloss_158 ⟨by decide, by decide⟩ ?_
        refine gX_iret dX2_openGloss_159 (Or.inr ⟨rfl, Or.inr rfl⟩) ?_
        have e : rdGl s = _ := (if_neg (fun z => by rw [hsb] at z; exact absurd z.1 (by decide))).trans ((if_neg (by omega)).trans (if_neg (by rw [eH]; omega)))
        rw [e, eH, eA, eZ] at hQ
        refine hQ _ ⟨?_, ?_, ?_, ?_⟩ (fun a g1 g2 g3 => by rw [gup_ne g1, gup_ne g1, hf1 a (by omega)])
        · exact (hs.1.kept (hf1 _ (by omega)) (hf1 _ (by omega)) (hf1 _ (by omega))).kept ((gup_ne (by omega)).trans (gup_ne (by omega))) ((gup_ne (by omega)).trans (gup_ne (by omega))) ((gup_ne (by omega)).trans (gup_ne (by omega)))
        · exact hb1.kept (fun a g1 g2 => by rw [gup_ne (by omega), gup_ne (by omega)])
        · exact (show bmIs V1 B _ _ _ _ from ⟨(hk1.1 6 (by omega)).trans hs.2.2.1.1, (hk1.1 7 (by omega)).trans hs.2.2.1.2.1, hs.2.2.1.2.2.1.kept (hk1.2 _ (by omega) (by omega)) (hk1.2 _ (by omega) (by omega)), hs.2.2.1.2.2.2.kept (hk1.2 _ (by omega) (by omega)) (hk1.2 _ (by omega) (by omega))⟩).kept (fun a g1 g2 => by rw [gup_ne (by omega), gup_ne (by omega)])
        · exact ⟨gup_s, by rw [gup_o (Or.inr (by omega))]; exact gup_s, by rw [gup_o (Or.inr (by omega)), gup_o (Or.inr (by omega)), hf1 D (by omega)]; exact hs.2.2.2.2.2⟩
      · refine gX_aloadn dX2_openGloss_88 rfl ?_
        refine gX_iconst dX2_openGloss_89 ⟨by decide, by decide⟩ ?_
        refine gX_aloadn dX2_openGloss_90 rfl ?_
        refine gX_gI 1 dX2_openGloss_91 fdX2_47 rfl (Or.inl rfl) hT.1 ?_
        rw [hs.1.1]
        refine gX_virt (J := iX8_fail) (av := [gi 5, gi s.1.1]) (a := T) (st := []) dX2_openGloss_94 lkX2_50 kX8_fail vX8_fail (gFit_m (by decide)) hT.1 rfl rfl (Nat.le_of_ble_eq_true rfl) (Nat.zero_le _) (Nat.zero_le _) rfl ?_
        refine c_fail hT hs.1 (fun V8 ht8 hf8 => ?_)
        show gX l E _ 97 [some (ga D), some (ga T), some (ga B), some (ga (B + 10 + 3 * s.2.2.2.2.1)), some (gi ((gq s.2.2.1 s.2.2.2.2.1).2.1)), none, none] [gi 0] (K, R, V8) _ _
        refine gX_iret dX2_openGloss_97 (Or.inr ⟨rfl, Or.inl rfl⟩) ?_
        have e : rdGl s = _ := (if_neg (fun z => by rw [hsb] at z; exact absurd z.1 (by decide))).trans ((if_neg (by omega)).trans (if_pos (by rw [eH]; omega)))
        rw [e] at hQ
        exact hQ V8 (hs.told hd1 hd2 ht8 hf8) hf8.br
    · refine gX_aloadn dX2_openGloss_51 rfl ?_
      refine gX_iconst dX2_openGloss_52 ⟨by decide, by decide⟩ ?_
      refine gX_aloadn dX2_openGloss_53 rfl ?_
      refine gX_gI 1 dX2_openGloss_54 fdX2_47 rfl (Or.inl rfl) hT.1 ?_
      rw [hs.1.1]
      refine gX_virt (J := iX8_fail) (av := [gi 4, gi s.1.1]) (a := T) (st := []) dX2_openGloss_57 lkX2_50 kX8_fail vX8_fail (gFit_m (by decide)) hT.1 rfl rfl (Nat.le_of_ble_eq_true rfl) (Nat.zero_le _) (Nat.zero_le _) rfl ?_
      refine c_fail hT hs.1 (fun V8 ht8 hf8 => ?_)
      show gX l E _ 60 [some (ga D), some (ga T), some (ga B), some (ga (B + 10 + 3 * s.2.2.2.2.1)), none, none, none] [gi 0] (K, R, V8) _ _
      refine gX_iret dX2_openGloss_60 (Or.inr ⟨rfl, Or.inl rfl⟩) ?_
      have e : rdGl s = _ := (if_neg (fun z => by rw [hsb] at z; exact absurd z.1 (by decide))).trans (if_pos (by omega))
      rw [e] at hQ
      exact hQ V8 (hs.told hd1 hd2 ht8 hf8) hf8.br
  have tN : sib s = false → ∀ (bc bs : Nat), gX l E (gFm E (d + 3) iX2_openGloss Q) 20 [some (ga D), some (ga T), some (ga B), some (ga (-1)), none, none, none] [] (K, R, V) bc bs := by
    intro hsb bc bs
    have eH : glH s = s.2.2.2.2.1 := if_neg (by rw [hsb]; decide)
    have eA : glA s = s.2.2.2.2.2 := if_neg (by rw [hsb]; decide)
    have eZ : glZ s = (rwL s.2.1 s.2.2.1 s.2.2.2.2.1).length - 1 := (if_neg (by rw [hsb]; decide)).trans (by rw [eH])
    obtain ⟨nn, hrn1, hrn2, hrn3⟩ := rwA_row (h := s.2.2.2.2.1) hB hs.2.1
    have hrl := hrn2.2.1
    refine gX_aloadn dX2_openGloss_20 rfl ?_
    refine gX_ifnonnull (tgt := 42) dX2_openGloss_21 (by decide) (fun n1 => absurd n1 (by omega)) (fun n1 => ?_)
    refine gX_aloadn dX2_openGloss_24 rfl ?_
    refine gX_gI 0 dX2_openGloss_25 fdX2_11 rfl (Or.inl rfl) hD ?_
    rw [hs.2.2.2.1]
    refine gX_iconst dX2_openGloss_28 ⟨by decide, by decide⟩ ?_
    refine gX_icmpeq (tgt := 42) dX2_openGloss_29 (by decide) (fun n2 => ?_) (fun n2 => ?_)
    · refine gX_aloadn dX2_openGloss_42 rfl ?_
      refine gX_gI 5 dX2_openGloss_43 fdX2_102 rfl (Or.inl rfl) hB.1 ?_
      rw [hs.2.1.2.1]
      refine gX_bipush dX2_openGloss_46 (by decide) ⟨by decide, by decide⟩ ?_
      refine gX_icmplt (tgt := 61) dX2_openGloss_48 (by decide) (fun n3 => ?_) (fun n3 => ?_)
      · refine gX_aloadn dX2_openGloss_61 rfl ?_
        refine gX_ifnonnull (tgt := 72) dX2_openGloss_62 (by decide) (fun n4 => absurd n4 (by omega)) (fun n4 => ?_)
        refine gX_aloadn dX2_openGloss_65 rfl ?_
        refine gX_gI 1 dX2_openGloss_66 fdX2_15 rfl (Or.inl rfl) hD ?_
        rw [hs.2.2.2.2.1]
        refine gX_goto (tgt := 76) dX2_openGloss_69 (by decide) ?_
        refine gX_istore dX2_openGloss_76 (show (4 : Nat) < 7 from by decide) (ls2 := [some (ga D), some (ga T), some (ga B), some (ga (-1)), some (gi s.2.2.2.2.1), none, none]) rfl ?_
        refine gX_aloadn dX2_openGloss_78 rfl ?_
        refine gX_iload dX2_openGloss_79 rfl ?_
        refine gX_virt (J := iX1_depthOf) (av := [gi s.2.2.2.2.1]) (a := B) (st := []) dX2_openGloss_81 lkX2_108 kX1_depthOf vX1_depthOf (gFit_m (by decide)) hB.1 rfl rfl (Nat.le_of_ble_eq_true rfl) (Nat.zero_le _) (Nat.zero_le _) rfl ?_
        refine c_depthOf hB hs.2.1 ?_
        show gX l E _ 84 [some (ga D), some (ga T), some (ga B), some (ga (-1)), some (gi s.2.2.2.2.1), none, none] [gi (dpt s.2.2.1 5 (s.2.2.2.2.1))] (K, R, V) _ _
        refine gX_iconst dX2_openGloss_84 ⟨by decide, by decide⟩ ?_
        refine gX_icmplt (tgt := 98) dX2_openGloss_85 (by decide) (fun n5 => ?_) (fun n5 => ?_)
        · refine gX_aloadn dX2_openGloss_98 rfl ?_
          refine gX_ifnonnull (tgt := 109) dX2_openGloss_99 (by decide) (fun n6 => absurd n6 (by omega)) (fun n6 => ?_)
          refine gX_aloadn dX2_openGloss_102 rfl ?_
          refine gX_gI 2 dX2_openGloss_103 fdX2_18 rfl (Or.inl rfl) hD ?_
          rw [hs.2.2.2.2.2]
          refine gX_goto (tgt := 113) dX2_openGloss_106 (by decide) ?_
          refine gX_istore dX2_openGloss_113 (show (5 : Nat) < 7 from by decide) (ls2 := [some (ga D), some (ga T), some (ga B), some (ga (-1)), some (gi s.2.2.2.2.1), some (gi s.2.2.2.2.2), none]) rfl ?_
          refine gX_aloadn dX2_openGloss_115 rfl ?_
          refine gX_ifnonnull (tgt := 133) dX2_openGloss_116 (by decide) (fun n7 => absurd n7 (by omega)) (fun n7 => ?_)
          refine gX_aloadn dX2_openGloss_119 rfl ?_
          refine gX_iload dX2_openGloss_120 rfl ?_
          refine gX_virt (J := iX1_rowOf) (av := [gi s.2.2.2.2.1]) (a := B) (st := []) dX2_openGloss_122 lkX2_58 kX1_rowOf vX1_rowOf (gFit_m (by decide)) hB.1 rfl rfl (Nat.le_of_ble_eq_true rfl) (Nat.zero_le _) (Nat.zero_le _) rfl ?_
          refine c_rowOf hB hs.2.1 ?_
          show gX l E _ 125 [some (ga D), some (ga T), some (ga B), some (ga (-1)), some (gi s.2.2.2.2.1), some (gi s.2.2.2.2.2), none] [ga (rwA B s.2.2.1.length s.2.2.2.2.1)] (K, R, V) _ _
          refine gX_virt (J := iX6_length) (av := []) (a := (rwA B s.2.2.1.length s.2.2.2.2.1)) (st := []) dX2_openGloss_125 lkX2_62 kX6_length vX6_length (gFit_m (by decide)) hrn1.1 rfl rfl (Nat.le_of_ble_eq_true rfl) (Nat.zero_le _) (Nat.zero_le _) rfl ?_
          refine q_Row_length hrn1 hrn2 ?_
          show gX l E _ 128 [some (ga D), some (ga T), some (ga B), some (ga (-1)), some (gi s.2.2.2.2.1), some (gi s.2.2.2.2.2), none] [gi ((rwL s.2.1 s.2.2.1 s.2.2.2.2.1).length)] (K, R, V) _ _
          refine gX_iconst dX2_openGloss_128 ⟨by decide, by decide⟩ ?_
          refine gX_isub dX2_openGloss_129 ⟨by omega, by omega⟩ ?_
          refine gX_goto (tgt := 137) dX2_openGloss_130 (by decide) ?_
          refine gX_istore dX2_openGloss_137 (show (6 : Nat) < 7 from by decide) (ls2 := [some (ga D), some (ga T), some (ga B), some (ga (-1)), some (gi s.2.2.2.2.1), some (gi s.2.2.2.2.2), some (gi (((rwL s.2.1 s.2.2.1 s.2.2.2.2.1).length) - 1))]) rfl ?_
          refine gX_aloadn dX2_openGloss_139 rfl ?_
          refine gX_aloadn dX2_openGloss_140 rfl ?_
          refine gX_iload dX2_openGloss_141 rfl ?_
          refine gX_iload dX2_openGloss_143 rfl ?_
          refine gX_iload dX2_openGloss_145 rfl ?_
          refine gX_virt (J := iX1_addGloss) (av := [gi s.2.2.2.2.1, gi s.2.2.2.2.2, gi (((rwL s.2.1 s.2.2.1 s.2.2.2.2.1).length) - 1)]) (a := B) (st := [ga D]) dX2_openGloss_147 lkX2_118 kX1_addGloss vX1_addGloss (gFit_m (by decide)) hB.1 rfl rfl (Nat.le_of_ble_eq_true rfl) (Nat.zero_le _) (Nat.zero_le _) rfl ?_
          refine c_addGloss hB hs.2.1 (by omega) (fun V1 hb1 hk1 hf1 => ?_)
          show gX l E _ 150 [some (ga D), some (ga T), some (ga B), some (ga (-1)), some (gi s.2.2.2.2.1), some (gi s.2.2.2.2.2), some (gi (((rwL s.2.1 s.2.2.1 s.2.2.2.2.1).length) - 1))] [gi s.2.2.1.length, ga D] (K, R, V1) _ _
          refine gX_pI 1 dX2_openGloss_150 fdX2_15 fpX2_15 rfl (Or.inl rfl) hD ?_
          refine gX_aloadn dX2_openGloss_153 rfl ?_
          refine gX_iconst dX2_openGloss_154 ⟨by decide, by decide⟩ ?_
          refine gX_pI 0 dX2_openGloss_155 fdX2_11 fpX2_11 rfl (Or.inl rfl) hD ?_
          refine gX_iconst dX2_openGloss_158 ⟨by decide, by decide⟩ ?_
          refine gX_iret dX2_openGloss_159 (Or.inr ⟨rfl, Or.inr rfl⟩) ?_
          have e : rdGl s = _ := (if_neg (fun z => by exact z.2 (by omega))).trans ((if_neg (by omega)).trans (if_neg (by rw [eH]; omega)))
          rw [e, eH, eA, eZ] at hQ
          refine hQ _ ⟨?_, ?_, ?_, ?_⟩ (fun a g1 g2 g3 => by rw [gup_ne g1, gup_ne g1, hf1 a (by omega)])
          · exact (hs.1.kept (hf1 _ (by omega)) (hf1 _ (by omega)) (hf1 _ (by omega))).kept ((gup_ne (by omega)).trans (gup_ne (by omega))) ((gup_ne (by omega)).trans (gup_ne (by omega))) ((gup_ne (by omega)).trans (gup_ne (by omega)))
          · exact hb1.kept (fun a g1 g2 => by rw [gup_ne (by omega), gup_ne (by omega)])
          · exact (show bmIs V1 B _ _ _ _ from ⟨(hk1.1 6 (by omega)).trans hs.2.2.1.1, (hk1.1 7 (by omega)).trans hs.2.2.1.2.1, hs.2.2.1.2.2.1.kept (hk1.2 _ (by omega) (by omega)) (hk1.2 _ (by omega) (by omega)), hs.2.2.1.2.2.2.kept (hk1.2 _ (by omega) (by omega)) (hk1.2 _ (by omega) (by omega))⟩).kept (fun a g1 g2 => by rw [gup_ne (by omega), gup_ne (by omega)])
          · exact ⟨gup_s, by rw [gup_o (Or.inr (by omega))]; exact gup_s, by rw [gup_o (Or.inr (by omega)), gup_o (Or.inr (by omega)), hf1 D (by omega)]; exact hs.2.2.2.2.2⟩
        · refine gX_aloadn dX2_openGloss_88 rfl ?_
          refine gX_iconst dX2_openGloss_89 ⟨by decide, by decide⟩ ?_
          refine gX_aloadn dX2_openGloss_90 rfl ?_
          refine gX_gI 1 dX2_openGloss_91 fdX2_47 rfl (Or.inl rfl) hT.1 ?_
          rw [hs.1.1]
          refine gX_virt (J := iX8_fail) (av := [gi 5, gi s.1.1]) (a := T) (st := []) dX2_openGloss_94 lkX2_50 kX8_fail vX8_fail (gFit_m (by decide)) hT.1 rfl rfl (Nat.le_of_ble_eq_true rfl) (Nat.zero_le _) (Nat.zero_le _) rfl ?_
          refine c_fail hT hs.1 (fun V8 ht8 hf8 => ?_)
          show gX l E _ 97 [some (ga D), some (ga T), some (ga B), some (ga (-1)), some (gi s.2.2.2.2.1), none, none] [gi 0] (K, R, V8) _ _
          refine gX_iret dX2_openGloss_97 (Or.inr ⟨rfl, Or.inl rfl⟩) ?_
          have e : rdGl s = _ := (if_neg (fun z => by exact z.2 (by omega))).trans ((if_neg (by omega)).trans (if_pos (by rw [eH]; omega)))
          rw [e] at hQ
          exact hQ V8 (hs.told hd1 hd2 ht8 hf8) hf8.br
      · refine gX_aloadn dX2_openGloss_51 rfl ?_
        refine gX_iconst dX2_openGloss_52 ⟨by decide, by decide⟩ ?_
        refine gX_aloadn dX2_openGloss_53 rfl ?_
        refine gX_gI 1 dX2_openGloss_54 fdX2_47 rfl (Or.inl rfl) hT.1 ?_
        rw [hs.1.1]
        refine gX_virt (J := iX8_fail) (av := [gi 4, gi s.1.1]) (a := T) (st := []) dX2_openGloss_57 lkX2_50 kX8_fail vX8_fail (gFit_m (by decide)) hT.1 rfl rfl (Nat.le_of_ble_eq_true rfl) (Nat.zero_le _) (Nat.zero_le _) rfl ?_
        refine c_fail hT hs.1 (fun V8 ht8 hf8 => ?_)
        show gX l E _ 60 [some (ga D), some (ga T), some (ga B), some (ga (-1)), none, none, none] [gi 0] (K, R, V8) _ _
        refine gX_iret dX2_openGloss_60 (Or.inr ⟨rfl, Or.inl rfl⟩) ?_
        have e : rdGl s = _ := (if_neg (fun z => by exact z.2 (by omega))).trans (if_pos (by omega))
        rw [e] at hQ
        exact hQ V8 (hs.told hd1 hd2 ht8 hf8) hf8.br
    · refine gX_aloadn dX2_openGloss_32 rfl ?_
      refine gX_iconst dX2_openGloss_33 ⟨by decide, by decide⟩ ?_
      refine gX_aloadn dX2_openGloss_34 rfl ?_
      refine gX_gI 1 dX2_openGloss_35 fdX2_47 rfl (Or.inl rfl) hT.1 ?_
      rw [hs.1.1]
      refine gX_virt (J := iX8_fail) (av := [gi 1, gi s.1.1]) (a := T) (st := []) dX2_openGloss_38 lkX2_50 kX8_fail vX8_fail (gFit_m (by decide)) hT.1 rfl rfl (Nat.le_of_ble_eq_true rfl) (Nat.zero_le _) (Nat.zero_le _) rfl ?_
      refine c_fail hT hs.1 (fun V8 ht8 hf8 => ?_)
      show gX l E _ 41 [some (ga D), some (ga T), some (ga B), some (ga (-1)), none, none, none] [gi 0] (K, R, V8) _ _
      refine gX_iret dX2_openGloss_41 (Or.inr ⟨rfl, Or.inl rfl⟩) ?_
      have e : rdGl s = _ := if_pos ⟨hsb, by omega⟩
      rw [e] at hQ
      exact hQ V8 (hs.told hd1 hd2 ht8 hf8) hf8.br
  refine gX_aloadn dX2_openGloss_0 rfl ?_
  refine gX_gI 0 dX2_openGloss_1 fdX2_11 rfl (Or.inl rfl) hD ?_
  rw [hs.2.2.2.1]
  refine gX_ifne (tgt := 18) dX2_openGloss_4 (by decide) (fun m1 => ?_) (fun m1 => ?_)
  · refine gX_null dX2_openGloss_18 ?_
    refine gX_astoren dX2_openGloss_19 (show (3 : Nat) < 7 from by decide) (ls2 := [some (ga D), some (ga T), some (ga B), some (ga (-1)), none, none, none]) rfl ?_
    refine tN ?_ _ _
    unfold sib
    first | (rw [ng]; exact Bool.and_false _) | (rw [decide_eq_false (by omega)]; exact Bool.false_and _)
  · refine gX_aloadn dX2_openGloss_7 rfl ?_
    refine gX_aloadn dX2_openGloss_8 rfl ?_
    refine gX_gI 1 dX2_openGloss_9 fdX2_15 rfl (Or.inl rfl) hD ?_
    rw [hs.2.2.2.2.1]
    refine gX_virt (J := iX1_glossAt) (av := [gi s.2.2.2.2.1]) (a := B) (st := []) dX2_openGloss_12 lkX2_67 kX1_glossAt vX1_glossAt (gFit_m (by decide)) hB.1 rfl rfl (Nat.le_of_ble_eq_true rfl) (Nat.zero_le _) (Nat.zero_le _) rfl ?_
    refine gAtI hB hs.2.1 ?_
    by_cases n0 : 0 ≤ s.2.2.2.2.1 ∧ s.2.2.2.2.1 < s.2.2.1.length
    · rw [if_pos n0]
      have ng := inG_t n0
      show gX l E _ 15 [some (ga D), some (ga T), some (ga B), none, none, none, none] [ga (B + 10 + 3 * s.2.2.2.2.1)] (K, R, V) _ _
      refine gX_goto (tgt := 19) dX2_openGloss_15 (by decide) ?_
      refine gX_astoren dX2_openGloss_19 (show (3 : Nat) < 7 from by decide) (ls2 := [some (ga D), some (ga T), some (ga B), some (ga (B + 10 + 3 * s.2.2.2.2.1)), none, none, none]) rfl ?_
      exact tY n0 (by unfold sib; rw [ng]; simp only [Bool.and_true, decide_eq_true_eq]; omega) _ _
    · rw [if_neg n0]
      have ng := inG_f n0
      show gX l E _ 15 [some (ga D), some (ga T), some (ga B), none, none, none, none] [ga (-1)] (K, R, V) _ _
      refine gX_goto (tgt := 19) dX2_openGloss_15 (by decide) ?_
      refine gX_astoren dX2_openGloss_19 (show (3 : Nat) < 7 from by decide) (ls2 := [some (ga D), some (ga T), some (ga B), some (ga (-1)), none, none, none]) rfl ?_
      refine tN ?_ _ _
      unfold sib
      first | (rw [ng]; exact Bool.and_false _) | (rw [decide_eq_false (by omega)]; exact Bool.false_and _)
end READER
