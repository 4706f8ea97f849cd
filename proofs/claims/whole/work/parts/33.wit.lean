/-! Witnesses. Written by wip/whole/tools/mk_wit.py. -/
def wtK (K : List gK) (R : Int → Int → Int) (W : Int) : Prop := kd (K, R, fun _ _ => 0) W = some (.inl 9) ∧ R W 0 = W + 1 ∧ R W 1 = W + 3 ∧ R W 2 = W + 5 ∧ gRow K R (W + 1) 400 ∧ gRow K R (W + 3) 160 ∧ gRow K R (W + 5) 160
/-- the readings, the base, the set, the places -/
def wtIs (V : Int → Int → Int) (W : Int) (rd : List Int) (ba se pl : Int) : Prop := rIs V (W + 1) 400 rd ∧ V W 3 = ba ∧ V W 4 = se ∧ V W 5 = pl
theorem wtIs.kept {V V1 : Int → Int → Int} {W : Int} {rd : List Int} {ba se pl : Int} (h : wtIs V W rd ba se pl) (h0 : V1 W = V W) (h1 : V1 (W + 1) = V (W + 1)) (h2 : V1 (W + 2) = V (W + 2)) : wtIs V1 W rd ba se pl := by
  have e : W + 1 + 1 = W + 2 := by omega
  exact ⟨h.1.kept h1 (by rw [e]; exact h2), by rw [h0]; exact h.2.1, by rw [h0]; exact h.2.2.1, by rw [h0]; exact h.2.2.2⟩
def inB (se b : Int) : Bool := decide (0 ≤ b ∧ b < 10 ∧ gand (gshr se b) 1 = 1)
def hrd (rd : List Int) (b i : Int) : Int := lat rd (b * 40 + i)
def vtF (rd : List Int) (ba se i r : Int) : Nat → Int → Int → Int
  | 0, _, n => n
  | k + 1, b, n => vtF rd ba se i r k (b + 1) (if (b = ba ∨ inB se b = true) ∧ hrd rd b i = r then n + 1 else n)
def vts (rd : List Int) (ba se i r : Int) : Int := vtF rd ba se i r 10 0 0
def nrF (rd : List Int) (se i a : Int) : Nat → Int → Int → Int
  | 0, _, m => m
  | k + 1, b, m => nrF rd se i a k (b + 1) (if inB se b = true ∧ a < hrd rd b i then min m (hrd rd b i) else m)
def nrd (rd : List Int) (se i a : Int) : Int := nrF rd se i a 10 0 64
def moF (rd : List Int) (ba se i : Int) : Nat → Int → Int → Int → Int
  | 0, _, w, _ => w
  | k + 1, r, w, v => if r < 64 then moF rd ba se i k (nrd rd se i r) (if v < vts rd ba se i r then r else w) (if v < vts rd ba se i r then vts rd ba se i r else v) else w
def moA (rd : List Int) (ba se i : Int) : Int := moF rd ba se i 10 (nrd rd se i (-2)) (hrd rd ba i) (vts rd ba se i (hrd rd ba i))
def mbF (rd : List Int) (se i r : Int) : Nat → Int → Int → Int
  | 0, _, m => m
  | k + 1, b, m => mbF rd se i r k (b + 1) (if inB se b = true ∧ hrd rd b i = r then gor m (gshl 1 b) else m)
def mbs (rd : List Int) (se i r : Int) : Int := mbF rd se i r 10 0 0
def cla (a b : Int) : Bool := decide (gand a b ≠ 0 ∧ gand a (gxor b (-1)) ≠ 0 ∧ gand b (gxor a (-1)) ≠ 0)
def snd' (gr : List Int) (a : Int) : Nat → Int → Bool
  | 0, _ => true
  | n + 1, k => if cla a (lat gr k) = true then false else snd' gr a n (k + 1)
def sdF (gr : List Int) : Nat → Int → List Int → List Int
  | 0, _, o => o
  | n + 1, i, o => sdF gr n (i + 1) (if snd' gr (lat gr i) gr.length 0 = true then ladd 160 o (lat gr i) else o)
def rsF (rd : List Int) (ba se : Int) : Nat → Int → List Int → List Int
  | 0, _, o => o
  | n + 1, i, o => rsF rd ba se n (i + 1) (if moA rd ba se i = -1 then o else ladd 160 o (moA rd ba se i))
theorem vtF_bd {rd : List Int} {ba se i r : Int} : ∀ (k : Nat) (b n : Int), n ≤ vtF rd ba se i r k b n ∧ vtF rd ba se i r k b n ≤ n + k
  | 0, _, n => ⟨Int.le_refl _, by show n ≤ n + ((0 : Nat) : Int); omega⟩
  | k + 1, b, n => by
    have h := vtF_bd (rd := rd) (ba := ba) (se := se) (i := i) (r := r) k (b + 1) (if (b = ba ∨ inB se b = true) ∧ hrd rd b i = r then n + 1 else n)
    show n ≤ vtF rd ba se i r k (b + 1) _ ∧ vtF rd ba se i r k (b + 1) _ ≤ _
    by_cases c : (b = ba ∨ inB se b = true) ∧ hrd rd b i = r
    · rw [if_pos c] at h ⊢; omega
    · rw [if_neg c] at h ⊢; omega
section WIT
variable {l : Launch} {E : gE} {d : Nat} {K : List gK} {R V : Int → Int → Int} {W : Int} {Q : gQ} {rd gr : List Int} {ba se pl : Int}
set_option maxRecDepth 4000 in
theorem c_isIn {s b : Int} (hQ : Q (some (gi (b2i (inB s b)))) (K, R, V)) : gC l E (d + 1) iX11_isIn [gi s, gi b] (K, R, V) Q := by
  refine gC_of kX11_isIn (ls := [some (gi s), some (gi b)]) rfl (Nat.le_of_ble_eq_true rfl) ?_
  refine gX_iloadn dX11_isIn_0 rfl ?_
  refine gX_iflt (tgt := 23) dX11_isIn_1 (by decide) (fun w1 => ?_) (fun w1 => ?_)
  · refine gX_iconst dX11_isIn_23 ⟨by decide, by decide⟩ ?_
    refine gX_iret dX11_isIn_24 (Or.inr ⟨rfl, Or.inl rfl⟩) ?_
    have ec : inB s b = false := by unfold inB; simp only [decide_eq_true_eq, decide_eq_false_iff_not]; omega
    rw [ec] at hQ
    exact hQ
  · refine gX_iloadn dX11_isIn_4 rfl ?_
    refine gX_bipush dX11_isIn_5 (by decide) ⟨by decide, by decide⟩ ?_
    refine gX_icmpge (tgt := 23) dX11_isIn_7 (by decide) (fun w2 => ?_) (fun w2 => ?_)
    · refine gX_iconst dX11_isIn_23 ⟨by decide, by decide⟩ ?_
      refine gX_iret dX11_isIn_24 (Or.inr ⟨rfl, Or.inl rfl⟩) ?_
      have ec : inB s b = false := by unfold inB; simp only [decide_eq_true_eq, decide_eq_false_iff_not]; omega
      rw [ec] at hQ
      exact hQ
    · refine gX_iloadn dX11_isIn_10 rfl ?_
      refine gX_iloadn dX11_isIn_11 rfl ?_
      refine gX_ishr dX11_isIn_12 ?_
      refine gX_iconst dX11_isIn_13 ⟨by decide, by decide⟩ ?_
      refine gX_iand dX11_isIn_14 ?_
      refine gX_iconst dX11_isIn_15 ⟨by decide, by decide⟩ ?_
      refine gX_icmpne (tgt := 23) dX11_isIn_16 (by decide) (fun w3 => ?_) (fun w3 => ?_)
      · refine gX_iconst dX11_isIn_23 ⟨by decide, by decide⟩ ?_
        refine gX_iret dX11_isIn_24 (Or.inr ⟨rfl, Or.inl rfl⟩) ?_
        have ec : inB s b = false := by unfold inB; simp only [decide_eq_true_eq, decide_eq_false_iff_not]; omega
        rw [ec] at hQ
        exact hQ
      · refine gX_iconst dX11_isIn_19 ⟨by decide, by decide⟩ ?_
        refine gX_goto (tgt := 24) dX11_isIn_20 (by decide) ?_
        refine gX_iret dX11_isIn_24 (Or.inr ⟨rfl, Or.inr rfl⟩) ?_
        have ec : inB s b = true := by unfold inB; simp only [decide_eq_true_eq, decide_eq_false_iff_not]; omega
        rw [ec] at hQ
        exact hQ
set_option maxRecDepth 4000 in
theorem c_wtBegin (hW : wtK K R W) (hQ : ∀ V', wtIs V' W (List.replicate 400 (-1)) ba se pl → gFr V V' W (W + 3) → Q none (K, R, V')) : gC l E (d + 3) iX10_begin [ga W, gi ba, gi se, gi pl] (K, R, V) Q := by
  refine gC_of kX10_begin (ls := [some (ga W), some (gi ba), some (gi se), some (gi pl)]) rfl (Nat.le_of_ble_eq_true rfl) ?_
  refine gX_aloadn dX10_begin_0 rfl ?_
  refine gX_iloadn dX10_begin_1 rfl ?_
  refine gX_pI 3 dX10_begin_2 fdX10_26 fpX10_26 rfl (Or.inl rfl) hW.1 ?_
  refine gX_aloadn dX10_begin_5 rfl ?_
  refine gX_iloadn dX10_begin_6 rfl ?_
  refine gX_pI 4 dX10_begin_7 fdX10_30 fpX10_30 rfl (Or.inl rfl) hW.1 ?_
  refine gX_aloadn dX10_begin_10 rfl ?_
  refine gX_iloadn dX10_begin_11 rfl ?_
  refine gX_pI 5 dX10_begin_12 fdX10_33 fpX10_33 rfl (Or.inl rfl) hW.1 ?_
  refine gX_aloadn dX10_begin_15 rfl ?_
  refine gX_gR 0 dX10_begin_16 fdX10_14 rfl rfl hW.1 hW.2.1 ?_
  refine gX_sipush dX10_begin_19 (by decide) ⟨by decide, by decide⟩ ?_
  refine gX_iconst dX10_begin_22 ⟨by decide, by decide⟩ ?_
  refine gX_virt (J := iX6_fill) (av := [gi 400, gi (-1)]) (a := (W + 1)) (st := []) dX10_begin_23 lkX10_36 kX6_fill vX6_fill (gFit_m (by decide)) hW.2.2.2.2.1.1 rfl rfl (Nat.le_of_ble_eq_true rfl) (Nat.zero_le _) (Nat.zero_le _) rfl ?_
  refine q_Row_fill hW.2.2.2.2.1 (by omega) (by omega) (fun V1 hx1 hf1 => ?_)
  show gX l E _ 26 [some (ga W), some (gi ba), some (gi se), some (gi pl)] [] (K, R, V1) _ _
  refine gX_vret dX10_begin_26 rfl ?_
  refine hQ V1 ⟨hx1, ?_, ?_, ?_⟩ (fun a ha => by rw [hf1 a (by omega) (by omega), gup_ne (by omega), gup_ne (by omega), gup_ne (by omega)])
  · rw [hf1 W (by omega) (by omega), gup_o (Or.inr (by omega)), gup_o (Or.inr (by omega))]; exact gup_s
  · rw [hf1 W (by omega) (by omega), gup_o (Or.inr (by omega))]; exact gup_s
  · rw [hf1 W (by omega) (by omega)]; exact gup_s
set_option maxRecDepth 4000 in
theorem c_hear {b i x : Int} (hW : wtK K R W) (hw : wtIs V W rd ba se pl) (hb : 0 ≤ b ∧ b < 10 ∧ 0 ≤ i ∧ i < 40) (hQ : ∀ V', wtIs V' W (lput rd (b * 40 + i) x) ba se pl → gFr V V' (W + 1) (W + 3) → Q none (K, R, V')) : gC l E (d + 2) iX10_hear [ga W, gi b, gi i, gi x] (K, R, V) Q := by
  refine gC_of kX10_hear (ls := [some (ga W), some (gi b), some (gi i), some (gi x)]) rfl (Nat.le_of_ble_eq_true rfl) ?_
  refine gX_aloadn dX10_hear_0 rfl ?_
  refine gX_gR 0 dX10_hear_1 fdX10_14 rfl rfl hW.1 hW.2.1 ?_
  refine gX_iloadn dX10_hear_4 rfl ?_
  refine gX_bipush dX10_hear_5 (by decide) ⟨by decide, by decide⟩ ?_
  refine gX_imul dX10_hear_7 ⟨by omega, by omega⟩ ?_
  refine gX_iloadn dX10_hear_8 rfl ?_
  refine gX_iadd dX10_hear_9 ⟨by omega, by omega⟩ ?_
  refine gX_iloadn dX10_hear_10 rfl ?_
  refine gX_virt (J := iX6_put) (av := [gi ((b * 40) + i), gi x]) (a := (W + 1)) (st := []) dX10_hear_11 lkX10_40 kX6_put vX6_put (gFit_m (by decide)) hW.2.2.2.2.1.1 rfl rfl (Nat.le_of_ble_eq_true rfl) (Nat.zero_le _) (Nat.zero_le _) rfl ?_
  refine q_Row_put hW.2.2.2.2.1 hw.1 (fun V1 hx1 hf1 => ?_)
  show gX l E _ 14 [some (ga W), some (gi b), some (gi i), some (gi x)] [] (K, R, V1) _ _
  refine gX_vret dX10_hear_14 rfl ?_
  exact hQ V1 ⟨hx1, by rw [hf1 W (by omega) (by omega)]; exact hw.2.1, by rw [hf1 W (by omega) (by omega)]; exact hw.2.2.1, by rw [hf1 W (by omega) (by omega)]; exact hw.2.2.2⟩ (hf1.fr (by omega) (by omega))
set_option maxRecDepth 4000 in
theorem c_heard {b i : Int} (hW : wtK K R W) (hw : wtIs V W rd ba se pl) (hb : 0 ≤ b ∧ b < 10 ∧ 0 ≤ i ∧ i < 40) (hQ : Q (some (gi (hrd rd b i))) (K, R, V)) : gC l E (d + 2) iX10_heard [ga W, gi b, gi i] (K, R, V) Q := by
  refine gC_of kX10_heard (ls := [some (ga W), some (gi b), some (gi i)]) rfl (Nat.le_of_ble_eq_true rfl) ?_
  refine gX_aloadn dX10_heard_0 rfl ?_
  refine gX_gR 0 dX10_heard_1 fdX10_14 rfl rfl hW.1 hW.2.1 ?_
  refine gX_iloadn dX10_heard_4 rfl ?_
  refine gX_bipush dX10_heard_5 (by decide) ⟨by decide, by decide⟩ ?_
  refine gX_imul dX10_heard_7 ⟨by omega, by omega⟩ ?_
  refine gX_iloadn dX10_heard_8 rfl ?_
  refine gX_iadd dX10_heard_9 ⟨by omega, by omega⟩ ?_
  refine gX_virt (J := iX6_at) (av := [gi ((b * 40) + i)]) (a := (W + 1)) (st := []) dX10_heard_10 lkX10_43 kX6_at vX6_at (gFit_m (by decide)) hW.2.2.2.2.1.1 rfl rfl (Nat.le_of_ble_eq_true rfl) (Nat.zero_le _) (Nat.zero_le _) rfl ?_
  refine q_Row_at hW.2.2.2.2.1 hw.1 ?_
  show gX l E _ 13 [some (ga W), some (gi b), some (gi i)] [gi (hrd rd b i)] (K, R, V) _ _
  refine gX_iret dX10_heard_13 (Or.inl rfl) ?_
  exact hQ
set_option maxRecDepth 4000 in
theorem c_votes {i r : Int} (hW : wtK K R W) (hw : wtIs V W rd ba se pl) (hi : 0 ≤ i ∧ i < 40) (hQ : Q (some (gi (vts rd ba se i r))) (K, R, V)) : gC l E (d + 3) iX10_votes [ga W, gi i, gi r] (K, R, V) Q := by
  refine gC_of kX10_votes (ls := [some (ga W), some (gi i), some (gi r), none, none]) rfl (Nat.le_of_ble_eq_true rfl) ?_
  have lp : ∀ (jj : Nat) (b : Int) (n : Int) (bc bs : Nat), (10 : Int) - b < (jj : Int) → 0 ≤ b → b ≤ 10 → 0 ≤ n → n ≤ b → (Q (some (gi (vtF rd ba se i r (10 - b).toNat b n))) (K, R, V)) → gX l E (gFm E (d + 3) iX10_votes Q) 5 [some (ga W), some (gi i), some (gi r), some (gi n), some (gi b)] [] (K, R, V) bc bs := by
    intro jj
    induction jj with
    | zero =>
      intro b n bc bs hj q0 q1 q2 q3 hq2
      exfalso; omega
    | succ jj ih =>
      intro b n bc bs hj q0 q1 q2 q3 hq2
      refine gX_iload dX10_votes_5 rfl ?_
      refine gX_bipush dX10_votes_7 (by decide) ⟨by decide, by decide⟩ ?_
      refine gX_icmpge (tgt := 53) dX10_votes_9 (by decide) (fun w1 => ?_) (fun w1 => ?_)
      · refine gX_iloadn dX10_votes_53 rfl ?_
        refine gX_iret dX10_votes_54 (Or.inl rfl) ?_
        have ei : (10 - b).toNat = 0 := by omega
        rw [ei] at hq2
        exact hq2
      · refine gX_iload dX10_votes_12 rfl ?_
        refine gX_aloadn dX10_votes_14 rfl ?_
        refine gX_gI 3 dX10_votes_15 fdX10_26 rfl (Or.inl rfl) hW.1 ?_
        rw [hw.2.1]
        refine gX_icmpeq (tgt := 33) dX10_votes_18 (by decide) (fun w2 => ?_) (fun w2 => ?_)
        · refine gX_aloadn dX10_votes_33 rfl ?_
          refine gX_iload dX10_votes_34 rfl ?_
          refine gX_iloadn dX10_votes_36 rfl ?_
          refine gX_virt (J := iX10_heard) (av := [gi b, gi i]) (a := W) (st := []) dX10_votes_37 lkX10_51 kX10_heard vX10_heard (gFit_m (by decide)) hW.1 rfl rfl (Nat.le_of_ble_eq_true rfl) (Nat.zero_le _) (Nat.zero_le _) rfl ?_
          refine c_heard hW hw ⟨by omega, by omega, hi⟩ ?_
          show gX l E _ 40 [some (ga W), some (gi i), some (gi r), some (gi n), some (gi b)] [gi (hrd rd b i)] (K, R, V) _ _
          refine gX_iloadn dX10_votes_40 rfl ?_
          refine gX_icmpne (tgt := 47) dX10_votes_41 (by decide) (fun w3 => ?_) (fun w3 => ?_)
          · refine gX_iinc dX10_votes_47 rfl (show (4 : Nat) < 5 from by decide) ⟨by omega, by omega⟩ (ls2 := [some (ga W), some (gi i), some (gi r), some (gi n), some (gi (b + 1))]) rfl ?_
            refine gX_goto (tgt := 5) dX10_votes_50 (by decide) ?_
            have ek : (10 - b).toNat = (10 - (b + 1)).toNat + 1 := by omega
            have e1 : vtF rd ba se i r (10 - b).toNat b n = vtF rd ba se i r (10 - (b + 1)).toNat (b + 1) (n) := by
              rw [ek]
              show vtF rd ba se i r _ _ (if _ then _ else _) = _
              rw [if_neg (by rintro ⟨z1 | z1, z2⟩ <;> first | omega | (rw [b2i_0 (b := inB se b) (by assumption)] at z1; exact absurd z1 (by decide)))]
            rw [e1] at hq2
            exact ih (b + 1) _ _ _ (by omega) (by omega) (by omega) (by omega) (by omega) hq2
          · refine gX_iinc dX10_votes_44 rfl (show (3 : Nat) < 5 from by decide) ⟨by omega, by omega⟩ (ls2 := [some (ga W), some (gi i), some (gi r), some (gi (n + 1)), some (gi b)]) rfl ?_
            refine gX_iinc dX10_votes_47 rfl (show (4 : Nat) < 5 from by decide) ⟨by omega, by omega⟩ (ls2 := [some (ga W), some (gi i), some (gi r), some (gi (n + 1)), some (gi (b + 1))]) rfl ?_
            refine gX_goto (tgt := 5) dX10_votes_50 (by decide) ?_
            have ek : (10 - b).toNat = (10 - (b + 1)).toNat + 1 := by omega
            have e1 : vtF rd ba se i r (10 - b).toNat b n = vtF rd ba se i r (10 - (b + 1)).toNat (b + 1) (n + 1) := by
              rw [ek]
              show vtF rd ba se i r _ _ (if _ then _ else _) = _
              rw [if_pos ⟨by first | exact Or.inl (by omega) | exact Or.inr (b2i_1 (by assumption)), by omega⟩]
            rw [e1] at hq2
            exact ih (b + 1) _ _ _ (by omega) (by omega) (by omega) (by omega) (by omega) hq2
        · refine gX_aloadn dX10_votes_21 rfl ?_
          refine gX_gI 4 dX10_votes_22 fdX10_30 rfl (Or.inl rfl) hW.1 ?_
          rw [hw.2.2.1]
          refine gX_iload dX10_votes_25 rfl ?_
          refine gX_stat (J := iX11_isIn) (av := [gi se, gi b]) (st := []) dX10_votes_27 lkX10_47 kX11_isIn sX11_isIn (gFit_m (by decide)) rfl (Nat.le_of_ble_eq_true rfl) (Nat.zero_le _) (Nat.zero_le _) rfl ?_
          refine c_isIn ?_
          show gX l E _ 30 [some (ga W), some (gi i), some (gi r), some (gi n), some (gi b)] [gi (b2i (inB se b))] (K, R, V) _ _
          refine gX_ifeq (tgt := 47) dX10_votes_30 (by decide) (fun w4 => ?_) (fun w4 => ?_)
          · refine gX_iinc dX10_votes_47 rfl (show (4 : Nat) < 5 from by decide) ⟨by omega, by omega⟩ (ls2 := [some (ga W), some (gi i), some (gi r), some (gi n), some (gi (b + 1))]) rfl ?_
            refine gX_goto (tgt := 5) dX10_votes_50 (by decide) ?_
            have ek : (10 - b).toNat = (10 - (b + 1)).toNat + 1 := by omega
            have e1 : vtF rd ba se i r (10 - b).toNat b n = vtF rd ba se i r (10 - (b + 1)).toNat (b + 1) (n) := by
              rw [ek]
              show vtF rd ba se i r _ _ (if _ then _ else _) = _
              rw [if_neg (by rintro ⟨z1 | z1, z2⟩ <;> first | omega | (rw [b2i_0 (b := inB se b) (by assumption)] at z1; exact absurd z1 (by decide)))]
            rw [e1] at hq2
            exact ih (b + 1) _ _ _ (by omega) (by omega) (by omega) (by omega) (by omega) hq2
          · refine gX_aloadn dX10_votes_33 rfl ?_
            refine gX_iload dX10_votes_34 rfl ?_
            refine gX_iloadn dX10_votes_36 rfl ?_
            refine gX_virt (J := iX10_heard) (av := [gi b, gi i]) (a := W) (st := []) dX10_votes_37 lkX10_51 kX10_heard vX10_heard (gFit_m (by decide)) hW.1 rfl rfl (Nat.le_of_ble_eq_true rfl) (Nat.zero_le _) (Nat.zero_le _) rfl ?_
            refine c_heard hW hw ⟨by omega, by omega, hi⟩ ?_
            show gX l E _ 40 [some (ga W), some (gi i), some (gi r), some (gi n), some (gi b)] [gi (hrd rd b i)] (K, R, V) _ _
            refine gX_iloadn dX10_votes_40 rfl ?_
            refine gX_icmpne (tgt := 47) dX10_votes_41 (by decide) (fun w5 => ?_) (fun w5 => ?_)
            · refine gX_iinc dX10_votes_47 rfl (show (4 : Nat) < 5 from by decide) ⟨by omega, by omega⟩ (ls2 := [some (ga W), some (gi i), some (gi r), some (gi n), some (gi (b + 1))]) rfl ?_
              refine gX_goto (tgt := 5) dX10_votes_50 (by decide) ?_
              have ek : (10 - b).toNat = (10 - (b + 1)).toNat + 1 := by omega
              have e1 : vtF rd ba se i r (10 - b).toNat b n = vtF rd ba se i r (10 - (b + 1)).toNat (b + 1) (n) := by
                rw [ek]
                show vtF rd ba se i r _ _ (if _ then _ else _) = _
                rw [if_neg (by rintro ⟨z1 | z1, z2⟩ <;> first | omega | (rw [b2i_0 (b := inB se b) (by assumption)] at z1; exact absurd z1 (by decide)))]
              rw [e1] at hq2
              exact ih (b + 1) _ _ _ (by omega) (by omega) (by omega) (by omega) (by omega) hq2
            · refine gX_iinc dX10_votes_44 rfl (show (3 : Nat) < 5 from by decide) ⟨by omega, by omega⟩ (ls2 := [some (ga W), some (gi i), some (gi r), some (gi (n + 1)), some (gi b)]) rfl ?_
              refine gX_iinc dX10_votes_47 rfl (show (4 : Nat) < 5 from by decide) ⟨by omega, by omega⟩ (ls2 := [some (ga W), some (gi i), some (gi r), some (gi (n + 1)), some (gi (b + 1))]) rfl ?_
              refine gX_goto (tgt := 5) dX10_votes_50 (by decide) ?_
              have ek : (10 - b).toNat = (10 - (b + 1)).toNat + 1 := by omega
              have e1 : vtF rd ba se i r (10 - b).toNat b n = vtF rd ba se i r (10 - (b + 1)).toNat (b + 1) (n + 1) := by
                rw [ek]
                show vtF rd ba se i r _ _ (if _ then _ else _) = _
                rw [if_pos ⟨by first | exact Or.inl (by omega) | exact Or.inr (b2i_1 (by assumption)), by omega⟩]
              rw [e1] at hq2
              exact ih (b + 1) _ _ _ (by omega) (by omega) (by omega) (by omega) (by omega) hq2
  refine gX_iconst dX10_votes_0 ⟨by decide, by decide⟩ ?_
  refine gX_istoren dX10_votes_1 (show (3 : Nat) < 5 from by decide) (ls2 := [some (ga W), some (gi i), some (gi r), some (gi 0), none]) rfl ?_
  refine gX_iconst dX10_votes_2 ⟨by decide, by decide⟩ ?_
  refine gX_istore dX10_votes_3 (show (4 : Nat) < 5 from by decide) (ls2 := [some (ga W), some (gi i), some (gi r), some (gi 0), some (gi 0)]) rfl ?_
  exact lp 11 0 0 _ _ (by omega) (by omega) (by omega) (by omega) (by omega) hQ
set_option maxRecDepth 4000 in
theorem c_nextReading {i a : Int} (hW : wtK K R W) (hw : wtIs V W rd ba se pl) (hi : 0 ≤ i ∧ i < 40) (hQ : Q (some (gi (nrd rd se i a))) (K, R, V)) : gC l E (d + 3) iX10_nextReading [ga W, gi i, gi a] (K, R, V) Q := by
  refine gC_of kX10_nextReading (ls := [some (ga W), some (gi i), some (gi a), none, none]) rfl (Nat.le_of_ble_eq_true rfl) ?_
  have lp : ∀ (jj : Nat) (b : Int) (n : Int) (bc bs : Nat), (10 : Int) - b < (jj : Int) → 0 ≤ b → b ≤ 10 → (Q (some (gi (nrF rd se i a (10 - b).toNat b n))) (K, R, V)) → gX l E (gFm E (d + 3) iX10_nextReading Q) 6 [some (ga W), some (gi i), some (gi a), some (gi n), some (gi b)] [] (K, R, V) bc bs := by
    intro jj
    induction jj with
    | zero =>
      intro b n bc bs hj q0 q1 hq2
      exfalso; omega
    | succ jj ih =>
      intro b n bc bs hj q0 q1 hq2
      refine gX_iload dX10_nextReading_6 rfl ?_
      refine gX_bipush dX10_nextReading_8 (by decide) ⟨by decide, by decide⟩ ?_
      refine gX_icmpge (tgt := 54) dX10_nextReading_10 (by decide) (fun w1 => ?_) (fun w1 => ?_)
      · refine gX_iloadn dX10_nextReading_54 rfl ?_
        refine gX_iret dX10_nextReading_55 (Or.inl rfl) ?_
        have ei : (10 - b).toNat = 0 := by omega
        rw [ei] at hq2
        exact hq2
      · refine gX_aloadn dX10_nextReading_13 rfl ?_
        refine gX_gI 4 dX10_nextReading_14 fdX10_30 rfl (Or.inl rfl) hW.1 ?_
        rw [hw.2.2.1]
        refine gX_iload dX10_nextReading_17 rfl ?_
        refine gX_stat (J := iX11_isIn) (av := [gi se, gi b]) (st := []) dX10_nextReading_19 lkX10_47 kX11_isIn sX11_isIn (gFit_m (by decide)) rfl (Nat.le_of_ble_eq_true rfl) (Nat.zero_le _) (Nat.zero_le _) rfl ?_
        refine c_isIn ?_
        show gX l E _ 22 [some (ga W), some (gi i), some (gi a), some (gi n), some (gi b)] [gi (b2i (inB se b))] (K, R, V) _ _
        refine gX_ifeq (tgt := 48) dX10_nextReading_22 (by decide) (fun w2 => ?_) (fun w2 => ?_)
        · refine gX_iinc dX10_nextReading_48 rfl (show (4 : Nat) < 5 from by decide) ⟨by omega, by omega⟩ (ls2 := [some (ga W), some (gi i), some (gi a), some (gi n), some (gi (b + 1))]) rfl ?_
          refine gX_goto (tgt := 6) dX10_nextReading_51 (by decide) ?_
          have ek : (10 - b).toNat = (10 - (b + 1)).toNat + 1 := by omega
          have e1 : nrF rd se i a (10 - b).toNat b n = nrF rd se i a (10 - (b + 1)).toNat (b + 1) (n) := by
            rw [ek]
            show nrF rd se i a _ _ (if _ then _ else _) = _
            rw [if_neg (by rintro ⟨z1, z2⟩; first | omega | (rw [b2i_0 (b := inB se b) (by assumption)] at z1; exact absurd z1 (by decide)))]
          rw [e1] at hq2
          exact ih (b + 1) _ _ _ (by omega) (by omega) (by omega) hq2
        · refine gX_aloadn dX10_nextReading_25 rfl ?_
          refine gX_iload dX10_nextReading_26 rfl ?_
          refine gX_iloadn dX10_nextReading_28 rfl ?_
          refine gX_virt (J := iX10_heard) (av := [gi b, gi i]) (a := W) (st := []) dX10_nextReading_29 lkX10_51 kX10_heard vX10_heard (gFit_m (by decide)) hW.1 rfl rfl (Nat.le_of_ble_eq_true rfl) (Nat.zero_le _) (Nat.zero_le _) rfl ?_
          refine c_heard hW hw ⟨by omega, by omega, hi⟩ ?_
          show gX l E _ 32 [some (ga W), some (gi i), some (gi a), some (gi n), some (gi b)] [gi (hrd rd b i)] (K, R, V) _ _
          refine gX_iloadn dX10_nextReading_32 rfl ?_
          refine gX_icmple (tgt := 48) dX10_nextReading_33 (by decide) (fun w3 => ?_) (fun w3 => ?_)
          · refine gX_iinc dX10_nextReading_48 rfl (show (4 : Nat) < 5 from by decide) ⟨by omega, by omega⟩ (ls2 := [some (ga W), some (gi i), some (gi a), some (gi n), some (gi (b + 1))]) rfl ?_
            refine gX_goto (tgt := 6) dX10_nextReading_51 (by decide) ?_
            have ek : (10 - b).toNat = (10 - (b + 1)).toNat + 1 := by omega
            have e1 : nrF rd se i a (10 - b).toNat b n = nrF rd se i a (10 - (b + 1)).toNat (b + 1) (n) := by
              rw [ek]
              show nrF rd se i a _ _ (if _ then _ else _) = _
              rw [if_neg (by rintro ⟨z1, z2⟩; first | omega | (rw [b2i_0 (b := inB se b) (by assumption)] at z1; exact absurd z1 (by decide)))]
            rw [e1] at hq2
            exact ih (b + 1) _ _ _ (by omega) (by omega) (by omega) hq2
          · refine gX_iloadn dX10_nextReading_36 rfl ?_
            refine gX_aloadn dX10_nextReading_37 rfl ?_
            refine gX_iload dX10_nextReading_38 rfl ?_
            refine gX_iloadn dX10_nextReading_40 rfl ?_
            refine gX_virt (J := iX10_heard) (av := [gi b, gi i]) (a := W) (st := [gi n]) dX10_nextReading_41 lkX10_51 kX10_heard vX10_heard (gFit_m (by decide)) hW.1 rfl rfl (Nat.le_of_ble_eq_true rfl) (Nat.zero_le _) (Nat.zero_le _) rfl ?_
            refine c_heard hW hw ⟨by omega, by omega, hi⟩ ?_
            show gX l E _ 44 [some (ga W), some (gi i), some (gi a), some (gi n), some (gi b)] [gi (hrd rd b i), gi n] (K, R, V) _ _
            refine gX_mmin dX10_nextReading_44 lkX10_61 ⟨Nat.le_add_left _ _, Nat.le_add_left _ _⟩ (Nat.le_of_ble_eq_true rfl) ?_
            refine gX_istoren dX10_nextReading_47 (show (3 : Nat) < 5 from by decide) (ls2 := [some (ga W), some (gi i), some (gi a), some (gi (min n (hrd rd b i))), some (gi b)]) rfl ?_
            refine gX_iinc dX10_nextReading_48 rfl (show (4 : Nat) < 5 from by decide) ⟨by omega, by omega⟩ (ls2 := [some (ga W), some (gi i), some (gi a), some (gi (min n (hrd rd b i))), some (gi (b + 1))]) rfl ?_
            refine gX_goto (tgt := 6) dX10_nextReading_51 (by decide) ?_
            have ek : (10 - b).toNat = (10 - (b + 1)).toNat + 1 := by omega
            have e1 : nrF rd se i a (10 - b).toNat b n = nrF rd se i a (10 - (b + 1)).toNat (b + 1) (min n (hrd rd b i)) := by
              rw [ek]
              show nrF rd se i a _ _ (if _ then _ else _) = _
              rw [if_pos ⟨b2i_1 (by assumption), by omega⟩]
            rw [e1] at hq2
            exact ih (b + 1) _ _ _ (by omega) (by omega) (by omega) hq2
  refine gX_bipush dX10_nextReading_0 (by decide) ⟨by decide, by decide⟩ ?_
  refine gX_istoren dX10_nextReading_2 (show (3 : Nat) < 5 from by decide) (ls2 := [some (ga W), some (gi i), some (gi a), some (gi 64), none]) rfl ?_
  refine gX_iconst dX10_nextReading_3 ⟨by decide, by decide⟩ ?_
  refine gX_istore dX10_nextReading_4 (show (4 : Nat) < 5 from by decide) (ls2 := [some (ga W), some (gi i), some (gi a), some (gi 64), some (gi 0)]) rfl ?_
  exact lp 11 0 64 _ _ (by omega) (by omega) (by omega) hQ
set_option maxRecDepth 4000 in
theorem c_membersOf {i r : Int} (hW : wtK K R W) (hw : wtIs V W rd ba se pl) (hi : 0 ≤ i ∧ i < 40) (hQ : Q (some (gi (mbs rd se i r))) (K, R, V)) : gC l E (d + 3) iX10_membersOf [ga W, gi i, gi r] (K, R, V) Q := by
  refine gC_of kX10_membersOf (ls := [some (ga W), some (gi i), some (gi r), none, none]) rfl (Nat.le_of_ble_eq_true rfl) ?_
  have lp : ∀ (jj : Nat) (b : Int) (n : Int) (bc bs : Nat), (10 : Int) - b < (jj : Int) → 0 ≤ b → b ≤ 10 → (Q (some (gi (mbF rd se i r (10 - b).toNat b n))) (K, R, V)) → gX l E (gFm E (d + 3) iX10_membersOf Q) 5 [some (ga W), some (gi i), some (gi r), some (gi n), some (gi b)] [] (K, R, V) bc bs := by
    intro jj
    induction jj with
    | zero =>
      intro b n bc bs hj q0 q1 hq2
      exfalso; omega
    | succ jj ih =>
      intro b n bc bs hj q0 q1 hq2
      refine gX_iload dX10_membersOf_5 rfl ?_
      refine gX_bipush dX10_membersOf_7 (by decide) ⟨by decide, by decide⟩ ?_
      refine gX_icmpge (tgt := 48) dX10_membersOf_9 (by decide) (fun w1 => ?_) (fun w1 => ?_)
      · refine gX_iloadn dX10_membersOf_48 rfl ?_
        refine gX_iret dX10_membersOf_49 (Or.inl rfl) ?_
        have ei : (10 - b).toNat = 0 := by omega
        rw [ei] at hq2
        exact hq2
      · refine gX_aloadn dX10_membersOf_12 rfl ?_
        refine gX_gI 4 dX10_membersOf_13 fdX10_30 rfl (Or.inl rfl) hW.1 ?_
        rw [hw.2.2.1]
        refine gX_iload dX10_membersOf_16 rfl ?_
        refine gX_stat (J := iX11_isIn) (av := [gi se, gi b]) (st := []) dX10_membersOf_18 lkX10_47 kX11_isIn sX11_isIn (gFit_m (by decide)) rfl (Nat.le_of_ble_eq_true rfl) (Nat.zero_le _) (Nat.zero_le _) rfl ?_
        refine c_isIn ?_
        show gX l E _ 21 [some (ga W), some (gi i), some (gi r), some (gi n), some (gi b)] [gi (b2i (inB se b))] (K, R, V) _ _
        refine gX_ifeq (tgt := 42) dX10_membersOf_21 (by decide) (fun w2 => ?_) (fun w2 => ?_)
        · refine gX_iinc dX10_membersOf_42 rfl (show (4 : Nat) < 5 from by decide) ⟨by omega, by omega⟩ (ls2 := [some (ga W), some (gi i), some (gi r), some (gi n), some (gi (b + 1))]) rfl ?_
          refine gX_goto (tgt := 5) dX10_membersOf_45 (by decide) ?_
          have ek : (10 - b).toNat = (10 - (b + 1)).toNat + 1 := by omega
          have e1 : mbF rd se i r (10 - b).toNat b n = mbF rd se i r (10 - (b + 1)).toNat (b + 1) (n) := by
            rw [ek]
            show mbF rd se i r _ _ (if _ then _ else _) = _
            rw [if_neg (by rintro ⟨z1, z2⟩; first | omega | (rw [b2i_0 (b := inB se b) (by assumption)] at z1; exact absurd z1 (by decide)))]
          rw [e1] at hq2
          exact ih (b + 1) _ _ _ (by omega) (by omega) (by omega) hq2
        · refine gX_aloadn dX10_membersOf_24 rfl ?_
          refine gX_iload dX10_membersOf_25 rfl ?_
          refine gX_iloadn dX10_membersOf_27 rfl ?_
          refine gX_virt (J := iX10_heard) (av := [gi b, gi i]) (a := W) (st := []) dX10_membersOf_28 lkX10_51 kX10_heard vX10_heard (gFit_m (by decide)) hW.1 rfl rfl (Nat.le_of_ble_eq_true rfl) (Nat.zero_le _) (Nat.zero_le _) rfl ?_
          refine c_heard hW hw ⟨by omega, by omega, hi⟩ ?_
          show gX l E _ 31 [some (ga W), some (gi i), some (gi r), some (gi n), some (gi b)] [gi (hrd rd b i)] (K, R, V) _ _
          refine gX_iloadn dX10_membersOf_31 rfl ?_
          refine gX_icmpne (tgt := 42) dX10_membersOf_32 (by decide) (fun w3 => ?_) (fun w3 => ?_)
          · refine gX_iinc dX10_membersOf_42 rfl (show (4 : Nat) < 5 from by decide) ⟨by omega, by omega⟩ (ls2 := [some (ga W), some (gi i), some (gi r), some (gi n), some (gi (b + 1))]) rfl ?_
            refine gX_goto (tgt := 5) dX10_membersOf_45 (by decide) ?_
            have ek : (10 - b).toNat = (10 - (b + 1)).toNat + 1 := by omega
            have e1 : mbF rd se i r (10 - b).toNat b n = mbF rd se i r (10 - (b + 1)).toNat (b + 1) (n) := by
              rw [ek]
              show mbF rd se i r _ _ (if _ then _ else _) = _
              rw [if_neg (by rintro ⟨z1, z2⟩; first | omega | (rw [b2i_0 (b := inB se b) (by assumption)] at z1; exact absurd z1 (by decide)))]
            rw [e1] at hq2
            exact ih (b + 1) _ _ _ (by omega) (by omega) (by omega) hq2
          · refine gX_iloadn dX10_membersOf_35 rfl ?_
            refine gX_iconst dX10_membersOf_36 ⟨by decide, by decide⟩ ?_
            refine gX_iload dX10_membersOf_37 rfl ?_
            refine gX_ishl dX10_membersOf_39 ?_
            refine gX_ior dX10_membersOf_40 ?_
            refine gX_istoren dX10_membersOf_41 (show (3 : Nat) < 5 from by decide) (ls2 := [some (ga W), some (gi i), some (gi r), some (gi (gor n (gshl 1 b))), some (gi b)]) rfl ?_
            refine gX_iinc dX10_membersOf_42 rfl (show (4 : Nat) < 5 from by decide) ⟨by omega, by omega⟩ (ls2 := [some (ga W), some (gi i), some (gi r), some (gi (gor n (gshl 1 b))), some (gi (b + 1))]) rfl ?_
            refine gX_goto (tgt := 5) dX10_membersOf_45 (by decide) ?_
            have ek : (10 - b).toNat = (10 - (b + 1)).toNat + 1 := by omega
            have e1 : mbF rd se i r (10 - b).toNat b n = mbF rd se i r (10 - (b + 1)).toNat (b + 1) (gor n (gshl 1 b)) := by
              rw [ek]
              show mbF rd se i r _ _ (if _ then _ else _) = _
              rw [if_pos ⟨b2i_1 (by assumption), by omega⟩]
            rw [e1] at hq2
            exact ih (b + 1) _ _ _ (by omega) (by omega) (by omega) hq2
  refine gX_iconst dX10_membersOf_0 ⟨by decide, by decide⟩ ?_
  refine gX_istoren dX10_membersOf_1 (show (3 : Nat) < 5 from by decide) (ls2 := [some (ga W), some (gi i), some (gi r), some (gi 0), none]) rfl ?_
  refine gX_iconst dX10_membersOf_2 ⟨by decide, by decide⟩ ?_
  refine gX_istore dX10_membersOf_3 (show (4 : Nat) < 5 from by decide) (ls2 := [some (ga W), some (gi i), some (gi r), some (gi 0), some (gi 0)]) rfl ?_
  exact lp 11 0 0 _ _ (by omega) (by omega) (by omega) hQ
set_option maxRecDepth 4000 in
theorem c_mostAt {i : Int} (hW : wtK K R W) (hw : wtIs V W rd ba se pl) (hi : 0 ≤ i ∧ i < 40) (hba : 0 ≤ ba ∧ ba < 10) (hQ : Q (some (gi (moA rd ba se i))) (K, R, V)) : gC l E (d + 4) iX10_mostAt [ga W, gi i] (K, R, V) Q := by
  refine gC_of kX10_mostAt (ls := [some (ga W), some (gi i), none, none, none, none, none]) rfl (Nat.le_of_ble_eq_true rfl) ?_
  have lp : ∀ (jj : Nat) (k : Int) (r : Int) (w : Int) (v : Int) (j6 : Option gV) (bc bs : Nat), (10 : Int) - k < (jj : Int) → 0 ≤ k → k ≤ 10 → (Q (some (gi (moF rd ba se i (10 - k).toNat r w v))) (K, R, V)) → gX l E (gFm E (d + 4) iX10_mostAt Q) 29 [some (ga W), some (gi i), some (gi w), some (gi v), some (gi r), some (gi k), j6] [] (K, R, V) bc bs := by
    intro jj
    induction jj with
    | zero =>
      intro k r w v j6 bc bs hj q0 q1 hq2
      exfalso; omega
    | succ jj ih =>
      intro k r w v j6 bc bs hj q0 q1 hq2
      refine gX_iload dX10_mostAt_29 rfl ?_
      refine gX_bipush dX10_mostAt_31 (by decide) ⟨by decide, by decide⟩ ?_
      refine gX_icmpge (tgt := 79) dX10_mostAt_33 (by decide) (fun w1 => ?_) (fun w1 => ?_)
      · refine gX_iloadn dX10_mostAt_79 rfl ?_
        refine gX_iret dX10_mostAt_80 (Or.inl rfl) ?_
        by_cases ck : k < 10
        · have ek : (10 - k).toNat = (10 - (k + 1)).toNat + 1 := by omega
          have e1 : moF rd ba se i (10 - k).toNat r w v = w := by
            rw [ek]
            exact if_neg (by omega)
          rw [e1] at hq2
          exact hq2
        · have ei : (10 - k).toNat = 0 := by omega
          rw [ei] at hq2
          exact hq2
      · refine gX_iload dX10_mostAt_36 rfl ?_
        refine gX_bipush dX10_mostAt_38 (by decide) ⟨by decide, by decide⟩ ?_
        refine gX_icmpge (tgt := 79) dX10_mostAt_40 (by decide) (fun w2 => ?_) (fun w2 => ?_)
        · refine gX_iloadn dX10_mostAt_79 rfl ?_
          refine gX_iret dX10_mostAt_80 (Or.inl rfl) ?_
          by_cases ck : k < 10
          · have ek : (10 - k).toNat = (10 - (k + 1)).toNat + 1 := by omega
            have e1 : moF rd ba se i (10 - k).toNat r w v = w := by
              rw [ek]
              exact if_neg (by omega)
            rw [e1] at hq2
            exact hq2
          · have ei : (10 - k).toNat = 0 := by omega
            rw [ei] at hq2
            exact hq2
        · refine gX_aloadn dX10_mostAt_43 rfl ?_
          refine gX_iloadn dX10_mostAt_44 rfl ?_
          refine gX_iload dX10_mostAt_45 rfl ?_
          refine gX_virt (J := iX10_votes) (av := [gi i, gi r]) (a := W) (st := []) dX10_mostAt_47 lkX10_55 kX10_votes vX10_votes (gFit_m (by decide)) hW.1 rfl rfl (Nat.le_of_ble_eq_true rfl) (Nat.zero_le _) (Nat.zero_le _) rfl ?_
          refine c_votes hW hw hi ?_
          show gX l E _ 50 [some (ga W), some (gi i), some (gi w), some (gi v), some (gi r), some (gi k), j6] [gi (vts rd ba se i r)] (K, R, V) _ _
          refine gX_istore dX10_mostAt_50 (show (6 : Nat) < 7 from by decide) (ls2 := [some (ga W), some (gi i), some (gi w), some (gi v), some (gi r), some (gi k), some (gi (vts rd ba se i r))]) rfl ?_
          refine gX_iload dX10_mostAt_52 rfl ?_
          refine gX_iloadn dX10_mostAt_54 rfl ?_
          refine gX_icmple (tgt := 64) dX10_mostAt_55 (by decide) (fun w3 => ?_) (fun w3 => ?_)
          · refine gX_aloadn dX10_mostAt_64 rfl ?_
            refine gX_iloadn dX10_mostAt_65 rfl ?_
            refine gX_iload dX10_mostAt_66 rfl ?_
            refine gX_virt (J := iX10_nextReading) (av := [gi i, gi r]) (a := W) (st := []) dX10_mostAt_68 lkX10_58 kX10_nextReading vX10_nextReading (gFit_m (by decide)) hW.1 rfl rfl (Nat.le_of_ble_eq_true rfl) (Nat.zero_le _) (Nat.zero_le _) rfl ?_
            refine c_nextReading hW hw hi ?_
            show gX l E _ 71 [some (ga W), some (gi i), some (gi w), some (gi v), some (gi r), some (gi k), some (gi (vts rd ba se i r))] [gi (nrd rd se i r)] (K, R, V) _ _
            refine gX_istore dX10_mostAt_71 (show (4 : Nat) < 7 from by decide) (ls2 := [some (ga W), some (gi i), some (gi w), some (gi v), some (gi (nrd rd se i r)), some (gi k), some (gi (vts rd ba se i r))]) rfl ?_
            refine gX_iinc dX10_mostAt_73 rfl (show (5 : Nat) < 7 from by decide) ⟨by omega, by omega⟩ (ls2 := [some (ga W), some (gi i), some (gi w), some (gi v), some (gi (nrd rd se i r)), some (gi (k + 1)), some (gi (vts rd ba se i r))]) rfl ?_
            refine gX_goto (tgt := 29) dX10_mostAt_76 (by decide) ?_
            have ek : (10 - k).toNat = (10 - (k + 1)).toNat + 1 := by omega
            have e1 : moF rd ba se i (10 - k).toNat r w v = moF rd ba se i (10 - (k + 1)).toNat (nrd rd se i r) (w) (v) := by
              rw [ek]
              show (if _ then moF rd ba se i _ _ (if _ then _ else _) (if _ then _ else _) else _) = _
              rw [if_pos (by omega), if_neg (by omega), if_neg (by omega)]
            rw [e1] at hq2
            exact ih (k + 1) _ _ _ _ _ _ (by omega) (by omega) (by omega) hq2
          · refine gX_iload dX10_mostAt_58 rfl ?_
            refine gX_istoren dX10_mostAt_60 (show (2 : Nat) < 7 from by decide) (ls2 := [some (ga W), some (gi i), some (gi r), some (gi v), some (gi r), some (gi k), some (gi (vts rd ba se i r))]) rfl ?_
            refine gX_iload dX10_mostAt_61 rfl ?_
            refine gX_istoren dX10_mostAt_63 (show (3 : Nat) < 7 from by decide) (ls2 := [some (ga W), some (gi i), some (gi r), some (gi (vts rd ba se i r)), some (gi r), some (gi k), some (gi (vts rd ba se i r))]) rfl ?_
            refine gX_aloadn dX10_mostAt_64 rfl ?_
            refine gX_iloadn dX10_mostAt_65 rfl ?_
            refine gX_iload dX10_mostAt_66 rfl ?_
            refine gX_virt (J := iX10_nextReading) (av := [gi i, gi r]) (a := W) (st := []) dX10_mostAt_68 lkX10_58 kX10_nextReading vX10_nextReading (gFit_m (by decide)) hW.1 rfl rfl (Nat.le_of_ble_eq_true rfl) (Nat.zero_le _) (Nat.zero_le _) rfl ?_
            refine c_nextReading hW hw hi ?_
            show gX l E _ 71 [some (ga W), some (gi i), some (gi r), some (gi (vts rd ba se i r)), some (gi r), some (gi k), some (gi (vts rd ba se i r))] [gi (nrd rd se i r)] (K, R, V) _ _
            refine gX_istore dX10_mostAt_71 (show (4 : Nat) < 7 from by decide) (ls2 := [some (ga W), some (gi i), some (gi r), some (gi (vts rd ba se i r)), some (gi (nrd rd se i r)), some (gi k), some (gi (vts rd ba se i r))]) rfl ?_
            refine gX_iinc dX10_mostAt_73 rfl (show (5 : Nat) < 7 from by decide) ⟨by omega, by omega⟩ (ls2 := [some (ga W), some (gi i), some (gi r), some (gi (vts rd ba se i r)), some (gi (nrd rd se i r)), some (gi (k + 1)), some (gi (vts rd ba se i r))]) rfl ?_
            refine gX_goto (tgt := 29) dX10_mostAt_76 (by decide) ?_
            have ek : (10 - k).toNat = (10 - (k + 1)).toNat + 1 := by omega
            have e1 : moF rd ba se i (10 - k).toNat r w v = moF rd ba se i (10 - (k + 1)).toNat (nrd rd se i r) (r) ((vts rd ba se i r)) := by
              rw [ek]
              show (if _ then moF rd ba se i _ _ (if _ then _ else _) (if _ then _ else _) else _) = _
              rw [if_pos (by omega), if_pos (by omega), if_pos (by omega)]
            rw [e1] at hq2
            exact ih (k + 1) _ _ _ _ _ _ (by omega) (by omega) (by omega) hq2
  refine gX_aloadn dX10_mostAt_0 rfl ?_
  refine gX_aloadn dX10_mostAt_1 rfl ?_
  refine gX_gI 3 dX10_mostAt_2 fdX10_26 rfl (Or.inl rfl) hW.1 ?_
  rw [hw.2.1]
  refine gX_iloadn dX10_mostAt_5 rfl ?_
  refine gX_virt (J := iX10_heard) (av := [gi ba, gi i]) (a := W) (st := []) dX10_mostAt_6 lkX10_51 kX10_heard vX10_heard (gFit_m (by decide)) hW.1 rfl rfl (Nat.le_of_ble_eq_true rfl) (Nat.zero_le _) (Nat.zero_le _) rfl ?_
  refine c_heard hW hw ⟨by omega, by omega, hi⟩ ?_
  show gX l E _ 9 [some (ga W), some (gi i), none, none, none, none, none] [gi (hrd rd ba i)] (K, R, V) _ _
  refine gX_istoren dX10_mostAt_9 (show (2 : Nat) < 7 from by decide) (ls2 := [some (ga W), some (gi i), some (gi (hrd rd ba i)), none, none, none, none]) rfl ?_
  refine gX_aloadn dX10_mostAt_10 rfl ?_
  refine gX_iloadn dX10_mostAt_11 rfl ?_
  refine gX_iloadn dX10_mostAt_12 rfl ?_
  refine gX_virt (J := iX10_votes) (av := [gi i, gi (hrd rd ba i)]) (a := W) (st := []) dX10_mostAt_13 lkX10_55 kX10_votes vX10_votes (gFit_m (by decide)) hW.1 rfl rfl (Nat.le_of_ble_eq_true rfl) (Nat.zero_le _) (Nat.zero_le _) rfl ?_
  refine c_votes hW hw hi ?_
  show gX l E _ 16 [some (ga W), some (gi i), some (gi (hrd rd ba i)), none, none, none, none] [gi (vts rd ba se i (hrd rd ba i))] (K, R, V) _ _
  refine gX_istoren dX10_mostAt_16 (show (3 : Nat) < 7 from by decide) (ls2 := [some (ga W), some (gi i), some (gi (hrd rd ba i)), some (gi (vts rd ba se i (hrd rd ba i))), none, none, none]) rfl ?_
  refine gX_aloadn dX10_mostAt_17 rfl ?_
  refine gX_iloadn dX10_mostAt_18 rfl ?_
  refine gX_bipush dX10_mostAt_19 (by decide) ⟨by decide, by decide⟩ ?_
  refine gX_virt (J := iX10_nextReading) (av := [gi i, gi (-2)]) (a := W) (st := []) dX10_mostAt_21 lkX10_58 kX10_nextReading vX10_nextReading (gFit_m (by decide)) hW.1 rfl rfl (Nat.le_of_ble_eq_true rfl) (Nat.zero_le _) (Nat.zero_le _) rfl ?_
  refine c_nextReading hW hw hi ?_
  show gX l E _ 24 [some (ga W), some (gi i), some (gi (hrd rd ba i)), some (gi (vts rd ba se i (hrd rd ba i))), none, none, none] [gi (nrd rd se i (-2))] (K, R, V) _ _
  refine gX_istore dX10_mostAt_24 (show (4 : Nat) < 7 from by decide) (ls2 := [some (ga W), some (gi i), some (gi (hrd rd ba i)), some (gi (vts rd ba se i (hrd rd ba i))), some (gi (nrd rd se i (-2))), none, none]) rfl ?_
  refine gX_iconst dX10_mostAt_26 ⟨by decide, by decide⟩ ?_
  refine gX_istore dX10_mostAt_27 (show (5 : Nat) < 7 from by decide) (ls2 := [some (ga W), some (gi i), some (gi (hrd rd ba i)), some (gi (vts rd ba se i (hrd rd ba i))), some (gi (nrd rd se i (-2))), some (gi 0), none]) rfl ?_
  exact lp 11 0 _ _ _ none _ _ (by omega) (by omega) (by omega) hQ
set_option maxRecDepth 4000 in
theorem c_doClash {a b : Int} (hQ : Q (some (gi (b2i (cla a b)))) (K, R, V)) : gC l E (d + 1) iX10_doClash [gi a, gi b] (K, R, V) Q := by
  refine gC_of kX10_doClash (ls := [some (gi a), some (gi b)]) rfl (Nat.le_of_ble_eq_true rfl) ?_
  refine gX_iloadn dX10_doClash_0 rfl ?_
  refine gX_iloadn dX10_doClash_1 rfl ?_
  refine gX_iand dX10_doClash_2 ?_
  refine gX_ifeq (tgt := 26) dX10_doClash_3 (by decide) (fun w1 => ?_) (fun w1 => ?_)
  · refine gX_iconst dX10_doClash_26 ⟨by decide, by decide⟩ ?_
    refine gX_iret dX10_doClash_27 (Or.inr ⟨rfl, Or.inl rfl⟩) ?_
    have ec : cla a b = false := by unfold cla; simp only [decide_eq_true_eq, decide_eq_false_iff_not]; omega
    rw [ec] at hQ
    exact hQ
  · refine gX_iloadn dX10_doClash_6 rfl ?_
    refine gX_iloadn dX10_doClash_7 rfl ?_
    refine gX_iconst dX10_doClash_8 ⟨by decide, by decide⟩ ?_
    refine gX_ixor dX10_doClash_9 ?_
    refine gX_iand dX10_doClash_10 ?_
    refine gX_ifeq (tgt := 26) dX10_doClash_11 (by decide) (fun w2 => ?_) (fun w2 => ?_)
    · refine gX_iconst dX10_doClash_26 ⟨by decide, by decide⟩ ?_
      refine gX_iret dX10_doClash_27 (Or.inr ⟨rfl, Or.inl rfl⟩) ?_
      have ec : cla a b = false := by unfold cla; simp only [decide_eq_true_eq, decide_eq_false_iff_not]; omega
      rw [ec] at hQ
      exact hQ
    · refine gX_iloadn dX10_doClash_14 rfl ?_
      refine gX_iloadn dX10_doClash_15 rfl ?_
      refine gX_iconst dX10_doClash_16 ⟨by decide, by decide⟩ ?_
      refine gX_ixor dX10_doClash_17 ?_
      refine gX_iand dX10_doClash_18 ?_
      refine gX_ifeq (tgt := 26) dX10_doClash_19 (by decide) (fun w3 => ?_) (fun w3 => ?_)
      · refine gX_iconst dX10_doClash_26 ⟨by decide, by decide⟩ ?_
        refine gX_iret dX10_doClash_27 (Or.inr ⟨rfl, Or.inl rfl⟩) ?_
        have ec : cla a b = false := by unfold cla; simp only [decide_eq_true_eq, decide_eq_false_iff_not]; omega
        rw [ec] at hQ
        exact hQ
      · refine gX_iconst dX10_doClash_22 ⟨by decide, by decide⟩ ?_
        refine gX_goto (tgt := 27) dX10_doClash_23 (by decide) ?_
        refine gX_iret dX10_doClash_27 (Or.inr ⟨rfl, Or.inr rfl⟩) ?_
        have ec : cla a b = true := by unfold cla; simp only [decide_eq_true_eq, decide_eq_false_iff_not]; omega
        rw [ec] at hQ
        exact hQ
set_option maxRecDepth 4000 in
theorem c_isSound {a : Int} (hW : wtK K R W) (hg : rIs V (W + 3) 160 gr) (hQ : Q (some (gi (b2i (snd' gr a gr.length 0)))) (K, R, V)) : gC l E (d + 2) iX10_isSound [ga W, gi a] (K, R, V) Q := by
  refine gC_of kX10_isSound (ls := [some (ga W), some (gi a), none]) rfl (Nat.le_of_ble_eq_true rfl) ?_
  have hgl := hg.2.1
  have lp : ∀ (jj : Nat) (k : Int) (bc bs : Nat), (gr.length : Int) - k < (jj : Int) → 0 ≤ k → k ≤ gr.length → (Q (some (gi (b2i (snd' gr a (gr.length - k.toNat) k)))) (K, R, V)) → gX l E (gFm E (d + 2) iX10_isSound Q) 2 [some (ga W), some (gi a), some (gi k)] [] (K, R, V) bc bs := by
    intro jj
    induction jj with
    | zero =>
      intro k bc bs hj q0 q1 hq2
      exfalso; omega
    | succ jj ih =>
      intro k bc bs hj q0 q1 hq2
      refine gX_iloadn dX10_isSound_2 rfl ?_
      refine gX_aloadn dX10_isSound_3 rfl ?_
      refine gX_gR 1 dX10_isSound_4 fdX10_20 rfl rfl hW.1 hW.2.2.1 ?_
      refine gX_virt (J := iX6_length) (av := []) (a := (W + 3)) (st := [gi k]) dX10_isSound_7 lkX10_87 kX6_length vX6_length (gFit_m (by decide)) hW.2.2.2.2.2.1.1 rfl rfl (Nat.le_of_ble_eq_true rfl) (Nat.zero_le _) (Nat.zero_le _) rfl ?_
      refine q_Row_length hW.2.2.2.2.2.1 hg ?_
      show gX l E _ 10 [some (ga W), some (gi a), some (gi k)] [gi gr.length, gi k] (K, R, V) _ _
      refine gX_icmpge (tgt := 36) dX10_isSound_10 (by decide) (fun w1 => ?_) (fun w1 => ?_)
      · refine gX_iconst dX10_isSound_36 ⟨by decide, by decide⟩ ?_
        refine gX_iret dX10_isSound_37 (Or.inr ⟨rfl, Or.inr rfl⟩) ?_
        have ei : gr.length - k.toNat = 0 := by omega
        rw [ei] at hq2
        exact hq2
      · refine gX_iloadn dX10_isSound_13 rfl ?_
        refine gX_aloadn dX10_isSound_14 rfl ?_
        refine gX_gR 1 dX10_isSound_15 fdX10_20 rfl rfl hW.1 hW.2.2.1 ?_
        refine gX_iloadn dX10_isSound_18 rfl ?_
        refine gX_virt (J := iX6_at) (av := [gi k]) (a := (W + 3)) (st := [gi a]) dX10_isSound_19 lkX10_43 kX6_at vX6_at (gFit_m (by decide)) hW.2.2.2.2.2.1.1 rfl rfl (Nat.le_of_ble_eq_true rfl) (Nat.zero_le _) (Nat.zero_le _) rfl ?_
        refine q_Row_at hW.2.2.2.2.2.1 hg ?_
        show gX l E _ 22 [some (ga W), some (gi a), some (gi k)] [gi (lat gr k), gi a] (K, R, V) _ _
        refine gX_stat (J := iX10_doClash) (av := [gi a, gi (lat gr k)]) (st := []) dX10_isSound_22 lkX10_91 kX10_doClash sX10_doClash (gFit_m (by decide)) rfl (Nat.le_of_ble_eq_true rfl) (Nat.zero_le _) (Nat.zero_le _) rfl ?_
        refine c_doClash ?_
        show gX l E _ 25 [some (ga W), some (gi a), some (gi k)] [gi (b2i (cla a (lat gr k)))] (K, R, V) _ _
        refine gX_ifeq (tgt := 30) dX10_isSound_25 (by decide) (fun w2 => ?_) (fun w2 => ?_)
        · refine gX_iinc dX10_isSound_30 rfl (show (2 : Nat) < 3 from by decide) ⟨by omega, by omega⟩ (ls2 := [some (ga W), some (gi a), some (gi (k + 1))]) rfl ?_
          refine gX_goto (tgt := 2) dX10_isSound_33 (by decide) ?_
          have ek : gr.length - k.toNat = (gr.length - (k + 1).toNat) + 1 := by omega
          have e1 : snd' gr a (gr.length - k.toNat) k = snd' gr a (gr.length - (k + 1).toNat) (k + 1) := by
            rw [ek]
            show (if _ then _ else _) = _
            exact if_neg (by rw [b2i_0 (b := cla a (lat gr k)) (by assumption)]; decide)
          rw [e1] at hq2
          exact ih (k + 1) _ _ (by omega) (by omega) (by omega) hq2
        · refine gX_iconst dX10_isSound_28 ⟨by decide, by decide⟩ ?_
          refine gX_iret dX10_isSound_29 (Or.inr ⟨rfl, Or.inl rfl⟩) ?_
          have ek : gr.length - k.toNat = (gr.length - (k + 1).toNat) + 1 := by omega
          have e1 : snd' gr a (gr.length - k.toNat) k = false := by
            rw [ek]
            show (if _ then _ else _) = _
            exact if_pos (b2i_1 (by assumption))
          rw [e1] at hq2
          exact hq2
  refine gX_iconst dX10_isSound_0 ⟨by decide, by decide⟩ ?_
  refine gX_istoren dX10_isSound_1 (show (2 : Nat) < 3 from by decide) (ls2 := [some (ga W), some (gi a), some (gi 0)]) rfl ?_
  exact lp (gr.length + 1) 0 _ _ (by omega) (by omega) (by omega) hQ
end WIT
