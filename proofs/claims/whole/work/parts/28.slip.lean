/-! Alignment.isPutAt, hasSlipped; Book.explainersOf, stepsBetween. Written by wip/whole/tools/mk_slip.py. -/
def puA (xs ys so : List Int) (f : Int) : Nat → Int → Bool
  | 0, _ => true
  | n + 1, k => if lhas ys (f + k) = 1 ∧ lat ys (f + k) = lat xs k ∧ lat so (f + k) = -1 then puA xs ys so f n (k + 1) else false
def hsl (pa ys so : List Int) (q : gG) : Bool := (decide (lat pa q.2.2.1 ≠ -1) && puA q.2.2.2.2.2 ys so (lat pa q.2.2.1 - q.2.2.2.2.2.length) q.2.2.2.2.2.length 0) || (decide (lat pa q.2.2.2.1 ≠ -1) && puA q.2.2.2.2.2 ys so (lat pa q.2.2.2.1 + 1) q.2.2.2.2.2.length 0)
/-- a word's bit in a set -/
def exG (tx : List Int) (gs : List gG) (ws : Int) (q : gG) : Bool := decide (lml q = 1) && decide (q.2.2.2.2.2.length = 1) && decide (0 ≤ lat (rwL tx gs q.2.1) q.2.2.1 ∧ lat (rwL tx gs q.2.1) q.2.2.1 ≤ 63) && decide (0 ≤ lat q.2.2.2.2.2 0 ∧ lat q.2.2.2.2.2 0 ≤ 63) && decide (gland (glushr ws (lat (rwL tx gs q.2.1) q.2.2.1)) 1 = 1)
def exF (tx : List Int) (gs : List gG) (ws : Int) : Nat → Int → Int → Int
  | 0, _, s => s
  | n + 1, g, s => exF tx gs ws n (g + 1) (if exG tx gs ws (gq gs g) = true then glor s (glshl 1 (lat (gq gs g).2.2.2.2.2 0)) else s)
def expl (tx : List Int) (gs : List gG) (ws : Int) : Int := exF tx gs ws gs.length 0 0
def stF (tx : List Int) (gs : List gG) (v : Int) : Nat → Int → Int → Int → Int
  | 0, _, _, _ => -1
  | n + 1, k, seen, fro => if fro = 0 then -1 else if gland (glushr (gland (expl tx gs fro) (glxor seen (-1))) v) 1 = 1 then k else stF tx gs v n (k + 1) (glor seen (gland (expl tx gs fro) (glxor seen (-1)))) (gland (expl tx gs fro) (glxor seen (-1)))
def stps (tx : List Int) (gs : List gG) (w v : Int) : Int := stF tx gs v 64 1 0 (glshl 1 w)
section SLIP
variable {l : Launch} {E : gE} {d : Nat} {K : List gK} {R V : Int → Int → Int} {B al ra rb g : Int} {Q : gQ} {tx xs ys so pa : List Int} {gs : List gG} {q : gG} {n m : Nat}
set_option maxRecDepth 4000 in
theorem c_isPutAt {f : Int} (ha : gAl K R al) (hra : gRow K R ra n) (hn : n ≤ 40) (hrb : gRow K R rb m) (hx : rIs V ra n xs) (hy : rIs V rb m ys) (hso : rIs V (al + 4) 40 so) (hf : -1000 ≤ f ∧ f ≤ 1000) (hQ : Q (some (gi (b2i (puA xs ys so f xs.length 0)))) (K, R, V)) : gC l E (d + 2) iX0_isPutAt [ga al, gi f, ga ra, ga rb] (K, R, V) Q := by
  refine gC_of kX0_isPutAt (ls := [some (ga al), some (gi f), some (ga ra), some (ga rb), none]) rfl (Nat.le_of_ble_eq_true rfl) ?_
  have hxl := hx.2.1
  have lp : ∀ (jj : Nat) (k : Int) (bc bs : Nat), (xs.length : Int) - k < (jj : Int) → 0 ≤ k → k ≤ xs.length → (Q (some (gi (b2i (puA xs ys so f (xs.length - k.toNat) k)))) (K, R, V)) → gX l E (gFm E (d + 2) iX0_isPutAt Q) 3 [some (ga al), some (gi f), some (ga ra), some (ga rb), some (gi k)] [] (K, R, V) bc bs := by
    intro jj
    induction jj with
    | zero =>
      intro k bc bs hj q0 q1 hq2
      exfalso; omega
    | succ jj ih =>
      intro k bc bs hj q0 q1 hq2
      refine gX_iload dX0_isPutAt_3 rfl ?_
      refine gX_aloadn dX0_isPutAt_5 rfl ?_
      refine gX_virt (J := iX6_length) (av := []) (a := ra) (st := [gi k]) dX0_isPutAt_6 lkX0_35 kX6_length vX6_length (gFit_m (by decide)) hra.1 rfl rfl (Nat.le_of_ble_eq_true rfl) (Nat.zero_le _) (Nat.zero_le _) rfl ?_
      refine q_Row_length hra hx ?_
      show gX l E _ 9 [some (ga al), some (gi f), some (ga ra), some (ga rb), some (gi k)] [gi xs.length, gi k] (K, R, V) _ _
      refine gX_icmpge (tgt := 63) dX0_isPutAt_9 (by decide) (fun w1 => ?_) (fun w1 => ?_)
      · refine gX_iconst dX0_isPutAt_63 ⟨by decide, by decide⟩ ?_
        refine gX_iret dX0_isPutAt_64 (Or.inr ⟨rfl, Or.inr rfl⟩) ?_
        have ei : xs.length - k.toNat = 0 := by omega
        rw [ei] at hq2
        exact hq2
      · refine gX_aloadn dX0_isPutAt_12 rfl ?_
        refine gX_iloadn dX0_isPutAt_13 rfl ?_
        refine gX_iload dX0_isPutAt_14 rfl ?_
        refine gX_iadd dX0_isPutAt_16 ⟨by omega, by omega⟩ ?_
        refine gX_virt (J := iX6_has) (av := [gi (f + k)]) (a := rb) (st := []) dX0_isPutAt_17 lkX0_47 kX6_has vX6_has (gFit_m (by decide)) hrb.1 rfl rfl (Nat.le_of_ble_eq_true rfl) (Nat.zero_le _) (Nat.zero_le _) rfl ?_
        refine q_Row_has hrb hy ?_
        show gX l E _ 20 [some (ga al), some (gi f), some (ga ra), some (ga rb), some (gi k)] [gi (lhas ys (f + k))] (K, R, V) _ _
        have o1 := lhas_01 ys (f + k)
        refine gX_ifeq (tgt := 55) dX0_isPutAt_20 (by decide) (fun w2 => ?_) (fun w2 => ?_)
        · refine gX_iconst dX0_isPutAt_55 ⟨by decide, by decide⟩ ?_
          refine gX_iret dX0_isPutAt_56 (Or.inr ⟨rfl, Or.inl rfl⟩) ?_
          have ek : xs.length - k.toNat = (xs.length - (k + 1).toNat) + 1 := by omega
          have e1 : puA xs ys so f (xs.length - k.toNat) k = false := by
            rw [ek]
            show (if _ then _ else _) = _
            exact if_neg (by omega)
          rw [e1] at hq2
          exact hq2
        · refine gX_aloadn dX0_isPutAt_23 rfl ?_
          refine gX_iloadn dX0_isPutAt_24 rfl ?_
          refine gX_iload dX0_isPutAt_25 rfl ?_
          refine gX_iadd dX0_isPutAt_27 ⟨by omega, by omega⟩ ?_
          refine gX_virt (J := iX6_at) (av := [gi (f + k)]) (a := rb) (st := []) dX0_isPutAt_28 lkX0_43 kX6_at vX6_at (gFit_m (by decide)) hrb.1 rfl rfl (Nat.le_of_ble_eq_true rfl) (Nat.zero_le _) (Nat.zero_le _) rfl ?_
          refine q_Row_at hrb hy ?_
          show gX l E _ 31 [some (ga al), some (gi f), some (ga ra), some (ga rb), some (gi k)] [gi (lat ys (f + k))] (K, R, V) _ _
          refine gX_aloadn dX0_isPutAt_31 rfl ?_
          refine gX_iload dX0_isPutAt_32 rfl ?_
          refine gX_virt (J := iX6_at) (av := [gi k]) (a := ra) (st := [gi (lat ys (f + k))]) dX0_isPutAt_34 lkX0_43 kX6_at vX6_at (gFit_m (by decide)) hra.1 rfl rfl (Nat.le_of_ble_eq_true rfl) (Nat.zero_le _) (Nat.zero_le _) rfl ?_
          refine q_Row_at hra hx ?_
          show gX l E _ 37 [some (ga al), some (gi f), some (ga ra), some (ga rb), some (gi k)] [gi (lat xs k), gi (lat ys (f + k))] (K, R, V) _ _
          refine gX_icmpne (tgt := 55) dX0_isPutAt_37 (by decide) (fun w3 => ?_) (fun w3 => ?_)
          · refine gX_iconst dX0_isPutAt_55 ⟨by decide, by decide⟩ ?_
            refine gX_iret dX0_isPutAt_56 (Or.inr ⟨rfl, Or.inl rfl⟩) ?_
            have ek : xs.length - k.toNat = (xs.length - (k + 1).toNat) + 1 := by omega
            have e1 : puA xs ys so f (xs.length - k.toNat) k = false := by
              rw [ek]
              show (if _ then _ else _) = _
              exact if_neg (by omega)
            rw [e1] at hq2
            exact hq2
          · refine gX_aloadn dX0_isPutAt_40 rfl ?_
            refine gX_gR 2 dX0_isPutAt_41 fdX0_24 rfl rfl ha.1 ha.2.2.2.2.1 ?_
            refine gX_iloadn dX0_isPutAt_44 rfl ?_
            refine gX_iload dX0_isPutAt_45 rfl ?_
            refine gX_iadd dX0_isPutAt_47 ⟨by omega, by omega⟩ ?_
            refine gX_virt (J := iX6_at) (av := [gi (f + k)]) (a := (al + 4)) (st := []) dX0_isPutAt_48 lkX0_43 kX6_at vX6_at (gFit_m (by decide)) ha.2.2.2.2.2.2.1 rfl rfl (Nat.le_of_ble_eq_true rfl) (Nat.zero_le _) (Nat.zero_le _) rfl ?_
            refine q_Row_at ha.2.2.2.2.2.2 hso ?_
            show gX l E _ 51 [some (ga al), some (gi f), some (ga ra), some (ga rb), some (gi k)] [gi (lat so (f + k))] (K, R, V) _ _
            refine gX_iconst dX0_isPutAt_51 ⟨by decide, by decide⟩ ?_
            refine gX_icmpeq (tgt := 57) dX0_isPutAt_52 (by decide) (fun w4 => ?_) (fun w4 => ?_)
            · refine gX_iinc dX0_isPutAt_57 rfl (show (4 : Nat) < 5 from by decide) ⟨by omega, by omega⟩ (ls2 := [some (ga al), some (gi f), some (ga ra), some (ga rb), some (gi (k + 1))]) rfl ?_
              refine gX_goto (tgt := 3) dX0_isPutAt_60 (by decide) ?_
              have ek : xs.length - k.toNat = (xs.length - (k + 1).toNat) + 1 := by omega
              have e1 : puA xs ys so f (xs.length - k.toNat) k = puA xs ys so f (xs.length - (k + 1).toNat) (k + 1) := by
                rw [ek]
                show (if _ then _ else _) = _
                exact if_pos ⟨by omega, by omega, by omega⟩
              rw [e1] at hq2
              exact ih (k + 1) _ _ (by omega) (by omega) (by omega) hq2
            · refine gX_iconst dX0_isPutAt_55 ⟨by decide, by decide⟩ ?_
              refine gX_iret dX0_isPutAt_56 (Or.inr ⟨rfl, Or.inl rfl⟩) ?_
              have ek : xs.length - k.toNat = (xs.length - (k + 1).toNat) + 1 := by omega
              have e1 : puA xs ys so f (xs.length - k.toNat) k = false := by
                rw [ek]
                show (if _ then _ else _) = _
                exact if_neg (by omega)
              rw [e1] at hq2
              exact hq2
  refine gX_iconst dX0_isPutAt_0 ⟨by decide, by decide⟩ ?_
  refine gX_istore dX0_isPutAt_1 (show (4 : Nat) < 5 from by decide) (ls2 := [some (ga al), some (gi f), some (ga ra), some (ga rb), some (gi 0)]) rfl ?_
  exact lp (xs.length + 1) 0 _ _ (by omega) (by omega) (by omega) hQ
set_option maxRecDepth 4000 in
theorem c_hasSlipped (ha : gAl K R al) (hg : glK K R g) (hv : glIs V g q) (hrb : gRow K R rb m) (hy : rIs V rb m ys) (hpa : rIs V (al + 2) 40 pa) (hso : rIs V (al + 4) 40 so) (hpb : ∀ i : Int, -1 ≤ lat pa i ∧ lat pa i ≤ 100) (hQ : Q (some (gi (b2i (hsl pa ys so q)))) (K, R, V)) : gC l E (d + 3) iX0_hasSlipped [ga al, ga g, ga rb] (K, R, V) Q := by
  refine gC_of kX0_hasSlipped (ls := [some (ga al), some (ga g), some (ga rb), none, none]) rfl (Nat.le_of_ble_eq_true rfl) ?_
  have hrl := hv.2.2.2.2.2.2.2.1
  have hb1 := hpb q.2.2.1
  have hb2 := hpb q.2.2.2.1
  refine gX_aloadn dX0_hasSlipped_0 rfl ?_
  refine gX_gR 1 dX0_hasSlipped_1 fdX0_20 rfl rfl ha.1 ha.2.2.2.1 ?_
  refine gX_aloadn dX0_hasSlipped_4 rfl ?_
  refine gX_gI 3 dX0_hasSlipped_5 fdX0_54 rfl (Or.inl rfl) hg.1 ?_
  rw [hv.2.2.1]
  refine gX_virt (J := iX6_at) (av := [gi q.2.2.1]) (a := (al + 2)) (st := []) dX0_hasSlipped_8 lkX0_43 kX6_at vX6_at (gFit_m (by decide)) ha.2.2.2.2.2.1.1 rfl rfl (Nat.le_of_ble_eq_true rfl) (Nat.zero_le _) (Nat.zero_le _) rfl ?_
  refine q_Row_at ha.2.2.2.2.2.1 hpa ?_
  show gX l E _ 11 [some (ga al), some (ga g), some (ga rb), none, none] [gi (lat pa q.2.2.1)] (K, R, V) _ _
  refine gX_istoren dX0_hasSlipped_11 (show (3 : Nat) < 5 from by decide) (ls2 := [some (ga al), some (ga g), some (ga rb), some (gi (lat pa q.2.2.1)), none]) rfl ?_
  refine gX_aloadn dX0_hasSlipped_12 rfl ?_
  refine gX_gR 1 dX0_hasSlipped_13 fdX0_20 rfl rfl ha.1 ha.2.2.2.1 ?_
  refine gX_aloadn dX0_hasSlipped_16 rfl ?_
  refine gX_gI 4 dX0_hasSlipped_17 fdX0_60 rfl (Or.inl rfl) hg.1 ?_
  rw [hv.2.2.2.1]
  refine gX_virt (J := iX6_at) (av := [gi q.2.2.2.1]) (a := (al + 2)) (st := []) dX0_hasSlipped_20 lkX0_43 kX6_at vX6_at (gFit_m (by decide)) ha.2.2.2.2.2.1.1 rfl rfl (Nat.le_of_ble_eq_true rfl) (Nat.zero_le _) (Nat.zero_le _) rfl ?_
  refine q_Row_at ha.2.2.2.2.2.1 hpa ?_
  show gX l E _ 23 [some (ga al), some (ga g), some (ga rb), some (gi (lat pa q.2.2.1)), none] [gi (lat pa q.2.2.2.1)] (K, R, V) _ _
  refine gX_istore dX0_hasSlipped_23 (show (4 : Nat) < 5 from by decide) (ls2 := [some (ga al), some (ga g), some (ga rb), some (gi (lat pa q.2.2.1)), some (gi (lat pa q.2.2.2.1))]) rfl ?_
  refine gX_iloadn dX0_hasSlipped_25 rfl ?_
  refine gX_iconst dX0_hasSlipped_26 ⟨by decide, by decide⟩ ?_
  refine gX_icmpeq (tgt := 51) dX0_hasSlipped_27 (by decide) (fun w1 => ?_) (fun w1 => ?_)
  · refine gX_iload dX0_hasSlipped_51 rfl ?_
    refine gX_iconst dX0_hasSlipped_53 ⟨by decide, by decide⟩ ?_
    refine gX_icmpeq (tgt := 77) dX0_hasSlipped_54 (by decide) (fun w2 => ?_) (fun w2 => ?_)
    · refine gX_iconst dX0_hasSlipped_77 ⟨by decide, by decide⟩ ?_
      refine gX_iret dX0_hasSlipped_78 (Or.inr ⟨rfl, Or.inl rfl⟩) ?_
      have ec : hsl pa ys so q = false := by
        unfold hsl
        simp only [Bool.or_eq_false_iff, Bool.and_eq_false_iff, decide_eq_false_iff_not, Decidable.not_not]
        refine ⟨?_, ?_⟩
        · first | exact Or.inl (by assumption) | exact Or.inr (b2i_0 (by assumption))
        · first | exact Or.inl (by assumption) | exact Or.inr (b2i_0 (by assumption))
      rw [ec] at hQ
      exact hQ
    · refine gX_aloadn dX0_hasSlipped_57 rfl ?_
      refine gX_iload dX0_hasSlipped_58 rfl ?_
      refine gX_iconst dX0_hasSlipped_60 ⟨by decide, by decide⟩ ?_
      refine gX_iadd dX0_hasSlipped_61 ⟨by omega, by omega⟩ ?_
      refine gX_aloadn dX0_hasSlipped_62 rfl ?_
      refine gX_gR 0 dX0_hasSlipped_63 fdX0_63 rfl rfl hg.1 hg.2.1 ?_
      refine gX_aloadn dX0_hasSlipped_66 rfl ?_
      refine gX_virt (J := iX0_isPutAt) (av := [gi ((lat pa q.2.2.2.1) + 1), ga (g + 1), ga rb]) (a := al) (st := []) dX0_hasSlipped_67 lkX0_66 kX0_isPutAt vX0_isPutAt (gFit_m (by decide)) ha.1 rfl rfl (Nat.le_of_ble_eq_true rfl) (Nat.zero_le _) (Nat.zero_le _) rfl ?_
      refine c_isPutAt ha hg.2.2 (by omega) hrb hv.2.2.2.2.2.2 hy hso ⟨by omega, by omega⟩ ?_
      show gX l E _ 70 [some (ga al), some (ga g), some (ga rb), some (gi (lat pa q.2.2.1)), some (gi (lat pa q.2.2.2.1))] [gi (b2i (puA q.2.2.2.2.2 ys so ((lat pa q.2.2.2.1) + 1) q.2.2.2.2.2.length 0))] (K, R, V) _ _
      refine gX_ifeq (tgt := 77) dX0_hasSlipped_70 (by decide) (fun w3 => ?_) (fun w3 => ?_)
      · refine gX_iconst dX0_hasSlipped_77 ⟨by decide, by decide⟩ ?_
        refine gX_iret dX0_hasSlipped_78 (Or.inr ⟨rfl, Or.inl rfl⟩) ?_
        have ec : hsl pa ys so q = false := by
          unfold hsl
          simp only [Bool.or_eq_false_iff, Bool.and_eq_false_iff, decide_eq_false_iff_not, Decidable.not_not]
          refine ⟨?_, ?_⟩
          · first | exact Or.inl (by assumption) | exact Or.inr (b2i_0 (by assumption))
          · first | exact Or.inl (by assumption) | exact Or.inr (b2i_0 (by assumption))
        rw [ec] at hQ
        exact hQ
      · refine gX_iconst dX0_hasSlipped_73 ⟨by decide, by decide⟩ ?_
        refine gX_goto (tgt := 78) dX0_hasSlipped_74 (by decide) ?_
        refine gX_iret dX0_hasSlipped_78 (Or.inr ⟨rfl, Or.inr rfl⟩) ?_
        have ec : hsl pa ys so q = true := by
          unfold hsl
          simp only [Bool.or_eq_true, Bool.and_eq_true, decide_eq_true_eq]
          first | exact Or.inr ⟨by assumption, b2i_1 (by assumption)⟩ | exact Or.inl ⟨by assumption, b2i_1 (by assumption)⟩
        rw [ec] at hQ
        exact hQ
  · refine gX_aloadn dX0_hasSlipped_30 rfl ?_
    refine gX_iloadn dX0_hasSlipped_31 rfl ?_
    refine gX_aloadn dX0_hasSlipped_32 rfl ?_
    refine gX_gR 0 dX0_hasSlipped_33 fdX0_63 rfl rfl hg.1 hg.2.1 ?_
    refine gX_virt (J := iX6_length) (av := []) (a := (g + 1)) (st := [gi (lat pa q.2.2.1), ga al]) dX0_hasSlipped_36 lkX0_35 kX6_length vX6_length (gFit_m (by decide)) hg.2.2.1 rfl rfl (Nat.le_of_ble_eq_true rfl) (Nat.zero_le _) (Nat.zero_le _) rfl ?_
    refine q_Row_length hg.2.2 hv.2.2.2.2.2.2 ?_
    show gX l E _ 39 [some (ga al), some (ga g), some (ga rb), some (gi (lat pa q.2.2.1)), some (gi (lat pa q.2.2.2.1))] [gi q.2.2.2.2.2.length, gi (lat pa q.2.2.1), ga al] (K, R, V) _ _
    refine gX_isub dX0_hasSlipped_39 ⟨by omega, by omega⟩ ?_
    refine gX_aloadn dX0_hasSlipped_40 rfl ?_
    refine gX_gR 0 dX0_hasSlipped_41 fdX0_63 rfl rfl hg.1 hg.2.1 ?_
    refine gX_aloadn dX0_hasSlipped_44 rfl ?_
    refine gX_virt (J := iX0_isPutAt) (av := [gi ((lat pa q.2.2.1) - q.2.2.2.2.2.length), ga (g + 1), ga rb]) (a := al) (st := []) dX0_hasSlipped_45 lkX0_66 kX0_isPutAt vX0_isPutAt (gFit_m (by decide)) ha.1 rfl rfl (Nat.le_of_ble_eq_true rfl) (Nat.zero_le _) (Nat.zero_le _) rfl ?_
    refine c_isPutAt ha hg.2.2 (by omega) hrb hv.2.2.2.2.2.2 hy hso ⟨by omega, by omega⟩ ?_
    show gX l E _ 48 [some (ga al), some (ga g), some (ga rb), some (gi (lat pa q.2.2.1)), some (gi (lat pa q.2.2.2.1))] [gi (b2i (puA q.2.2.2.2.2 ys so ((lat pa q.2.2.1) - q.2.2.2.2.2.length) q.2.2.2.2.2.length 0))] (K, R, V) _ _
    refine gX_ifne (tgt := 73) dX0_hasSlipped_48 (by decide) (fun w4 => ?_) (fun w4 => ?_)
    · refine gX_iconst dX0_hasSlipped_73 ⟨by decide, by decide⟩ ?_
      refine gX_goto (tgt := 78) dX0_hasSlipped_74 (by decide) ?_
      refine gX_iret dX0_hasSlipped_78 (Or.inr ⟨rfl, Or.inr rfl⟩) ?_
      have ec : hsl pa ys so q = true := by
        unfold hsl
        simp only [Bool.or_eq_true, Bool.and_eq_true, decide_eq_true_eq]
        first | exact Or.inr ⟨by assumption, b2i_1 (by assumption)⟩ | exact Or.inl ⟨by assumption, b2i_1 (by assumption)⟩
      rw [ec] at hQ
      exact hQ
    · refine gX_iload dX0_hasSlipped_51 rfl ?_
      refine gX_iconst dX0_hasSlipped_53 ⟨by decide, by decide⟩ ?_
      refine gX_icmpeq (tgt := 77) dX0_hasSlipped_54 (by decide) (fun w5 => ?_) (fun w5 => ?_)
      · refine gX_iconst dX0_hasSlipped_77 ⟨by decide, by decide⟩ ?_
        refine gX_iret dX0_hasSlipped_78 (Or.inr ⟨rfl, Or.inl rfl⟩) ?_
        have ec : hsl pa ys so q = false := by
          unfold hsl
          simp only [Bool.or_eq_false_iff, Bool.and_eq_false_iff, decide_eq_false_iff_not, Decidable.not_not]
          refine ⟨?_, ?_⟩
          · first | exact Or.inl (by assumption) | exact Or.inr (b2i_0 (by assumption))
          · first | exact Or.inl (by assumption) | exact Or.inr (b2i_0 (by assumption))
        rw [ec] at hQ
        exact hQ
      · refine gX_aloadn dX0_hasSlipped_57 rfl ?_
        refine gX_iload dX0_hasSlipped_58 rfl ?_
        refine gX_iconst dX0_hasSlipped_60 ⟨by decide, by decide⟩ ?_
        refine gX_iadd dX0_hasSlipped_61 ⟨by omega, by omega⟩ ?_
        refine gX_aloadn dX0_hasSlipped_62 rfl ?_
        refine gX_gR 0 dX0_hasSlipped_63 fdX0_63 rfl rfl hg.1 hg.2.1 ?_
        refine gX_aloadn dX0_hasSlipped_66 rfl ?_
        refine gX_virt (J := iX0_isPutAt) (av := [gi ((lat pa q.2.2.2.1) + 1), ga (g + 1), ga rb]) (a := al) (st := []) dX0_hasSlipped_67 lkX0_66 kX0_isPutAt vX0_isPutAt (gFit_m (by decide)) ha.1 rfl rfl (Nat.le_of_ble_eq_true rfl) (Nat.zero_le _) (Nat.zero_le _) rfl ?_
        refine c_isPutAt ha hg.2.2 (by omega) hrb hv.2.2.2.2.2.2 hy hso ⟨by omega, by omega⟩ ?_
        show gX l E _ 70 [some (ga al), some (ga g), some (ga rb), some (gi (lat pa q.2.2.1)), some (gi (lat pa q.2.2.2.1))] [gi (b2i (puA q.2.2.2.2.2 ys so ((lat pa q.2.2.2.1) + 1) q.2.2.2.2.2.length 0))] (K, R, V) _ _
        refine gX_ifeq (tgt := 77) dX0_hasSlipped_70 (by decide) (fun w6 => ?_) (fun w6 => ?_)
        · refine gX_iconst dX0_hasSlipped_77 ⟨by decide, by decide⟩ ?_
          refine gX_iret dX0_hasSlipped_78 (Or.inr ⟨rfl, Or.inl rfl⟩) ?_
          have ec : hsl pa ys so q = false := by
            unfold hsl
            simp only [Bool.or_eq_false_iff, Bool.and_eq_false_iff, decide_eq_false_iff_not, Decidable.not_not]
            refine ⟨?_, ?_⟩
            · first | exact Or.inl (by assumption) | exact Or.inr (b2i_0 (by assumption))
            · first | exact Or.inl (by assumption) | exact Or.inr (b2i_0 (by assumption))
          rw [ec] at hQ
          exact hQ
        · refine gX_iconst dX0_hasSlipped_73 ⟨by decide, by decide⟩ ?_
          refine gX_goto (tgt := 78) dX0_hasSlipped_74 (by decide) ?_
          refine gX_iret dX0_hasSlipped_78 (Or.inr ⟨rfl, Or.inr rfl⟩) ?_
          have ec : hsl pa ys so q = true := by
            unfold hsl
            simp only [Bool.or_eq_true, Bool.and_eq_true, decide_eq_true_eq]
            first | exact Or.inr ⟨by assumption, b2i_1 (by assumption)⟩ | exact Or.inl ⟨by assumption, b2i_1 (by assumption)⟩
          rw [ec] at hQ
          exact hQ
set_option maxRecDepth 4000 in
theorem c_isWord {w : Int} (hQ : Q (some (gi (if 0 ≤ w ∧ w ≤ 63 then 1 else 0))) (K, R, V)) : gC l E (d + 1) iX11_isWord [gi w] (K, R, V) Q := by
  refine gC_of kX11_isWord (ls := [some (gi w)]) rfl (Nat.le_of_ble_eq_true rfl) ?_
  refine gX_iloadn dX11_isWord_0 rfl ?_
  refine gX_iflt (tgt := 14) dX11_isWord_1 (by decide) (fun w1 => ?_) (fun w1 => ?_)
  · refine gX_iconst dX11_isWord_14 ⟨by decide, by decide⟩ ?_
    refine gX_iret dX11_isWord_15 (Or.inr ⟨rfl, Or.inl rfl⟩) ?_
    rw [if_neg (by omega)] at hQ
    exact hQ
  · refine gX_iloadn dX11_isWord_4 rfl ?_
    refine gX_bipush dX11_isWord_5 (by decide) ⟨by decide, by decide⟩ ?_
    refine gX_icmpgt (tgt := 14) dX11_isWord_7 (by decide) (fun w2 => ?_) (fun w2 => ?_)
    · refine gX_iconst dX11_isWord_14 ⟨by decide, by decide⟩ ?_
      refine gX_iret dX11_isWord_15 (Or.inr ⟨rfl, Or.inl rfl⟩) ?_
      rw [if_neg (by omega)] at hQ
      exact hQ
    · refine gX_iconst dX11_isWord_10 ⟨by decide, by decide⟩ ?_
      refine gX_goto (tgt := 15) dX11_isWord_11 (by decide) ?_
      refine gX_iret dX11_isWord_15 (Or.inr ⟨rfl, Or.inr rfl⟩) ?_
      rw [if_pos (by omega)] at hQ
      exact hQ
theorem gcmp_0 {x : Int} (h : ¬ gcmp x 1 ≠ 0) : x = 1 := by unfold gcmp at h; (repeat' split at h) <;> omega
theorem gcmp_n {x : Int} (h : gcmp x 1 ≠ 0) : ¬ x = 1 := by unfold gcmp at h; (repeat' split at h) <;> omega
set_option maxRecDepth 4000 in
theorem c_explainers {ws : Int} (hB : bkK K R B) (hb : bkIs V B tx gs) (hg1 : gBd gs 100) (hQ : Q (some (gl (expl tx gs ws))) (K, R, V)) : gC l E (d + 3) iX1_explainersOf [ga B, gl ws] (K, R, V) Q := by
  refine gC_of kX1_explainersOf (ls := [some (ga B), some (gl ws), none, none, none, none, none, none, none]) rfl (Nat.le_of_ble_eq_true rfl) ?_
  have hcn := hb.2.1
  have h20 := hb.2.2.1
  have lp : ∀ (jj : Nat) (i : Int) (se : Int) (j6 : Option gV) (j7 : Option gV) (j8 : Option gV) (bc bs : Nat), (gs.length : Int) - i < (jj : Int) → 0 ≤ i → i ≤ gs.length → (Q (some (gl (exF tx gs ws (gs.length - i.toNat) i se))) (K, R, V)) → gX l E (gFm E (d + 3) iX1_explainersOf Q) 5 [some (ga B), some (gl ws), none, some (gl se), none, some (gi i), j6, j7, j8] [] (K, R, V) bc bs := by
    intro jj
    induction jj with
    | zero =>
      intro i se j6 j7 j8 bc bs hj q0 q1 hq2
      exfalso; omega
    | succ jj ih =>
      intro i se j6 j7 j8 bc bs hj q0 q1 hq2
      refine gX_iload dX1_explainersOf_5 rfl ?_
      refine gX_aloadn dX1_explainersOf_7 rfl ?_
      refine gX_gI 5 dX1_explainersOf_8 fdX1_35 rfl (Or.inl rfl) hB.1 ?_
      refine gX_icmpge (tgt := 118) dX1_explainersOf_11 (by decide) (fun w1 => ?_) (fun w1 => ?_)
      · refine gX_lloadn dX1_explainersOf_118 rfl ?_
        refine gX_lret dX1_explainersOf_119 rfl ?_
        have ei : gs.length - i.toNat = 0 := by omega
        rw [ei] at hq2
        exact hq2
      · refine gX_aloadn dX1_explainersOf_14 rfl ?_
        refine gX_iload dX1_explainersOf_15 rfl ?_
        refine gX_virt (J := iX1_glossAt) (av := [gi i]) (a := B) (st := []) dX1_explainersOf_17 lkX1_58 kX1_glossAt vX1_glossAt (gFit_m (by decide)) hB.1 rfl rfl (Nat.le_of_ble_eq_true rfl) (Nat.zero_le _) (Nat.zero_le _) rfl ?_
        refine c_glossAt hB hb q0 (by omega) ?_
        show gX l E _ 20 [some (ga B), some (gl ws), none, some (gl se), none, some (gi i), j6, j7, j8] [ga (B + 10 + 3 * i)] (K, R, V) _ _
        refine gX_astore dX1_explainersOf_20 (show (6 : Nat) < 9 from by decide) (ls2 := [some (ga B), some (gl ws), none, some (gl se), none, some (gi i), some (ga (B + 10 + 3 * i)), j7, j8]) rfl ?_
        have hll : lml (gq gs i) = (gq gs i).2.2.2.1 - (gq gs i).2.2.1 + 1 := rfl
        have gb := hg1 _ (gq_mem (gs := gs) (g := i) q0 (by omega))
        refine gX_aload dX1_explainersOf_22 rfl ?_
        refine gX_ifnull (tgt := 112) dX1_explainersOf_24 (by decide) (fun w2 => absurd (kd_pos (hB.2.2.2.2.2.2.2.2.2.2.2 i q0 (by omega)).2.1) (by omega)) (fun w2 => ?_)
        refine gX_aload dX1_explainersOf_27 rfl ?_
        refine gX_virt (J := iX3_lemmaLength) (av := []) (a := (B + 10 + 3 * i)) (st := []) dX1_explainersOf_29 lkX1_143 kX3_lemmaLength vX3_lemmaLength (gFit_m (by decide)) (hB.2.2.2.2.2.2.2.2.2.2.2 i q0 (by omega)).2.1 rfl rfl (Nat.le_of_ble_eq_true rfl) (Nat.zero_le _) (Nat.zero_le _) rfl ?_
        refine c_lemmaLength (hB.2.2.2.2.2.2.2.2.2.2.2 i q0 (by omega)).2 (hb.gl q0 (by omega)) ⟨⟨by omega, by omega⟩, ⟨by omega, by omega⟩⟩ ?_
        show gX l E _ 32 [some (ga B), some (gl ws), none, some (gl se), none, some (gi i), some (ga (B + 10 + 3 * i)), j7, j8] [gi (lml (gq gs i))] (K, R, V) _ _
        refine gX_iconst dX1_explainersOf_32 ⟨by decide, by decide⟩ ?_
        refine gX_icmpne (tgt := 112) dX1_explainersOf_33 (by decide) (fun w3 => ?_) (fun w3 => ?_)
        · skip
          refine gX_iinc dX1_explainersOf_112 rfl (show (5 : Nat) < 9 from by decide) ⟨by omega, by omega⟩ (ls2 := [some (ga B), some (gl ws), none, some (gl se), none, some (gi (i + 1)), some (ga (B + 10 + 3 * i)), j7, j8]) rfl ?_
          refine gX_goto (tgt := 5) dX1_explainersOf_115 (by decide) ?_
          have ec : exG tx gs ws (gq gs i) = false := by
            unfold exG
            simp only [Bool.and_eq_false_iff, decide_eq_false_iff_not]
            first | exact Or.inl (Or.inl (Or.inl (Or.inl (by omega)))) | exact Or.inl (Or.inl (Or.inl (Or.inr (by omega)))) | exact Or.inl (Or.inl (Or.inr (by omega))) | exact Or.inl (Or.inr (by omega)) | exact Or.inr (gcmp_n (by assumption))
          have ek : gs.length - i.toNat = (gs.length - (i + 1).toNat) + 1 := by omega
          have e1 : exF tx gs ws (gs.length - i.toNat) i se = exF tx gs ws (gs.length - (i + 1).toNat) (i + 1) se := by
            rw [ek]
            show exF tx gs ws _ _ (if _ then _ else _) = _
            rw [if_neg (by rw [ec]; decide)]
          rw [e1] at hq2
          exact ih (i + 1) _ _ _ _ _ _ (by omega) (by omega) (by omega) hq2
        · refine gX_aload dX1_explainersOf_36 rfl ?_
          refine gX_gR 0 dX1_explainersOf_38 fdX1_65 rfl rfl (hB.2.2.2.2.2.2.2.2.2.2.2 i q0 (by omega)).2.1 (hB.2.2.2.2.2.2.2.2.2.2.2 i q0 (by omega)).2.2.1 ?_
          refine gX_virt (J := iX6_length) (av := []) (a := (B + 10 + 3 * i + 1)) (st := []) dX1_explainersOf_41 lkX1_105 kX6_length vX6_length (gFit_m (by decide)) (hB.2.2.2.2.2.2.2.2.2.2.2 i q0 (by omega)).2.2.2.1 rfl rfl (Nat.le_of_ble_eq_true rfl) (Nat.zero_le _) (Nat.zero_le _) rfl ?_
          refine q_Row_length (hB.2.2.2.2.2.2.2.2.2.2.2 i q0 (by omega)).2.2.2 (hb.gl q0 (by omega)).2.2.2.2.2.2 ?_
          show gX l E _ 44 [some (ga B), some (gl ws), none, some (gl se), none, some (gi i), some (ga (B + 10 + 3 * i)), j7, j8] [gi ((gq gs i).2.2.2.2.2.length)] (K, R, V) _ _
          refine gX_iconst dX1_explainersOf_44 ⟨by decide, by decide⟩ ?_
          refine gX_icmpne (tgt := 112) dX1_explainersOf_45 (by decide) (fun w4 => ?_) (fun w4 => ?_)
          · skip
            refine gX_iinc dX1_explainersOf_112 rfl (show (5 : Nat) < 9 from by decide) ⟨by omega, by omega⟩ (ls2 := [some (ga B), some (gl ws), none, some (gl se), none, some (gi (i + 1)), some (ga (B + 10 + 3 * i)), j7, j8]) rfl ?_
            refine gX_goto (tgt := 5) dX1_explainersOf_115 (by decide) ?_
            have ec : exG tx gs ws (gq gs i) = false := by
              unfold exG
              simp only [Bool.and_eq_false_iff, decide_eq_false_iff_not]
              first | exact Or.inl (Or.inl (Or.inl (Or.inl (by omega)))) | exact Or.inl (Or.inl (Or.inl (Or.inr (by omega)))) | exact Or.inl (Or.inl (Or.inr (by omega))) | exact Or.inl (Or.inr (by omega)) | exact Or.inr (gcmp_n (by assumption))
            have ek : gs.length - i.toNat = (gs.length - (i + 1).toNat) + 1 := by omega
            have e1 : exF tx gs ws (gs.length - i.toNat) i se = exF tx gs ws (gs.length - (i + 1).toNat) (i + 1) se := by
              rw [ek]
              show exF tx gs ws _ _ (if _ then _ else _) = _
              rw [if_neg (by rw [ec]; decide)]
            rw [e1] at hq2
            exact ih (i + 1) _ _ _ _ _ _ (by omega) (by omega) (by omega) hq2
          · refine gX_aloadn dX1_explainersOf_48 rfl ?_
            refine gX_aload dX1_explainersOf_49 rfl ?_
            refine gX_gI 2 dX1_explainersOf_51 fdX1_71 rfl (Or.inl rfl) (hB.2.2.2.2.2.2.2.2.2.2.2 i q0 (by omega)).2.1 ?_
            rw [(hb.gl q0 (by omega : i < (gs.length : Int))).2.1]
            obtain ⟨nn, hrn1, hrn2, hrn3⟩ := rwA_row (h := (gq gs i).2.1) hB hb
            refine gX_virt (J := iX1_rowOf) (av := [gi ((gq gs i).2.1)]) (a := B) (st := []) dX1_explainersOf_54 lkX1_101 kX1_rowOf vX1_rowOf (gFit_m (by decide)) hB.1 rfl rfl (Nat.le_of_ble_eq_true rfl) (Nat.zero_le _) (Nat.zero_le _) rfl ?_
            refine c_rowOf hB hb ?_
            show gX l E _ 57 [some (ga B), some (gl ws), none, some (gl se), none, some (gi i), some (ga (B + 10 + 3 * i)), j7, j8] [ga (rwA B gs.length (gq gs i).2.1)] (K, R, V) _ _
            refine gX_aload dX1_explainersOf_57 rfl ?_
            refine gX_gI 3 dX1_explainersOf_59 fdX1_74 rfl (Or.inl rfl) (hB.2.2.2.2.2.2.2.2.2.2.2 i q0 (by omega)).2.1 ?_
            rw [(hb.gl q0 (by omega : i < (gs.length : Int))).2.2.1]
            refine gX_virt (J := iX6_at) (av := [gi ((gq gs i).2.2.1)]) (a := (rwA B gs.length (gq gs i).2.1)) (st := []) dX1_explainersOf_62 lkX1_120 kX6_at vX6_at (gFit_m (by decide)) hrn1.1 rfl rfl (Nat.le_of_ble_eq_true rfl) (Nat.zero_le _) (Nat.zero_le _) rfl ?_
            refine q_Row_at hrn1 hrn2 ?_
            show gX l E _ 65 [some (ga B), some (gl ws), none, some (gl se), none, some (gi i), some (ga (B + 10 + 3 * i)), j7, j8] [gi (lat (rwL tx gs (gq gs i).2.1) (gq gs i).2.2.1)] (K, R, V) _ _
            refine gX_istore dX1_explainersOf_65 (show (7 : Nat) < 9 from by decide) (ls2 := [some (ga B), some (gl ws), none, some (gl se), none, some (gi i), some (ga (B + 10 + 3 * i)), some (gi (lat (rwL tx gs (gq gs i).2.1) (gq gs i).2.2.1)), j8]) rfl ?_
            refine gX_aload dX1_explainersOf_67 rfl ?_
            refine gX_gR 0 dX1_explainersOf_69 fdX1_65 rfl rfl (hB.2.2.2.2.2.2.2.2.2.2.2 i q0 (by omega)).2.1 (hB.2.2.2.2.2.2.2.2.2.2.2 i q0 (by omega)).2.2.1 ?_
            refine gX_iconst dX1_explainersOf_72 ⟨by decide, by decide⟩ ?_
            refine gX_virt (J := iX6_at) (av := [gi 0]) (a := (B + 10 + 3 * i + 1)) (st := []) dX1_explainersOf_73 lkX1_120 kX6_at vX6_at (gFit_m (by decide)) (hB.2.2.2.2.2.2.2.2.2.2.2 i q0 (by omega)).2.2.2.1 rfl rfl (Nat.le_of_ble_eq_true rfl) (Nat.zero_le _) (Nat.zero_le _) rfl ?_
            refine q_Row_at (hB.2.2.2.2.2.2.2.2.2.2.2 i q0 (by omega)).2.2.2 (hb.gl q0 (by omega)).2.2.2.2.2.2 ?_
            show gX l E _ 76 [some (ga B), some (gl ws), none, some (gl se), none, some (gi i), some (ga (B + 10 + 3 * i)), some (gi (lat (rwL tx gs (gq gs i).2.1) (gq gs i).2.2.1)), j8] [gi (lat (gq gs i).2.2.2.2.2 0)] (K, R, V) _ _
            refine gX_istore dX1_explainersOf_76 (show (8 : Nat) < 9 from by decide) (ls2 := [some (ga B), some (gl ws), none, some (gl se), none, some (gi i), some (ga (B + 10 + 3 * i)), some (gi (lat (rwL tx gs (gq gs i).2.1) (gq gs i).2.2.1)), some (gi (lat (gq gs i).2.2.2.2.2 0))]) rfl ?_
            refine gX_iload dX1_explainersOf_78 rfl ?_
            refine gX_stat (J := iX11_isWord) (av := [gi (lat (rwL tx gs (gq gs i).2.1) (gq gs i).2.2.1)]) (st := []) dX1_explainersOf_80 lkX1_146 kX11_isWord sX11_isWord (gFit_m (by decide)) rfl (Nat.le_of_ble_eq_true rfl) (Nat.zero_le _) (Nat.zero_le _) rfl ?_
            refine c_isWord ?_
            show gX l E _ 83 [some (ga B), some (gl ws), none, some (gl se), none, some (gi i), some (ga (B + 10 + 3 * i)), some (gi (lat (rwL tx gs (gq gs i).2.1) (gq gs i).2.2.1)), some (gi (lat (gq gs i).2.2.2.2.2 0))] [gi (if 0 ≤ lat (rwL tx gs (gq gs i).2.1) (gq gs i).2.2.1 ∧ lat (rwL tx gs (gq gs i).2.1) (gq gs i).2.2.1 ≤ 63 then 1 else 0)] (K, R, V) _ _
            refine gX_ifeq (tgt := 112) dX1_explainersOf_83 (by decide) (fun w5 => ?_) (fun w5 => ?_)
            · skip
              refine gX_iinc dX1_explainersOf_112 rfl (show (5 : Nat) < 9 from by decide) ⟨by omega, by omega⟩ (ls2 := [some (ga B), some (gl ws), none, some (gl se), none, some (gi (i + 1)), some (ga (B + 10 + 3 * i)), some (gi (lat (rwL tx gs (gq gs i).2.1) (gq gs i).2.2.1)), some (gi (lat (gq gs i).2.2.2.2.2 0))]) rfl ?_
              refine gX_goto (tgt := 5) dX1_explainersOf_115 (by decide) ?_
              have ec : exG tx gs ws (gq gs i) = false := by
                unfold exG
                simp only [Bool.and_eq_false_iff, decide_eq_false_iff_not]
                first | exact Or.inl (Or.inl (Or.inl (Or.inl (by omega)))) | exact Or.inl (Or.inl (Or.inl (Or.inr (by omega)))) | exact Or.inl (Or.inl (Or.inr (by omega))) | exact Or.inl (Or.inr (by omega)) | exact Or.inr (gcmp_n (by assumption))
              have ek : gs.length - i.toNat = (gs.length - (i + 1).toNat) + 1 := by omega
              have e1 : exF tx gs ws (gs.length - i.toNat) i se = exF tx gs ws (gs.length - (i + 1).toNat) (i + 1) se := by
                rw [ek]
                show exF tx gs ws _ _ (if _ then _ else _) = _
                rw [if_neg (by rw [ec]; decide)]
              rw [e1] at hq2
              exact ih (i + 1) _ _ _ _ _ _ (by omega) (by omega) (by omega) hq2
            · have ww : 0 ≤ lat (rwL tx gs (gq gs i).2.1) (gq gs i).2.2.1 ∧ lat (rwL tx gs (gq gs i).2.1) (gq gs i).2.2.1 ≤ 63 := by
                by_cases c : 0 ≤ lat (rwL tx gs (gq gs i).2.1) (gq gs i).2.2.1 ∧ lat (rwL tx gs (gq gs i).2.1) (gq gs i).2.2.1 ≤ 63
                · exact c
                · rw [if_neg c] at *; omega
              refine gX_iload dX1_explainersOf_86 rfl ?_
              refine gX_stat (J := iX11_isWord) (av := [gi (lat (gq gs i).2.2.2.2.2 0)]) (st := []) dX1_explainersOf_88 lkX1_146 kX11_isWord sX11_isWord (gFit_m (by decide)) rfl (Nat.le_of_ble_eq_true rfl) (Nat.zero_le _) (Nat.zero_le _) rfl ?_
              refine c_isWord ?_
              show gX l E _ 91 [some (ga B), some (gl ws), none, some (gl se), none, some (gi i), some (ga (B + 10 + 3 * i)), some (gi (lat (rwL tx gs (gq gs i).2.1) (gq gs i).2.2.1)), some (gi (lat (gq gs i).2.2.2.2.2 0))] [gi (if 0 ≤ lat (gq gs i).2.2.2.2.2 0 ∧ lat (gq gs i).2.2.2.2.2 0 ≤ 63 then 1 else 0)] (K, R, V) _ _
              refine gX_ifeq (tgt := 112) dX1_explainersOf_91 (by decide) (fun w6 => ?_) (fun w6 => ?_)
              · skip
                refine gX_iinc dX1_explainersOf_112 rfl (show (5 : Nat) < 9 from by decide) ⟨by omega, by omega⟩ (ls2 := [some (ga B), some (gl ws), none, some (gl se), none, some (gi (i + 1)), some (ga (B + 10 + 3 * i)), some (gi (lat (rwL tx gs (gq gs i).2.1) (gq gs i).2.2.1)), some (gi (lat (gq gs i).2.2.2.2.2 0))]) rfl ?_
                refine gX_goto (tgt := 5) dX1_explainersOf_115 (by decide) ?_
                have ec : exG tx gs ws (gq gs i) = false := by
                  unfold exG
                  simp only [Bool.and_eq_false_iff, decide_eq_false_iff_not]
                  first | exact Or.inl (Or.inl (Or.inl (Or.inl (by omega)))) | exact Or.inl (Or.inl (Or.inl (Or.inr (by omega)))) | exact Or.inl (Or.inl (Or.inr (by omega))) | exact Or.inl (Or.inr (by omega)) | exact Or.inr (gcmp_n (by assumption))
                have ek : gs.length - i.toNat = (gs.length - (i + 1).toNat) + 1 := by omega
                have e1 : exF tx gs ws (gs.length - i.toNat) i se = exF tx gs ws (gs.length - (i + 1).toNat) (i + 1) se := by
                  rw [ek]
                  show exF tx gs ws _ _ (if _ then _ else _) = _
                  rw [if_neg (by rw [ec]; decide)]
                rw [e1] at hq2
                exact ih (i + 1) _ _ _ _ _ _ (by omega) (by omega) (by omega) hq2
              · have wx : 0 ≤ lat (gq gs i).2.2.2.2.2 0 ∧ lat (gq gs i).2.2.2.2.2 0 ≤ 63 := by
                  by_cases c : 0 ≤ lat (gq gs i).2.2.2.2.2 0 ∧ lat (gq gs i).2.2.2.2.2 0 ≤ 63
                  · exact c
                  · rw [if_neg c] at *; omega
                refine gX_lloadn dX1_explainersOf_94 rfl ?_
                refine gX_iload dX1_explainersOf_95 rfl ?_
                refine gX_lushr dX1_explainersOf_97 ?_
                refine gX_lconst (x := 1) dX1_explainersOf_98 (by decide) ⟨by decide, by decide⟩ ?_
                refine gX_land dX1_explainersOf_99 ?_
                refine gX_lconst (x := 1) dX1_explainersOf_100 (by decide) ⟨by decide, by decide⟩ ?_
                refine gX_lcmp dX1_explainersOf_101 ?_
                refine gX_ifne (tgt := 112) dX1_explainersOf_102 (by decide) (fun w7 => ?_) (fun w7 => ?_)
                · skip
                  refine gX_iinc dX1_explainersOf_112 rfl (show (5 : Nat) < 9 from by decide) ⟨by omega, by omega⟩ (ls2 := [some (ga B), some (gl ws), none, some (gl se), none, some (gi (i + 1)), some (ga (B + 10 + 3 * i)), some (gi (lat (rwL tx gs (gq gs i).2.1) (gq gs i).2.2.1)), some (gi (lat (gq gs i).2.2.2.2.2 0))]) rfl ?_
                  refine gX_goto (tgt := 5) dX1_explainersOf_115 (by decide) ?_
                  have ec : exG tx gs ws (gq gs i) = false := by
                    unfold exG
                    simp only [Bool.and_eq_false_iff, decide_eq_false_iff_not]
                    first | exact Or.inl (Or.inl (Or.inl (Or.inl (by omega)))) | exact Or.inl (Or.inl (Or.inl (Or.inr (by omega)))) | exact Or.inl (Or.inl (Or.inr (by omega))) | exact Or.inl (Or.inr (by omega)) | exact Or.inr (gcmp_n (by assumption))
                  have ek : gs.length - i.toNat = (gs.length - (i + 1).toNat) + 1 := by omega
                  have e1 : exF tx gs ws (gs.length - i.toNat) i se = exF tx gs ws (gs.length - (i + 1).toNat) (i + 1) se := by
                    rw [ek]
                    show exF tx gs ws _ _ (if _ then _ else _) = _
                    rw [if_neg (by rw [ec]; decide)]
                  rw [e1] at hq2
                  exact ih (i + 1) _ _ _ _ _ _ (by omega) (by omega) (by omega) hq2
                · refine gX_lloadn dX1_explainersOf_105 rfl ?_
                  refine gX_lconst (x := 1) dX1_explainersOf_106 (by decide) ⟨by decide, by decide⟩ ?_
                  refine gX_iload dX1_explainersOf_107 rfl ?_
                  refine gX_lshl dX1_explainersOf_109 ?_
                  refine gX_lor dX1_explainersOf_110 ?_
                  refine gX_lstoren dX1_explainersOf_111 (show (3 : Nat) + 1 < 9 from by decide) (ls2 := [some (ga B), some (gl ws), none, some (gl (glor se (glshl 1 (lat (gq gs i).2.2.2.2.2 0)))), none, some (gi i), some (ga (B + 10 + 3 * i)), some (gi (lat (rwL tx gs (gq gs i).2.1) (gq gs i).2.2.1)), some (gi (lat (gq gs i).2.2.2.2.2 0))]) rfl ?_
                  skip
                  refine gX_iinc dX1_explainersOf_112 rfl (show (5 : Nat) < 9 from by decide) ⟨by omega, by omega⟩ (ls2 := [some (ga B), some (gl ws), none, some (gl (glor se (glshl 1 (lat (gq gs i).2.2.2.2.2 0)))), none, some (gi (i + 1)), some (ga (B + 10 + 3 * i)), some (gi (lat (rwL tx gs (gq gs i).2.1) (gq gs i).2.2.1)), some (gi (lat (gq gs i).2.2.2.2.2 0))]) rfl ?_
                  refine gX_goto (tgt := 5) dX1_explainersOf_115 (by decide) ?_
                  have ec : exG tx gs ws (gq gs i) = true := by
                    unfold exG
                    simp only [Bool.and_eq_true, decide_eq_true_eq]
                    exact ⟨⟨⟨⟨by omega, by omega⟩, ww⟩, wx⟩, gcmp_0 (by omega)⟩
                  have ek : gs.length - i.toNat = (gs.length - (i + 1).toNat) + 1 := by omega
                  have e1 : exF tx gs ws (gs.length - i.toNat) i se = exF tx gs ws (gs.length - (i + 1).toNat) (i + 1) (glor se (glshl 1 (lat (gq gs i).2.2.2.2.2 0))) := by
                    rw [ek]
                    show exF tx gs ws _ _ (if _ then _ else _) = _
                    rw [if_pos ec]
                  rw [e1] at hq2
                  exact ih (i + 1) _ _ _ _ _ _ (by omega) (by omega) (by omega) hq2
  refine gX_lconst (x := 0) dX1_explainersOf_0 (by decide) ⟨by decide, by decide⟩ ?_
  refine gX_lstoren dX1_explainersOf_1 (show (3 : Nat) + 1 < 9 from by decide) (ls2 := [some (ga B), some (gl ws), none, some (gl 0), none, none, none, none, none]) rfl ?_
  refine gX_iconst dX1_explainersOf_2 ⟨by decide, by decide⟩ ?_
  refine gX_istore dX1_explainersOf_3 (show (5 : Nat) < 9 from by decide) (ls2 := [some (ga B), some (gl ws), none, some (gl 0), none, some (gi 0), none, none, none]) rfl ?_
  exact lp (gs.length + 1) 0 0 none none none _ _ (by omega) (by omega) (by omega) hQ
end SLIP
