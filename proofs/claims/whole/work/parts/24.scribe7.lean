/-! Scribe: one word for another. Written by wip/whole/tools/mk_scribe7.py. -/
def scK (K : List gK) (R : Int → Int → Int) (S : Int) : Prop := kd (K, R, fun _ _ => 0) S = some (.inl 6) ∧ R S 0 = S + 1 ∧ gRow K R (S + 1) 4
/-- a row, how often each clause had its chance, chances, takes -/
abbrev fS : Type := List Int × List Int × List Int × List Int
def fo1 (to fe : List Int) (i k : Int) (t : fS) : fS := (if tkn (lat t.2.1 k + 1) (lat fe k) = 1 then lput t.1 i (lat to k) else t.1, lput t.2.1 k (lat t.2.1 k + 1), bump t.2.2.1 0, tkL t.2.2.2 0 (tkn (lat t.2.1 k + 1) (lat fe k)))
def foK (fr to fe : List Int) (w i : Int) : Nat → Int → fS → fS
  | 0, _, t => t
  | n + 1, k, t => foK fr to fe w i n (k + 1) (if lat fr k = w then fo1 to fe i k t else t)
def foR (fr to fe : List Int) : Nat → Int → fS → fS
  | 0, _, t => t
  | n + 1, i, t => foR fr to fe n (i + 1) (foK fr to fe (lat t.1 i) i fr.length 0 t)
def foIs (V : Int → Int → Int) (r : Int) (n : Nat) (S B ex sc : Int) (t : fS) : Prop := rIs V r n t.1 ∧ rIs V (S + 1) 4 t.2.1 ∧ bmIs V B ex sc t.2.2.1 t.2.2.2
def foB (t : fS) (c : Int) : Prop := cBd t.2.2.1 c ∧ cBd t.2.2.2 c ∧ ∀ k : Int, -1 ≤ lat t.2.1 k ∧ lat t.2.1 k ≤ c
def foF (V V' : Int → Int → Int) (r B S : Int) : Prop := ∀ a, a ≠ r → a ≠ r + 1 → (a < B + 6 ∨ B + 10 ≤ a) → a ≠ S + 1 → a ≠ S + 2 → V' a = V a
theorem foF.trans {V V1 V2 : Int → Int → Int} {r B S : Int} (h : foF V V1 r B S) (h2 : foF V1 V2 r B S) : foF V V2 r B S := fun a h3 h4 h5 h6 h7 => (h2 a h3 h4 h5 h6 h7).trans (h a h3 h4 h5 h6 h7)
theorem foB.up {t : fS} {c c2 : Int} (h : foB t c) (h2 : c ≤ c2) : foB t c2 := ⟨h.1.up h2, h.2.1.up h2, fun k => by have := h.2.2 k; omega⟩
theorem lat_put {xs : List Int} {k x j : Int} : lat (lput xs k x) j = x ∨ lat (lput xs k x) j = lat xs j := by
  by_cases c : 0 ≤ k ∧ k < xs.length
  · by_cases e : j < 0
    · unfold lat; rw [if_pos e, if_pos e]; exact Or.inr rfl
    · have h := lput_at (ws := xs) (x := x) (j := j.toNat) c.1 c.2
      unfold lat
      rw [if_neg e, if_neg e, List.getD_eq_getElem?_getD, List.getD_eq_getElem?_getD, h]
      split
      · exact Or.inl rfl
      · exact Or.inr rfl
  · have : lput xs k x = xs := by
      unfold lput
      split
      · rfl
      · exact List.set_eq_of_length_le (by omega)
    rw [this]; exact Or.inr rfl
theorem fo1_B {to fe : List Int} {i k c : Int} {t : fS} (h : foB t c) : foB (fo1 to fe i k t) (c + 1) := by
  refine ⟨cBd.bmp (h := 0) h.1 (by omega) (by omega), cBd.tk (h := 0) h.2.1 (by omega) (by omega), fun j => ?_⟩
  show -1 ≤ lat (lput t.2.1 k (lat t.2.1 k + 1)) j ∧ lat (lput t.2.1 k (lat t.2.1 k + 1)) j ≤ c + 1
  have h1 := h.2.2 j
  have h2 := h.2.2 k
  have h3 := lat_put (xs := t.2.1) (k := k) (x := lat t.2.1 k + 1) (j := j)
  omega
theorem fo1_len {to fe : List Int} {i k : Int} {t : fS} : (fo1 to fe i k t).1.length = t.1.length ∧ (fo1 to fe i k t).2.1.length = t.2.1.length := by
  refine ⟨?_, lput_len _ _ _⟩
  show (if _ then _ else _ : List Int).length = _
  split
  · exact lput_len _ _ _
  · rfl
theorem foK_len {fr to fe : List Int} {w i : Int} : ∀ (n : Nat) (k : Int) (t : fS), (foK fr to fe w i n k t).1.length = t.1.length ∧ (foK fr to fe w i n k t).2.1.length = t.2.1.length
  | 0, _, _ => ⟨rfl, rfl⟩
  | n + 1, k, t => by
    have h := foK_len (fr := fr) (to := to) (fe := fe) (w := w) (i := i) n (k + 1) (if lat fr k = w then fo1 to fe i k t else t)
    show (foK fr to fe w i n (k + 1) _).1.length = _ ∧ (foK fr to fe w i n (k + 1) _).2.1.length = _
    rw [h.1, h.2]
    split
    · exact fo1_len
    · exact ⟨rfl, rfl⟩
theorem foK_B {fr to fe : List Int} {w i : Int} : ∀ (n : Nat) (k c : Int) (t : fS), foB t c → foB (foK fr to fe w i n k t) (c + n)
  | 0, _, _, _, h => h.up (by omega)
  | n + 1, k, c, t, h => by
    have e : foB (if lat fr k = w then fo1 to fe i k t else t) (c + 1) := by
      split
      · exact fo1_B h
      · exact h.up (by omega)
    exact (foK_B n (k + 1) (c + 1) _ e).up (by omega)
theorem foR_len {fr to fe : List Int} : ∀ (n : Nat) (k : Int) (t : fS), (foR fr to fe n k t).1.length = t.1.length ∧ (foR fr to fe n k t).2.1.length = t.2.1.length
  | 0, _, _ => ⟨rfl, rfl⟩
  | n + 1, k, t => by
    have h := foR_len (fr := fr) (to := to) (fe := fe) n (k + 1) (foK fr to fe (lat t.1 k) k fr.length 0 t)
    have h2 := foK_len (fr := fr) (to := to) (fe := fe) (w := lat t.1 k) (i := k) fr.length 0 t
    exact ⟨h.1.trans h2.1, h.2.trans h2.2⟩
theorem foR_B {fr to fe : List Int} (hl : fr.length ≤ 4) : ∀ (n : Nat) (k c : Int) (t : fS), foB t c → foB (foR fr to fe n k t) (c + 4 * n)
  | 0, _, _, _, h => h.up (by omega)
  | n + 1, k, c, t, h => (foR_B hl n (k + 1) (c + 4) _ ((foK_B fr.length 0 c t h).up (by omega))).up (by omega)
section SCRIBE7
variable {l : Launch} {E : gE} {d : Nat} {K : List gK} {R V : Int → Int → Int} {B H S r g : Int} {n : Nat} {Q : gQ} {tx : List Int} {gs : List gG} {q : gG} {ex sc rc wy : Int} {ch tk fr to fe ea : List Int}
theorem bmIs.kept6 {V V1 : Int → Int → Int} {B ex sc : Int} {ch tk : List Int} (h : bmIs V B ex sc ch tk) (h0 : V1 B = V B) (hf : ∀ a, B + 6 ≤ a → a < B + 10 → V1 a = V a) : bmIs V1 B ex sc ch tk :=
  ⟨by rw [h0]; exact h.1, by rw [h0]; exact h.2.1, h.2.2.1.kept (hf _ (by omega) (by omega)) (hf _ (by omega) (by omega)), h.2.2.2.kept (hf _ (by omega) (by omega)) (hf _ (by omega) (by omega))⟩
set_option maxRecDepth 4000 in
theorem c_putIn {xs cn : List Int} (hS : scK K R S) (hB : bkK K R B) (hH : hdK K R H) (hr : gRow K R r n) (hn : n ≤ 40) (hrr : (B + 1 ≤ r ∧ r + 2 ≤ B + 6) ∨ (B + 10 ≤ r ∧ r + 2 ≤ B + 70)) (hd1 : H + 9 ≤ B ∨ B + 70 ≤ H) (hd2 : S + 3 ≤ B ∨ B + 70 ≤ S) (hd3 : S + 3 ≤ H ∨ H + 9 ≤ S) (hs : foIs V r n S B ex sc (xs, cn, ch, tk)) (hh : hdIs V H fr to fe ea rc wy) (hb : foB (xs, cn, ch, tk) 900) (hQ : ∀ V', foIs V' r n S B ex sc (foR fr to fe xs.length 0 (xs, cn, ch, tk)) → hdIs V' H fr to fe ea rc wy → foF V V' r B S → Q none (K, R, V')) : gC l E (d + 3) iX7_putForOthersIn [ga S, ga r, ga B, ga H] (K, R, V) Q := by
  refine gC_of kX7_putForOthersIn (ls := [some (ga S), some (ga r), some (ga B), some (ga H), none, none, none, none]) rfl (Nat.le_of_ble_eq_true rfl) ?_
  have hxl0 := hs.1.2.1
  have lp : ∀ (jj : Nat) (i : Int) (j5 : Option gV) (j6 : Option gV) (j7 : Option gV) (V1 : Int → Int → Int) (t0 : fS) (bc bs : Nat), (t0.1.length : Int) - i < (jj : Int) → 0 ≤ i → i ≤ t0.1.length → t0.1.length = xs.length → foIs V1 r n S B ex sc t0 → hdIs V1 H fr to fe ea rc wy → foF V V1 r B S → foB t0 (900 + 4 * i) → (∀ V', foIs V' r n S B ex sc (foR fr to fe (t0.1.length - i.toNat) i t0) → hdIs V' H fr to fe ea rc wy → foF V V' r B S → Q none (K, R, V')) → gX l E (gFm E (d + 3) iX7_putForOthersIn Q) 3 [some (ga S), some (ga r), some (ga B), some (ga H), some (gi i), j5, j6, j7] [] (K, R, V1) bc bs := by
    intro jj
    induction jj with
    | zero =>
      intro i j5 j6 j7 V1 t0 bc bs hj q0 q1 q2 hs1 hh1 hf1 hb1 hq2
      exfalso; omega
    | succ jj ih =>
      intro i j5 j6 j7 V1 t0 bc bs hj q0 q1 q2 hs1 hh1 hf1 hb1 hq2
      have hfl := hh1.1.2.1
      have hxl := hs1.1.2.1
      have lq : ∀ (jj : Nat) (k : Int) (j7 : Option gV) (V2 : Int → Int → Int) (t : fS) (bc bs : Nat), (fr.length : Int) - k < (jj : Int) → 0 ≤ k → k ≤ fr.length → foIs V2 r n S B ex sc t → hdIs V2 H fr to fe ea rc wy → foF V1 V2 r B S → foB t (900 + 4 * i + k) → (∀ V' j6 j7 bc bs, foIs V' r n S B ex sc (foK fr to fe (lat t0.1 i) i (fr.length - k.toNat) k t) → hdIs V' H fr to fe ea rc wy → foF V1 V' r B S → gX l E (gFm E (d + 3) iX7_putForOthersIn Q) 113 [some (ga S), some (ga r), some (ga B), some (ga H), some (gi i), some (gi (lat t0.1 i)), j6, j7] [] (K, R, V') bc bs) → gX l E (gFm E (d + 3) iX7_putForOthersIn Q) 23 [some (ga S), some (ga r), some (ga B), some (ga H), some (gi i), some (gi (lat t0.1 i)), some (gi k), j7] [] (K, R, V2) bc bs := by
        intro jj
        induction jj with
        | zero =>
          intro k j7 V2 t bc bs hj k0 k1 hs2 hh2 hf2 hb2 hk2
          exfalso; omega
        | succ jj ih =>
          intro k j7 V2 t bc bs hj k0 k1 hs2 hh2 hf2 hb2 hk2
          have hfl := hh2.1.2.1
          have hbk := hb2.2.2 k
          refine gX_iload dX7_putForOthersIn_23 rfl ?_
          refine gX_aloadn dX7_putForOthersIn_25 rfl ?_
          refine gX_gR 0 dX7_putForOthersIn_26 fdX7_67 rfl rfl hH.1 hH.2.1 ?_
          refine gX_virt (J := iX6_length) (av := []) (a := (H + 1)) (st := [gi k]) dX7_putForOthersIn_29 lkX7_70 kX6_length vX6_length (gFit_m (by decide)) hH.2.2.2.2.2.1.1 rfl rfl (Nat.le_of_ble_eq_true rfl) (Nat.zero_le _) (Nat.zero_le _) rfl ?_
          refine q_Row_length hH.2.2.2.2.2.1 hh2.1 ?_
          show gX l E _ 32 [some (ga S), some (ga r), some (ga B), some (ga H), some (gi i), some (gi (lat t0.1 i)), some (gi k), j7] [gi fr.length, gi k] (K, R, V2) _ _
          refine gX_icmpge (tgt := 113) dX7_putForOthersIn_32 (by decide) (fun w1 => ?_) (fun w1 => ?_)
          · have ei : fr.length - k.toNat = 0 := by omega
            rw [ei] at hk2
            exact hk2 V2 _ _ _ _ hs2 hh2 hf2
          · refine gX_aloadn dX7_putForOthersIn_35 rfl ?_
            refine gX_gR 0 dX7_putForOthersIn_36 fdX7_67 rfl rfl hH.1 hH.2.1 ?_
            refine gX_iload dX7_putForOthersIn_39 rfl ?_
            refine gX_virt (J := iX6_at) (av := [gi k]) (a := (H + 1)) (st := []) dX7_putForOthersIn_41 lkX7_29 kX6_at vX6_at (gFit_m (by decide)) hH.2.2.2.2.2.1.1 rfl rfl (Nat.le_of_ble_eq_true rfl) (Nat.zero_le _) (Nat.zero_le _) rfl ?_
            refine q_Row_at hH.2.2.2.2.2.1 hh2.1 ?_
            show gX l E _ 44 [some (ga S), some (ga r), some (ga B), some (ga H), some (gi i), some (gi (lat t0.1 i)), some (gi k), j7] [gi (lat fr k)] (K, R, V2) _ _
            refine gX_iload dX7_putForOthersIn_44 rfl ?_
            refine gX_icmpne (tgt := 107) dX7_putForOthersIn_46 (by decide) (fun w2 => ?_) (fun w2 => ?_)
            · refine gX_iinc dX7_putForOthersIn_107 rfl (show (6 : Nat) < 8 from by decide) ⟨by omega, by omega⟩ (ls2 := [some (ga S), some (ga r), some (ga B), some (ga H), some (gi i), some (gi (lat t0.1 i)), some (gi (k + 1)), j7]) rfl ?_
              refine gX_goto (tgt := 23) dX7_putForOthersIn_110 (by decide) ?_
              have ek : fr.length - k.toNat = (fr.length - (k + 1).toNat) + 1 := by omega
              have e1 : foK fr to fe (lat t0.1 i) i (fr.length - k.toNat) k t = foK fr to fe (lat t0.1 i) i (fr.length - (k + 1).toNat) (k + 1) t := by
                rw [ek]
                show foK fr to fe (lat t0.1 i) i _ _ (if _ then _ else _) = _
                rw [if_neg (by omega)]
              rw [e1] at hk2
              exact ih (k + 1) _ V2 t _ _ (by omega) (by omega) (by omega) hs2 hh2 hf2 (hb2.up (by omega)) hk2
            · refine gX_aloadn dX7_putForOthersIn_49 rfl ?_
              refine gX_gR 0 dX7_putForOthersIn_50 fdX7_14 rfl rfl hS.1 hS.2.1 ?_
              refine gX_iload dX7_putForOthersIn_53 rfl ?_
              refine gX_virt (J := iX6_at) (av := [gi k]) (a := (S + 1)) (st := []) dX7_putForOthersIn_55 lkX7_29 kX6_at vX6_at (gFit_m (by decide)) hS.2.2.1 rfl rfl (Nat.le_of_ble_eq_true rfl) (Nat.zero_le _) (Nat.zero_le _) rfl ?_
              refine q_Row_at hS.2.2 hs2.2.1 ?_
              show gX l E _ 58 [some (ga S), some (ga r), some (ga B), some (ga H), some (gi i), some (gi (lat t0.1 i)), some (gi k), j7] [gi (lat t.2.1 k)] (K, R, V2) _ _
              refine gX_iconst dX7_putForOthersIn_58 ⟨by decide, by decide⟩ ?_
              refine gX_iadd dX7_putForOthersIn_59 ⟨by omega, by omega⟩ ?_
              refine gX_istore dX7_putForOthersIn_60 (show (7 : Nat) < 8 from by decide) (ls2 := [some (ga S), some (ga r), some (ga B), some (ga H), some (gi i), some (gi (lat t0.1 i)), some (gi k), some (gi ((lat t.2.1 k) + 1))]) rfl ?_
              refine gX_aloadn dX7_putForOthersIn_62 rfl ?_
              refine gX_gR 0 dX7_putForOthersIn_63 fdX7_14 rfl rfl hS.1 hS.2.1 ?_
              refine gX_iload dX7_putForOthersIn_66 rfl ?_
              refine gX_iload dX7_putForOthersIn_68 rfl ?_
              refine gX_virt (J := iX6_put) (av := [gi k, gi ((lat t.2.1 k) + 1)]) (a := (S + 1)) (st := []) dX7_putForOthersIn_70 lkX7_60 kX6_put vX6_put (gFit_m (by decide)) hS.2.2.1 rfl rfl (Nat.le_of_ble_eq_true rfl) (Nat.zero_le _) (Nat.zero_le _) rfl ?_
              refine q_Row_put hS.2.2 hs2.2.1 (fun V3 hx3 hf3 => ?_)
              show gX l E _ 73 [some (ga S), some (ga r), some (ga B), some (ga H), some (gi i), some (gi (lat t0.1 i)), some (gi k), some (gi ((lat t.2.1 k) + 1))] [] (K, R, V3) _ _
              refine gX_iconst dX7_putForOthersIn_73 ⟨by decide, by decide⟩ ?_
              refine gX_iload dX7_putForOthersIn_74 rfl ?_
              refine gX_aloadn dX7_putForOthersIn_76 rfl ?_
              refine gX_gR 2 dX7_putForOthersIn_77 fdX7_92 rfl rfl hH.1 hH.2.2.2.1 ?_
              refine gX_iload dX7_putForOthersIn_80 rfl ?_
              refine gX_virt (J := iX6_at) (av := [gi k]) (a := (H + 5)) (st := [gi ((lat t.2.1 k) + 1), gi 0]) dX7_putForOthersIn_82 lkX7_29 kX6_at vX6_at (gFit_m (by decide)) hH.2.2.2.2.2.2.2.1.1 rfl rfl (Nat.le_of_ble_eq_true rfl) (Nat.zero_le _) (Nat.zero_le _) rfl ?_
              refine q_Row_at hH.2.2.2.2.2.2.2.1 (hh2.fr (hf3.fr (lo := S) (hi := S + 3) (by omega) (by omega)) (by omega)).2.2.1 ?_
              show gX l E _ 85 [some (ga S), some (ga r), some (ga B), some (ga H), some (gi i), some (gi (lat t0.1 i)), some (gi k), some (gi ((lat t.2.1 k) + 1))] [gi (lat fe k), gi ((lat t.2.1 k) + 1), gi 0] (K, R, V3) _ _
              refine gX_aloadn dX7_putForOthersIn_85 rfl ?_
              refine gX_stat (J := iX7_isTaken) (av := [gi 0, gi ((lat t.2.1 k) + 1), gi (lat fe k), ga B]) (st := []) dX7_putForOthersIn_86 lkX7_56 kX7_isTaken sX7_isTaken (gFit_m (by decide)) rfl (Nat.le_of_ble_eq_true rfl) (Nat.zero_le _) (Nat.zero_le _) rfl ?_
              refine c_isTaken hB (hs2.2.2.kept (fun a g1 g2 => hf3 a (by omega) (by omega))) (by omega) (by omega) (by omega) (hb2.1.up (by omega)) (hb2.2.1.up (by omega)) (fun V4 hm4 hf4 => ?_)
              show gX l E _ 89 [some (ga S), some (ga r), some (ga B), some (ga H), some (gi i), some (gi (lat t0.1 i)), some (gi k), some (gi ((lat t.2.1 k) + 1))] [gi (tkn ((lat t.2.1 k) + 1) (lat fe k))] (K, R, V4) _ _
              have o1 := tkn_01 ((lat t.2.1 k) + 1) (lat fe k)
              refine gX_ifeq (tgt := 107) dX7_putForOthersIn_89 (by decide) (fun w3 => ?_) (fun w3 => ?_)
              · refine gX_iinc dX7_putForOthersIn_107 rfl (show (6 : Nat) < 8 from by decide) ⟨by omega, by omega⟩ (ls2 := [some (ga S), some (ga r), some (ga B), some (ga H), some (gi i), some (gi (lat t0.1 i)), some (gi (k + 1)), some (gi ((lat t.2.1 k) + 1))]) rfl ?_
                refine gX_goto (tgt := 23) dX7_putForOthersIn_110 (by decide) ?_
                have ek : fr.length - k.toNat = (fr.length - (k + 1).toNat) + 1 := by omega
                have e1 : foK fr to fe (lat t0.1 i) i (fr.length - k.toNat) k t = foK fr to fe (lat t0.1 i) i (fr.length - (k + 1).toNat) (k + 1) (fo1 to fe i k t) := by
                  rw [ek]
                  show foK fr to fe (lat t0.1 i) i _ _ (if _ then _ else _) = _
                  rw [if_pos (by omega)]
                rw [e1] at hk2
                have ef : (fo1 to fe i k t).1 = t.1 := if_neg (by omega)
                refine ih (k + 1) _ V4 (fo1 to fe i k t) _ _ (by omega) (by omega) (by omega) ⟨?_, ?_, hm4⟩ ((hh2.fr (hf3.fr (lo := S) (hi := S + 3) (by omega) (by omega)) (by omega)).fr hf4 (by omega)) (hf2.trans ?_) ((fo1_B hb2).up (by omega)) hk2
                · rw [ef]; exact (hs2.1.kept (hf3 _ (by omega) (by omega)) (hf3 _ (by omega) (by omega))).kept (hf4 _ (by omega)) (hf4 _ (by omega))
                · exact hx3.kept (hf4 _ (by omega)) (hf4 _ (by omega))
                · exact fun a g1 g2 g3 g4 g5 => by rw [hf4 a (by omega), hf3 a (by omega) (by omega)]
              · refine gX_aloadn dX7_putForOthersIn_92 rfl ?_
                refine gX_iload dX7_putForOthersIn_93 rfl ?_
                refine gX_aloadn dX7_putForOthersIn_95 rfl ?_
                refine gX_gR 1 dX7_putForOthersIn_96 fdX7_95 rfl rfl hH.1 hH.2.2.1 ?_
                refine gX_iload dX7_putForOthersIn_99 rfl ?_
                refine gX_virt (J := iX6_at) (av := [gi k]) (a := (H + 3)) (st := [gi i, ga r]) dX7_putForOthersIn_101 lkX7_29 kX6_at vX6_at (gFit_m (by decide)) hH.2.2.2.2.2.2.1.1 rfl rfl (Nat.le_of_ble_eq_true rfl) (Nat.zero_le _) (Nat.zero_le _) rfl ?_
                refine q_Row_at hH.2.2.2.2.2.2.1 ((hh2.fr (hf3.fr (lo := S) (hi := S + 3) (by omega) (by omega)) (by omega)).fr hf4 (by omega)).2.1 ?_
                show gX l E _ 104 [some (ga S), some (ga r), some (ga B), some (ga H), some (gi i), some (gi (lat t0.1 i)), some (gi k), some (gi ((lat t.2.1 k) + 1))] [gi (lat to k), gi i, ga r] (K, R, V4) _ _
                refine gX_virt (J := iX6_put) (av := [gi i, gi (lat to k)]) (a := r) (st := []) dX7_putForOthersIn_104 lkX7_60 kX6_put vX6_put (gFit_m (by decide)) hr.1 rfl rfl (Nat.le_of_ble_eq_true rfl) (Nat.zero_le _) (Nat.zero_le _) rfl ?_
                refine q_Row_put hr ((hs2.1.kept (hf3 _ (by omega) (by omega)) (hf3 _ (by omega) (by omega))).kept (hf4 _ (by omega)) (hf4 _ (by omega))) (fun V5 hx5 hf5 => ?_)
                show gX l E _ 107 [some (ga S), some (ga r), some (ga B), some (ga H), some (gi i), some (gi (lat t0.1 i)), some (gi k), some (gi ((lat t.2.1 k) + 1))] [] (K, R, V5) _ _
                refine gX_iinc dX7_putForOthersIn_107 rfl (show (6 : Nat) < 8 from by decide) ⟨by omega, by omega⟩ (ls2 := [some (ga S), some (ga r), some (ga B), some (ga H), some (gi i), some (gi (lat t0.1 i)), some (gi (k + 1)), some (gi ((lat t.2.1 k) + 1))]) rfl ?_
                refine gX_goto (tgt := 23) dX7_putForOthersIn_110 (by decide) ?_
                have ek : fr.length - k.toNat = (fr.length - (k + 1).toNat) + 1 := by omega
                have e1 : foK fr to fe (lat t0.1 i) i (fr.length - k.toNat) k t = foK fr to fe (lat t0.1 i) i (fr.length - (k + 1).toNat) (k + 1) (fo1 to fe i k t) := by
                  rw [ek]
                  show foK fr to fe (lat t0.1 i) i _ _ (if _ then _ else _) = _
                  rw [if_pos (by omega)]
                rw [e1] at hk2
                have ef : (fo1 to fe i k t).1 = lput t.1 i (lat to k) := if_pos (by omega)
                refine ih (k + 1) _ V5 (fo1 to fe i k t) _ _ (by omega) (by omega) (by omega) ⟨?_, ?_, ?_⟩ (((hh2.fr (hf3.fr (lo := S) (hi := S + 3) (by omega) (by omega)) (by omega)).fr hf4 (by omega)).fr (hf5.fr (lo := B) (hi := B + 70) (by omega) (by omega)) (by omega)) (hf2.trans ?_) ((fo1_B hb2).up (by omega)) hk2
                · rw [ef]; exact hx5
                · exact (hx3.kept (hf4 _ (by omega)) (hf4 _ (by omega))).kept (hf5 _ (by omega) (by omega)) (hf5 _ (by omega) (by omega))
                · exact hm4.kept6 (hf5 _ (by omega) (by omega)) (fun a g1 g2 => hf5 a (by omega) (by omega))
                · exact fun a g1 g2 g3 g4 g5 => by rw [hf5 a g1 g2, hf4 a (by omega), hf3 a (by omega) (by omega)]
      refine gX_iload dX7_putForOthersIn_3 rfl ?_
      refine gX_aloadn dX7_putForOthersIn_5 rfl ?_
      refine gX_virt (J := iX6_length) (av := []) (a := r) (st := [gi i]) dX7_putForOthersIn_6 lkX7_70 kX6_length vX6_length (gFit_m (by decide)) hr.1 rfl rfl (Nat.le_of_ble_eq_true rfl) (Nat.zero_le _) (Nat.zero_le _) rfl ?_
      refine q_Row_length hr hs1.1 ?_
      show gX l E _ 9 [some (ga S), some (ga r), some (ga B), some (ga H), some (gi i), j5, j6, j7] [gi t0.1.length, gi i] (K, R, V1) _ _
      refine gX_icmpge (tgt := 119) dX7_putForOthersIn_9 (by decide) (fun m1 => ?_) (fun m1 => ?_)
      · refine gX_vret dX7_putForOthersIn_119 rfl ?_
        have ei : t0.1.length - i.toNat = 0 := by omega
        rw [ei] at hq2
        exact hq2 V1 hs1 hh1 hf1
      · refine gX_aloadn dX7_putForOthersIn_12 rfl ?_
        refine gX_iload dX7_putForOthersIn_13 rfl ?_
        refine gX_virt (J := iX6_at) (av := [gi i]) (a := r) (st := []) dX7_putForOthersIn_15 lkX7_29 kX6_at vX6_at (gFit_m (by decide)) hr.1 rfl rfl (Nat.le_of_ble_eq_true rfl) (Nat.zero_le _) (Nat.zero_le _) rfl ?_
        refine q_Row_at hr hs1.1 ?_
        show gX l E _ 18 [some (ga S), some (ga r), some (ga B), some (ga H), some (gi i), j5, j6, j7] [gi (lat t0.1 i)] (K, R, V1) _ _
        refine gX_istore dX7_putForOthersIn_18 (show (5 : Nat) < 8 from by decide) (ls2 := [some (ga S), some (ga r), some (ga B), some (ga H), some (gi i), some (gi (lat t0.1 i)), j6, j7]) rfl ?_
        refine gX_iconst dX7_putForOthersIn_20 ⟨by decide, by decide⟩ ?_
        refine gX_istore dX7_putForOthersIn_21 (show (6 : Nat) < 8 from by decide) (ls2 := [some (ga S), some (ga r), some (ga B), some (ga H), some (gi i), some (gi (lat t0.1 i)), some (gi 0), j7]) rfl ?_
        have hln := foK_len (fr := fr) (to := to) (fe := fe) (w := lat t0.1 i) (i := i) fr.length 0 t0
        refine lq (fr.length + 1) 0 _ V1 t0 _ _ (by omega) (by omega) (by omega) hs1 hh1 (fun _ _ _ _ _ _ => rfl) (hb1.up (by omega)) (fun V3 j6 j7 bc bs hs3 hh3 hf3 => ?_)
        refine gX_iinc dX7_putForOthersIn_113 rfl (show (4 : Nat) < 8 from by decide) ⟨by omega, by omega⟩ (ls2 := [some (ga S), some (ga r), some (ga B), some (ga H), some (gi (i + 1)), some (gi (lat t0.1 i)), j6, j7]) rfl ?_
        refine gX_goto (tgt := 3) dX7_putForOthersIn_116 (by decide) ?_
        have ek : t0.1.length - i.toNat = (t0.1.length - (i + 1).toNat) + 1 := by omega
        rw [ek] at hq2
        refine ih (i + 1) _ _ _ V3 (foK fr to fe (lat t0.1 i) i fr.length 0 t0) _ _ (by omega) (by omega) (by omega) (by omega) hs3 hh3 (hf1.trans hf3) ((foK_B _ _ _ _ hb1).up (by omega)) ?_
        rw [hln.1]
        exact hq2
  refine gX_iconst dX7_putForOthersIn_0 ⟨by decide, by decide⟩ ?_
  refine gX_istore dX7_putForOthersIn_1 (show (4 : Nat) < 8 from by decide) (ls2 := [some (ga S), some (ga r), some (ga B), some (ga H), some (gi 0), none, none, none]) rfl ?_
  exact lp (xs.length + 1) 0 none none none V (xs, cn, ch, tk) _ _ (by show (xs.length : Int) - 0 < _; omega) (by omega) (by show (0 : Int) ≤ (xs.length : Int); omega) rfl hs hh (fun _ _ _ _ _ _ => rfl) (hb.up (by omega)) hQ
end SCRIBE7
