/-! Scribe: one word for another, in the whole book. Written by wip/whole/tools/mk_scribe8.py. -/
/-- a gloss with another row -/
def rwG (q : gG) (xs : List Int) : gG := (q.1, q.2.1, q.2.2.1, q.2.2.2.1, q.2.2.2.2.1, xs)
abbrev fG : Type := List gG × List Int × List Int × List Int
def foQ (fr to fe : List Int) (t : fG) (g : Int) : fS := foR fr to fe (gq t.1 g).2.2.2.2.2.length 0 ((gq t.1 g).2.2.2.2.2, t.2)
def foG (fr to fe : List Int) : Nat → Int → fG → fG
  | 0, _, t => t
  | n + 1, g, t => foG fr to fe n (g + 1) (t.1.set g.toNat (rwG (gq t.1 g) (foQ fr to fe t g).1), (foQ fr to fe t g).2)
def foA (fr to fe : List Int) (s : cS) : fS := foR fr to fe s.1.length 0 (s.1, List.replicate fr.length 0, s.2.2.1, s.2.2.2)
def foZ (fr to fe : List Int) (s : cS) : fG := foG fr to fe s.2.1.length 0 (s.2.1, (foA fr to fe s).2)
def foS (fr to fe : List Int) (s : cS) : cS := ((foA fr to fe s).1, (foZ fr to fe s).1, (foZ fr to fe s).2.2.1, (foZ fr to fe s).2.2.2)
def wFr (V V' : Int → Int → Int) (B S : Int) : Prop := ∀ a, (a < B ∨ B + 70 ≤ a) → a ≠ S + 1 → a ≠ S + 2 → V' a = V a
theorem wFr.trans {V V1 V2 : Int → Int → Int} {B S : Int} (h : wFr V V1 B S) (h2 : wFr V1 V2 B S) : wFr V V2 B S := fun a h3 h4 h5 => (h2 a h3 h4 h5).trans (h a h3 h4 h5)
theorem foF.w {V V1 : Int → Int → Int} {r B S : Int} (h : foF V V1 r B S) (h2 : B ≤ r ∧ r + 2 ≤ B + 70) : wFr V V1 B S := fun a h3 h4 h5 => h a (by omega) (by omega) (by omega) h4 h5
theorem bkIs.sett2 {V V' : Int → Int → Int} {B : Int} {tx tx' : List Int} {gs : List gG} (h : bkIs V B tx gs) (ht : rIs V' (B + 1) 40 tx') (h5 : V' B 5 = V B 5) (hf : ∀ a, B + 10 ≤ a → a < B + 70 → V' a = V a) : bkIs V' B tx' gs := by
  have h20 := h.2.2.1
  refine ⟨ht, by rw [h5]; exact h.2.1, h20, fun j q2 hj => ?_⟩
  have hl := (List.getElem?_eq_some_iff.mp hj).1
  exact (h.2.2.2 j q2 hj).kept (hf _ (by omega) (by omega)) (hf _ (by omega) (by omega)) (hf _ (by omega) (by omega))
theorem lat_rep (n : Nat) (k : Int) : lat (List.replicate n 0) k = -1 ∨ lat (List.replicate n 0) k = 0 := by
  unfold lat
  split
  · exact Or.inl rfl
  · rw [List.getD_eq_getElem?_getD]
    by_cases c : k.toNat < n
    · rw [List.getElem?_replicate_of_lt c]; exact Or.inr rfl
    · rw [List.getElem?_eq_none (by rw [List.length_replicate]; omega)]; exact Or.inl rfl
section SCRIBE8
variable {l : Launch} {E : gE} {d : Nat} {K : List gK} {R V : Int → Int → Int} {B H S g : Int} {Q : gQ} {tx : List Int} {gs : List gG} {q : gG} {ex sc rc wy : Int} {ch tk fr to fe ea : List Int}
theorem c_rowOfG (hB : bkK K R B) (hb : bkIs V B tx gs) (h0 : 0 ≤ g) (h1 : g < gs.length) (hQ : Q (some (ga (B + 10 + 3 * g + 1))) (K, R, V)) : gC l E (d + 2) iX1_rowOf [ga B, gi g] (K, R, V) Q := c_rowOf hB hb (by
  have e : rwA B gs.length g = B + 10 + 3 * g + 1 := by unfold rwA; rw [if_pos ⟨h0, h1⟩]; omega
  rw [e]; exact hQ)
set_option maxRecDepth 4000 in
theorem c_putFor {s0 : cS} (hS : scK K R S) (hB : bkK K R B) (hH : hdK K R H) (hd1 : H + 9 ≤ B ∨ B + 70 ≤ H) (hd2 : S + 3 ≤ B ∨ B + 70 ≤ S) (hd3 : S + 3 ≤ H ∨ H + 9 ≤ S) (hs : fbIs V B ex sc s0) (hh : hdIs V H fr to fe ea rc wy) (hc : cBd s0.2.2.1 0) (ht : cBd s0.2.2.2 0) (hQ : ∀ V', fbIs V' B ex sc (foS fr to fe s0) → hdIs V' H fr to fe ea rc wy → wFr V V' B S → Q none (K, R, V')) : gC l E (d + 4) iX7_putForOthers [ga S, ga B, ga H] (K, R, V) Q := by
  refine gC_of kX7_putForOthers (ls := [some (ga S), some (ga B), some (ga H), none]) rfl (Nat.le_of_ble_eq_true rfl) ?_
  have hfl := hh.1.2.1
  have hxl := hs.1.1.2.1
  have h20 := hs.1.2.2.1
  have lp : ∀ (jj : Nat) (tx1 : List Int) (i : Int) (V1 : Int → Int → Int) (t : fG) (bc bs : Nat), (t.1.length : Int) - i < (jj : Int) → 0 ≤ i → i ≤ t.1.length → t.1.length = s0.2.1.length → bkIs V1 B tx1 t.1 → rIs V1 (S + 1) 4 t.2.1 → bmIs V1 B ex sc t.2.2.1 t.2.2.2 → hdIs V1 H fr to fe ea rc wy → wFr V V1 B S → foB ([], t.2) (160 + 32 * i) → (∀ V', fbIs V' B ex sc (tx1, (foG fr to fe (t.1.length - i.toNat) i t).1, (foG fr to fe (t.1.length - i.toNat) i t).2.2.1, (foG fr to fe (t.1.length - i.toNat) i t).2.2.2) → hdIs V' H fr to fe ea rc wy → wFr V V' B S → Q none (K, R, V')) → gX l E (gFm E (d + 4) iX7_putForOthers Q) 27 [some (ga S), some (ga B), some (ga H), some (gi i)] [] (K, R, V1) bc bs := by
    intro jj
    induction jj with
    | zero =>
      intro tx1 i V1 t bc bs hj q0 q1 q2 hb1 hx1 hm1 hh1 hf1 hB1 hq2
      exfalso; omega
    | succ jj ih =>
      intro tx1 i V1 t bc bs hj q0 q1 q2 hb1 hx1 hm1 hh1 hf1 hB1 hq2
      have hcn := hb1.2.1
      have h20 := hb1.2.2.1
      have hfl := hh1.1.2.1
      refine gX_iloadn dX7_putForOthers_27 rfl ?_
      refine gX_aloadn dX7_putForOthers_28 rfl ?_
      refine gX_gI 5 dX7_putForOthers_29 fdX7_84 rfl (Or.inl rfl) hB.1 ?_
      refine gX_icmpge (tgt := 52) dX7_putForOthers_32 (by decide) (fun w1 => ?_) (fun w1 => ?_)
      · refine gX_vret dX7_putForOthers_52 rfl ?_
        have ei : t.1.length - i.toNat = 0 := by omega
        rw [ei] at hq2
        exact hq2 V1 ⟨hb1, hm1⟩ hh1 hf1
      · refine gX_aloadn dX7_putForOthers_35 rfl ?_
        refine gX_aloadn dX7_putForOthers_36 rfl ?_
        refine gX_iloadn dX7_putForOthers_37 rfl ?_
        have hrl := (hb1.gl q0 (by omega : i < (t.1.length : Int))).2.2.2.2.2.2.2.1
        have hB2 : ∀ xs : List Int, foB (xs, t.2.1, t.2.2.1, t.2.2.2) 900 := fun xs => (show foB (xs, t.2) _ from hB1).up (by omega)
        refine gX_virt (J := iX1_rowOf) (av := [gi i]) (a := B) (st := [ga S]) dX7_putForOthers_38 lkX7_88 kX1_rowOf vX1_rowOf (gFit_m (by decide)) hB.1 rfl rfl (Nat.le_of_ble_eq_true rfl) (Nat.zero_le _) (Nat.zero_le _) rfl ?_
        refine c_rowOfG hB hb1 q0 (by omega) ?_
        show gX l E _ 41 [some (ga S), some (ga B), some (ga H), some (gi i)] [ga (B + 10 + 3 * i + 1), ga S] (K, R, V1) _ _
        refine gX_aloadn dX7_putForOthers_41 rfl ?_
        refine gX_aloadn dX7_putForOthers_42 rfl ?_
        refine gX_virt (J := iX7_putForOthersIn) (av := [ga (B + 10 + 3 * i + 1), ga B, ga H]) (a := S) (st := []) dX7_putForOthers_43 lkX7_80 kX7_putForOthersIn vX7_putForOthersIn (gFit_m (by decide)) hS.1 rfl rfl (Nat.le_of_ble_eq_true rfl) (Nat.zero_le _) (Nat.zero_le _) rfl ?_
        refine c_putIn hS hB hH (hB.2.2.2.2.2.2.2.2.2.2.2 i q0 (by omega)).2.2.2 (by omega) (by omega) hd1 hd2 hd3 ⟨(hb1.gl q0 (by omega)).2.2.2.2.2.2, hx1, hm1⟩ hh1 (hB2 (gq t.1 i).2.2.2.2.2) (fun V2 hs2 hh2 hf2 => ?_)
        show gX l E _ 46 [some (ga S), some (ga B), some (ga H), some (gi i)] [] (K, R, V2) _ _
        refine gX_iinc dX7_putForOthers_46 rfl (show (3 : Nat) < 4 from by decide) ⟨by omega, by omega⟩ (ls2 := [some (ga S), some (ga B), some (ga H), some (gi (i + 1))]) rfl ?_
        refine gX_goto (tgt := 27) dX7_putForOthers_49 (by decide) ?_
        have ek : t.1.length - i.toNat = (t.1.length - (i + 1).toNat) + 1 := by omega
        rw [ek] at hq2
        have el : (t.1.set i.toNat (rwG (gq t.1 i) (foQ fr to fe t i).1)).length = t.1.length := List.length_set
        refine ih tx1 (i + 1) V2 (t.1.set i.toNat (rwG (gq t.1 i) (foQ fr to fe t i).1), (foQ fr to fe t i).2) _ _ (by show ((t.1.set i.toNat (rwG (gq t.1 i) (foQ fr to fe t i).1)).length : Int) - (i + 1) < _; omega) (by omega) (by show i + 1 ≤ ((t.1.set i.toNat (rwG (gq t.1 i) (foQ fr to fe t i).1)).length : Int); omega) (by show (t.1.set i.toNat (rwG (gq t.1 i) (foQ fr to fe t i).1)).length = _; omega) ?_ hs2.2.1 hs2.2.2 hh2 (hf1.trans (hf2.w (by omega))) ?_ ?_
        · have hv := hb1.gl q0 (by omega : i < (t.1.length : Int))
          have hk : V2 (B + 10 + 3 * i) = V1 (B + 10 + 3 * i) := hf2 _ (by omega) (by omega) (by omega) (by omega) (by omega)
          exact hb1.setg2 q0 (by omega) ⟨by rw [hk]; exact hv.1, by rw [hk]; exact hv.2.1, by rw [hk]; exact hv.2.2.1, by rw [hk]; exact hv.2.2.2.1, by rw [hk]; exact hv.2.2.2.2.1, hv.2.2.2.2.2.1, hs2.1⟩ (by rw [hf2 B (by omega) (by omega) (by omega) (by omega) (by omega)]) (hf2 _ (by omega) (by omega) (by omega) (by omega) (by omega)) (hf2 _ (by omega) (by omega) (by omega) (by omega) (by omega)) (fun a g1 g2 g3 => hf2 a (by omega) (by omega) (by omega) (by omega) (by omega))
        · have z := foR_B (to := to) (fe := fe) hfl (gq t.1 i).2.2.2.2.2.length 0 _ ((gq t.1 i).2.2.2.2.2, t.2) hB1
          have z2 : foB ([], (foQ fr to fe t i).2) _ := z
          exact z2.up (by omega)
        · show ∀ V', fbIs V' B ex sc (tx1, (foG fr to fe ((t.1.set i.toNat (rwG (gq t.1 i) (foQ fr to fe t i).1)).length - (i + 1).toNat) (i + 1) _).1, (foG fr to fe ((t.1.set i.toNat (rwG (gq t.1 i) (foQ fr to fe t i).1)).length - (i + 1).toNat) (i + 1) _).2.2.1, (foG fr to fe ((t.1.set i.toNat (rwG (gq t.1 i) (foQ fr to fe t i).1)).length - (i + 1).toNat) (i + 1) _).2.2.2) → _
          rw [el]
          exact hq2
  refine gX_aloadn dX7_putForOthers_0 rfl ?_
  refine gX_gR 0 dX7_putForOthers_1 fdX7_14 rfl rfl hS.1 hS.2.1 ?_
  refine gX_aloadn dX7_putForOthers_4 rfl ?_
  refine gX_gR 0 dX7_putForOthers_5 fdX7_67 rfl rfl hH.1 hH.2.1 ?_
  refine gX_virt (J := iX6_length) (av := []) (a := (H + 1)) (st := [ga (S + 1)]) dX7_putForOthers_8 lkX7_70 kX6_length vX6_length (gFit_m (by decide)) hH.2.2.2.2.2.1.1 rfl rfl (Nat.le_of_ble_eq_true rfl) (Nat.zero_le _) (Nat.zero_le _) rfl ?_
  refine q_Row_length hH.2.2.2.2.2.1 hh.1 ?_
  show gX l E _ 11 [some (ga S), some (ga B), some (ga H), none] [gi fr.length, ga (S + 1)] (K, R, V) _ _
  refine gX_iconst dX7_putForOthers_11 ⟨by decide, by decide⟩ ?_
  refine gX_virt (J := iX6_fill) (av := [gi fr.length, gi 0]) (a := (S + 1)) (st := []) dX7_putForOthers_12 lkX7_74 kX6_fill vX6_fill (gFit_m (by decide)) hS.2.2.1 rfl rfl (Nat.le_of_ble_eq_true rfl) (Nat.zero_le _) (Nat.zero_le _) rfl ?_
  refine q_Row_fill hS.2.2 (by omega) (by omega) (fun V1 hx1 hf1 => ?_)
  show gX l E _ 15 [some (ga S), some (ga B), some (ga H), none] [] (K, R, V1) _ _
  have hb1 := hs.1.kept (V' := V1) (fun a g1 g2 => hf1 a (by omega) (by omega))
  have hm1 := hs.2.kept (V' := V1) (fun a g1 g2 => hf1 a (by omega) (by omega))
  have hh1 := hh.fr (hf1.fr (lo := S) (hi := S + 3) (by omega) (by omega)) (by omega)
  have hx2 : rIs V1 (S + 1) 4 (List.replicate fr.length 0) := hx1
  have hB0 : foB (s0.1, List.replicate fr.length 0, s0.2.2.1, s0.2.2.2) 0 := ⟨hc, ht, fun k => by have z := lat_rep fr.length k; show -1 ≤ lat (List.replicate fr.length 0) k ∧ lat (List.replicate fr.length 0) k ≤ 0; omega⟩
  have hB1 : foB (s0.1, List.replicate fr.length 0, s0.2.2.1, s0.2.2.2) 900 := hB0.up (by omega)
  refine gX_aloadn dX7_putForOthers_15 rfl ?_
  refine gX_aloadn dX7_putForOthers_16 rfl ?_
  refine gX_gR 0 dX7_putForOthers_17 fdX7_77 rfl rfl hB.1 hB.2.1 ?_
  refine gX_aloadn dX7_putForOthers_20 rfl ?_
  refine gX_aloadn dX7_putForOthers_21 rfl ?_
  refine gX_virt (J := iX7_putForOthersIn) (av := [ga (B + 1), ga B, ga H]) (a := S) (st := []) dX7_putForOthers_22 lkX7_80 kX7_putForOthersIn vX7_putForOthersIn (gFit_m (by decide)) hS.1 rfl rfl (Nat.le_of_ble_eq_true rfl) (Nat.zero_le _) (Nat.zero_le _) rfl ?_
  refine c_putIn hS hB hH hB.2.2.2.2.2.2.1 (by omega) (by omega) hd1 hd2 hd3 ⟨hb1.1, hx2, hm1⟩ hh1 hB1 (fun V2 hs2 hh2 hf2 => ?_)
  show gX l E _ 25 [some (ga S), some (ga B), some (ga H), none] [] (K, R, V2) _ _
  refine gX_iconst dX7_putForOthers_25 ⟨by decide, by decide⟩ ?_
  refine gX_istoren dX7_putForOthers_26 (show (3 : Nat) < 4 from by decide) (ls2 := [some (ga S), some (ga B), some (ga H), some (gi 0)]) rfl ?_
  have hw1 : wFr V V1 B S := fun a g1 g2 g3 => hf1 a (by omega) (by omega)
  refine lp (s0.2.1.length + 1) (foA fr to fe s0).1 0 V2 (s0.2.1, (foA fr to fe s0).2) _ _ (by show (s0.2.1.length : Int) - 0 < _; omega) (by omega) (by show (0 : Int) ≤ (s0.2.1.length : Int); omega) rfl ?_ hs2.2.1 hs2.2.2 hh2 (hw1.trans (hf2.w (by omega))) ?_ hQ
  · exact hb1.sett2 hs2.1 (by rw [hf2 B (by omega) (by omega) (by omega) (by omega) (by omega)]) (fun a g1 g2 => hf2 a (by omega) (by omega) (by omega) (by omega) (by omega))
  · have z := foR_B (to := to) (fe := fe) hfl s0.1.length 0 0 _ hB0
    have z2 : foB ([], (foA fr to fe s0).2) _ := z
    exact z2.up (by omega)
end SCRIBE8
