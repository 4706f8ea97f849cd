/-! Tree. Written by wip/whole/tools/mk_tree.py. -/
def trK (K : List gK) (R : Int → Int → Int) (W : Int) : Prop := kd (K, R, fun _ _ => 0) W = some (.inl 8) ∧ R W 0 = W + 1 ∧ R W 1 = W + 3 ∧ gRow K R (W + 1) 100 ∧ gRow K R (W + 3) 10
/-- the distances, the parents, the sum -/
def trIs (V : Int → Int → Int) (W : Int) (ds pa : List Int) (su : Int) : Prop := rIs V (W + 1) 100 ds ∧ rIs V (W + 3) 10 pa ∧ V W 2 = su
def apt (ds : List Int) (a b : Int) : Int := lat ds (a * 10 + b)
def neF (ds : List Int) (b mm : Int) : Nat → Int → Int → Int
  | 0, _, n => n
  | j + 1, k, n => neF ds b mm j (k + 1) (if inB mm k = true ∧ (n = -1 ∨ apt ds k b < apt ds n b) then k else n)
def nea (ds : List Int) (b mm : Int) : Int := neF ds b mm 10 0 (-1)
/-- the next book and its host -/
def nxF (ds : List Int) (se mm : Int) : Nat → Int → Int × Int → Int × Int
  | 0, _, p => p
  | j + 1, b, p => nxF ds se mm j (b + 1) (if inB se b = true ∧ inB mm b = false ∧ (p.1 = -1 ∨ apt ds (nea ds b mm) b < apt ds p.2 p.1) then (b, nea ds b mm) else p)
def nxB (ds : List Int) (se mm : Int) : Int × Int := nxF ds se mm 10 0 (-1, -1)
def grF (ds : List Int) (se : Int) : Nat → Int → List Int × Int → List Int × Int
  | 0, _, t => t
  | j + 1, mm, t => if mm = se then t else if (nxB ds se mm).1 = -1 then t else grF ds se j (gor mm (gshl 1 (nxB ds se mm).1)) (lput t.1 (nxB ds se mm).1 (nxB ds se mm).2, t.2 + apt ds (nxB ds se mm).2 (nxB ds se mm).1)
theorem neF_in {ds : List Int} {b mm : Int} : ∀ (j : Nat) (k n : Int), 0 ≤ k → k + j ≤ 10 → -1 ≤ n → n < 10 → -1 ≤ neF ds b mm j k n ∧ neF ds b mm j k n < 10
  | 0, _, _, _, _, h, h2 => ⟨h, h2⟩
  | j + 1, k, n, h0, h1, h2, h3 => by
    show -1 ≤ neF ds b mm j (k + 1) _ ∧ neF ds b mm j (k + 1) _ < 10
    split
    · exact neF_in j (k + 1) k (by omega) (by omega) (by omega) (by omega)
    · exact neF_in j (k + 1) n (by omega) (by omega) h2 h3
theorem nea_in (ds : List Int) (b mm : Int) : -1 ≤ nea ds b mm ∧ nea ds b mm < 10 := neF_in 10 0 (-1) (by omega) (by omega) (by omega) (by omega)
theorem nxF_in {ds : List Int} {se mm : Int} : ∀ (j : Nat) (b : Int) (p : Int × Int), 0 ≤ b → b + j ≤ 10 → -1 ≤ p.1 ∧ p.1 < 10 ∧ -1 ≤ p.2 ∧ p.2 < 10 → -1 ≤ (nxF ds se mm j b p).1 ∧ (nxF ds se mm j b p).1 < 10 ∧ -1 ≤ (nxF ds se mm j b p).2 ∧ (nxF ds se mm j b p).2 < 10
  | 0, _, _, _, _, h => h
  | j + 1, b, p, h0, h1, h => by
    have z := nea_in ds b mm
    by_cases c : inB se b = true ∧ inB mm b = false ∧ (p.1 = -1 ∨ apt ds (nea ds b mm) b < apt ds p.2 p.1)
    · have e : nxF ds se mm (j + 1) b p = nxF ds se mm j (b + 1) (b, nea ds b mm) := by
        show nxF ds se mm j (b + 1) (if _ then _ else _) = _
        rw [if_pos c]
      rw [e]
      exact nxF_in j (b + 1) (b, nea ds b mm) (by omega) (by omega) ⟨by show -1 ≤ b; omega, by show b < 10; omega, z.1, z.2⟩
    · have e : nxF ds se mm (j + 1) b p = nxF ds se mm j (b + 1) p := by
        show nxF ds se mm j (b + 1) (if _ then _ else _) = _
        rw [if_neg c]
      rw [e]
      exact nxF_in j (b + 1) p (by omega) (by omega) h
section TREE
variable {l : Launch} {E : gE} {d : Nat} {K : List gK} {R V : Int → Int → Int} {W : Int} {Q : gQ} {ds pa : List Int} {su : Int}
set_option maxRecDepth 4000 in
theorem c_trBegin (hW : trK K R W) (hQ : ∀ V', trIs V' W (List.replicate 100 0) (List.replicate 10 (-1)) 0 → gFr V V' W (W + 5) → Q none (K, R, V')) : gC l E (d + 3) iX9_begin [ga W] (K, R, V) Q := by
  refine gC_of kX9_begin (ls := [some (ga W)]) rfl (Nat.le_of_ble_eq_true rfl) ?_
  refine gX_aloadn dX9_begin_0 rfl ?_
  refine gX_gR 0 dX9_begin_1 fdX9_14 rfl rfl hW.1 hW.2.1 ?_
  refine gX_bipush dX9_begin_4 (by decide) ⟨by decide, by decide⟩ ?_
  refine gX_iconst dX9_begin_6 ⟨by decide, by decide⟩ ?_
  refine gX_virt (J := iX6_fill) (av := [gi 100, gi 0]) (a := (W + 1)) (st := []) dX9_begin_7 lkX9_27 kX6_fill vX6_fill (gFit_m (by decide)) hW.2.2.2.1.1 rfl rfl (Nat.le_of_ble_eq_true rfl) (Nat.zero_le _) (Nat.zero_le _) rfl ?_
  refine q_Row_fill hW.2.2.2.1 (by omega) (by omega) (fun V1 hx1 hf1 => ?_)
  show gX l E _ 10 [some (ga W)] [] (K, R, V1) _ _
  refine gX_aloadn dX9_begin_10 rfl ?_
  refine gX_gR 1 dX9_begin_11 fdX9_20 rfl rfl hW.1 hW.2.2.1 ?_
  refine gX_bipush dX9_begin_14 (by decide) ⟨by decide, by decide⟩ ?_
  refine gX_iconst dX9_begin_16 ⟨by decide, by decide⟩ ?_
  refine gX_virt (J := iX6_fill) (av := [gi 10, gi (-1)]) (a := (W + 3)) (st := []) dX9_begin_17 lkX9_27 kX6_fill vX6_fill (gFit_m (by decide)) hW.2.2.2.2.1 rfl rfl (Nat.le_of_ble_eq_true rfl) (Nat.zero_le _) (Nat.zero_le _) rfl ?_
  refine q_Row_fill hW.2.2.2.2 (by omega) (by omega) (fun V2 hx2 hf2 => ?_)
  show gX l E _ 20 [some (ga W)] [] (K, R, V2) _ _
  refine gX_aloadn dX9_begin_20 rfl ?_
  refine gX_iconst dX9_begin_21 ⟨by decide, by decide⟩ ?_
  refine gX_pI 2 dX9_begin_22 fdX9_23 fpX9_23 rfl (Or.inl rfl) hW.1 ?_
  refine gX_vret dX9_begin_25 rfl ?_
  exact hQ _ ⟨(hx1.kept (hf2 _ (by omega) (by omega)) (hf2 _ (by omega) (by omega))).kept (gup_ne (by omega)) (gup_ne (by omega)), hx2.kept (gup_ne (by omega)) (gup_ne (by omega)), gup_s⟩ (fun a ha => by rw [gup_ne (by omega), hf2 a (by omega) (by omega), hf1 a (by omega) (by omega)])
set_option maxRecDepth 4000 in
theorem c_tellDistance {a b x : Int} (hW : trK K R W) (hw : trIs V W ds pa su) (hb : 0 ≤ a ∧ a < 10 ∧ 0 ≤ b ∧ b < 10) (hQ : ∀ V', trIs V' W (lput (lput ds (a * 10 + b) x) (b * 10 + a) x) pa su → gFr V V' (W + 1) (W + 3) → Q none (K, R, V')) : gC l E (d + 2) iX9_tellDistance [ga W, gi a, gi b, gi x] (K, R, V) Q := by
  refine gC_of kX9_tellDistance (ls := [some (ga W), some (gi a), some (gi b), some (gi x)]) rfl (Nat.le_of_ble_eq_true rfl) ?_
  refine gX_aloadn dX9_tellDistance_0 rfl ?_
  refine gX_gR 0 dX9_tellDistance_1 fdX9_14 rfl rfl hW.1 hW.2.1 ?_
  refine gX_iloadn dX9_tellDistance_4 rfl ?_
  refine gX_bipush dX9_tellDistance_5 (by decide) ⟨by decide, by decide⟩ ?_
  refine gX_imul dX9_tellDistance_7 ⟨by omega, by omega⟩ ?_
  refine gX_iloadn dX9_tellDistance_8 rfl ?_
  refine gX_iadd dX9_tellDistance_9 ⟨by omega, by omega⟩ ?_
  refine gX_iloadn dX9_tellDistance_10 rfl ?_
  refine gX_virt (J := iX6_put) (av := [gi ((a * 10) + b), gi x]) (a := (W + 1)) (st := []) dX9_tellDistance_11 lkX9_31 kX6_put vX6_put (gFit_m (by decide)) hW.2.2.2.1.1 rfl rfl (Nat.le_of_ble_eq_true rfl) (Nat.zero_le _) (Nat.zero_le _) rfl ?_
  refine q_Row_put hW.2.2.2.1 hw.1 (fun V1 hx1 hf1 => ?_)
  show gX l E _ 14 [some (ga W), some (gi a), some (gi b), some (gi x)] [] (K, R, V1) _ _
  refine gX_aloadn dX9_tellDistance_14 rfl ?_
  refine gX_gR 0 dX9_tellDistance_15 fdX9_14 rfl rfl hW.1 hW.2.1 ?_
  refine gX_iloadn dX9_tellDistance_18 rfl ?_
  refine gX_bipush dX9_tellDistance_19 (by decide) ⟨by decide, by decide⟩ ?_
  refine gX_imul dX9_tellDistance_21 ⟨by omega, by omega⟩ ?_
  refine gX_iloadn dX9_tellDistance_22 rfl ?_
  refine gX_iadd dX9_tellDistance_23 ⟨by omega, by omega⟩ ?_
  refine gX_iloadn dX9_tellDistance_24 rfl ?_
  refine gX_virt (J := iX6_put) (av := [gi ((b * 10) + a), gi x]) (a := (W + 1)) (st := []) dX9_tellDistance_25 lkX9_31 kX6_put vX6_put (gFit_m (by decide)) hW.2.2.2.1.1 rfl rfl (Nat.le_of_ble_eq_true rfl) (Nat.zero_le _) (Nat.zero_le _) rfl ?_
  refine q_Row_put hW.2.2.2.1 hx1 (fun V2 hx2 hf2 => ?_)
  show gX l E _ 28 [some (ga W), some (gi a), some (gi b), some (gi x)] [] (K, R, V2) _ _
  refine gX_vret dX9_tellDistance_28 rfl ?_
  exact hQ V2 ⟨hx2, (hw.2.1.kept (hf1 _ (by omega) (by omega)) (hf1 _ (by omega) (by omega))).kept (hf2 _ (by omega) (by omega)) (hf2 _ (by omega) (by omega)), by rw [hf2 W (by omega) (by omega), hf1 W (by omega) (by omega)]; exact hw.2.2⟩ ((hf1.trans hf2).fr (by omega) (by omega))
set_option maxRecDepth 4000 in
theorem c_apart {a b : Int} (hW : trK K R W) (hw : rIs V (W + 1) 100 ds) (hb : -1 ≤ a ∧ a < 10 ∧ -1 ≤ b ∧ b < 10) (hQ : Q (some (gi (apt ds a b))) (K, R, V)) : gC l E (d + 2) iX9_apart [ga W, gi a, gi b] (K, R, V) Q := by
  refine gC_of kX9_apart (ls := [some (ga W), some (gi a), some (gi b)]) rfl (Nat.le_of_ble_eq_true rfl) ?_
  refine gX_aloadn dX9_apart_0 rfl ?_
  refine gX_gR 0 dX9_apart_1 fdX9_14 rfl rfl hW.1 hW.2.1 ?_
  refine gX_iloadn dX9_apart_4 rfl ?_
  refine gX_bipush dX9_apart_5 (by decide) ⟨by decide, by decide⟩ ?_
  refine gX_imul dX9_apart_7 ⟨by omega, by omega⟩ ?_
  refine gX_iloadn dX9_apart_8 rfl ?_
  refine gX_iadd dX9_apart_9 ⟨by omega, by omega⟩ ?_
  refine gX_virt (J := iX6_at) (av := [gi ((a * 10) + b)]) (a := (W + 1)) (st := []) dX9_apart_10 lkX9_34 kX6_at vX6_at (gFit_m (by decide)) hW.2.2.2.1.1 rfl rfl (Nat.le_of_ble_eq_true rfl) (Nat.zero_le _) (Nat.zero_le _) rfl ?_
  refine q_Row_at hW.2.2.2.1 hw ?_
  show gX l E _ 13 [some (ga W), some (gi a), some (gi b)] [gi (apt ds a b)] (K, R, V) _ _
  refine gX_iret dX9_apart_13 (Or.inl rfl) ?_
  exact hQ
set_option maxRecDepth 4000 in
theorem c_nearest {b mm : Int} (hW : trK K R W) (hw : rIs V (W + 1) 100 ds) (hb : 0 ≤ b ∧ b < 10) (hQ : Q (some (gi (nea ds b mm))) (K, R, V)) : gC l E (d + 3) iX9_nearest [ga W, gi b, gi mm] (K, R, V) Q := by
  refine gC_of kX9_nearest (ls := [some (ga W), some (gi b), some (gi mm), none, none]) rfl (Nat.le_of_ble_eq_true rfl) ?_
  have lp : ∀ (jj : Nat) (k : Int) (n : Int) (bc bs : Nat), (10 : Int) - k < (jj : Int) → 0 ≤ k → k ≤ 10 → -1 ≤ n → n < 10 → (Q (some (gi (neF ds b mm (10 - k).toNat k n))) (K, R, V)) → gX l E (gFm E (d + 3) iX9_nearest Q) 5 [some (ga W), some (gi b), some (gi mm), some (gi n), some (gi k)] [] (K, R, V) bc bs := by
    intro jj
    induction jj with
    | zero =>
      intro k n bc bs hj q0 q1 q2 q3 hq2
      exfalso; omega
    | succ jj ih =>
      intro k n bc bs hj q0 q1 q2 q3 hq2
      refine gX_iload dX9_nearest_5 rfl ?_
      refine gX_bipush dX9_nearest_7 (by decide) ⟨by decide, by decide⟩ ?_
      refine gX_icmpge (tgt := 51) dX9_nearest_9 (by decide) (fun w1 => ?_) (fun w1 => ?_)
      · refine gX_iloadn dX9_nearest_51 rfl ?_
        refine gX_iret dX9_nearest_52 (Or.inl rfl) ?_
        have ei : (10 - k).toNat = 0 := by omega
        rw [ei] at hq2
        exact hq2
      · refine gX_iloadn dX9_nearest_12 rfl ?_
        refine gX_iload dX9_nearest_13 rfl ?_
        refine gX_stat (J := iX11_isIn) (av := [gi mm, gi k]) (st := []) dX9_nearest_15 lkX9_38 kX11_isIn sX11_isIn (gFit_m (by decide)) rfl (Nat.le_of_ble_eq_true rfl) (Nat.zero_le _) (Nat.zero_le _) rfl ?_
        refine c_isIn ?_
        show gX l E _ 18 [some (ga W), some (gi b), some (gi mm), some (gi n), some (gi k)] [gi (b2i (inB mm k))] (K, R, V) _ _
        refine gX_ifeq (tgt := 45) dX9_nearest_18 (by decide) (fun w2 => ?_) (fun w2 => ?_)
        · refine gX_iinc dX9_nearest_45 rfl (show (4 : Nat) < 5 from by decide) ⟨by omega, by omega⟩ (ls2 := [some (ga W), some (gi b), some (gi mm), some (gi n), some (gi (k + 1))]) rfl ?_
          refine gX_goto (tgt := 5) dX9_nearest_48 (by decide) ?_
          have ek : (10 - k).toNat = (10 - (k + 1)).toNat + 1 := by omega
          have e1 : neF ds b mm (10 - k).toNat k n = neF ds b mm (10 - (k + 1)).toNat (k + 1) (n) := by
            rw [ek]
            show neF ds b mm _ _ (if _ then _ else _) = _
            rw [if_neg (by rintro ⟨z1, z2⟩; first | omega | (rw [b2i_0 (b := inB mm k) (by assumption)] at z1; exact absurd z1 (by decide)))]
          rw [e1] at hq2
          exact ih (k + 1) _ _ _ (by omega) (by omega) (by omega) (by omega) (by omega) hq2
        · refine gX_iloadn dX9_nearest_21 rfl ?_
          refine gX_iconst dX9_nearest_22 ⟨by decide, by decide⟩ ?_
          refine gX_icmpeq (tgt := 42) dX9_nearest_23 (by decide) (fun w3 => ?_) (fun w3 => ?_)
          · refine gX_iload dX9_nearest_42 rfl ?_
            refine gX_istoren dX9_nearest_44 (show (3 : Nat) < 5 from by decide) (ls2 := [some (ga W), some (gi b), some (gi mm), some (gi k), some (gi k)]) rfl ?_
            refine gX_iinc dX9_nearest_45 rfl (show (4 : Nat) < 5 from by decide) ⟨by omega, by omega⟩ (ls2 := [some (ga W), some (gi b), some (gi mm), some (gi k), some (gi (k + 1))]) rfl ?_
            refine gX_goto (tgt := 5) dX9_nearest_48 (by decide) ?_
            have ek : (10 - k).toNat = (10 - (k + 1)).toNat + 1 := by omega
            have e1 : neF ds b mm (10 - k).toNat k n = neF ds b mm (10 - (k + 1)).toNat (k + 1) (k) := by
              rw [ek]
              show neF ds b mm _ _ (if _ then _ else _) = _
              rw [if_pos ⟨b2i_1 (by assumption), by omega⟩]
            rw [e1] at hq2
            exact ih (k + 1) _ _ _ (by omega) (by omega) (by omega) (by omega) (by omega) hq2
          · refine gX_aloadn dX9_nearest_26 rfl ?_
            refine gX_iload dX9_nearest_27 rfl ?_
            refine gX_iloadn dX9_nearest_29 rfl ?_
            refine gX_virt (J := iX9_apart) (av := [gi k, gi b]) (a := W) (st := []) dX9_nearest_30 lkX9_46 kX9_apart vX9_apart (gFit_m (by decide)) hW.1 rfl rfl (Nat.le_of_ble_eq_true rfl) (Nat.zero_le _) (Nat.zero_le _) rfl ?_
            refine c_apart hW hw ⟨by omega, by omega, by omega, by omega⟩ ?_
            show gX l E _ 33 [some (ga W), some (gi b), some (gi mm), some (gi n), some (gi k)] [gi (apt ds k b)] (K, R, V) _ _
            refine gX_aloadn dX9_nearest_33 rfl ?_
            refine gX_iloadn dX9_nearest_34 rfl ?_
            refine gX_iloadn dX9_nearest_35 rfl ?_
            refine gX_virt (J := iX9_apart) (av := [gi n, gi b]) (a := W) (st := [gi (apt ds k b)]) dX9_nearest_36 lkX9_46 kX9_apart vX9_apart (gFit_m (by decide)) hW.1 rfl rfl (Nat.le_of_ble_eq_true rfl) (Nat.zero_le _) (Nat.zero_le _) rfl ?_
            refine c_apart hW hw ⟨by omega, by omega, by omega, by omega⟩ ?_
            show gX l E _ 39 [some (ga W), some (gi b), some (gi mm), some (gi n), some (gi k)] [gi (apt ds n b), gi (apt ds k b)] (K, R, V) _ _
            refine gX_icmpge (tgt := 45) dX9_nearest_39 (by decide) (fun w4 => ?_) (fun w4 => ?_)
            · refine gX_iinc dX9_nearest_45 rfl (show (4 : Nat) < 5 from by decide) ⟨by omega, by omega⟩ (ls2 := [some (ga W), some (gi b), some (gi mm), some (gi n), some (gi (k + 1))]) rfl ?_
              refine gX_goto (tgt := 5) dX9_nearest_48 (by decide) ?_
              have ek : (10 - k).toNat = (10 - (k + 1)).toNat + 1 := by omega
              have e1 : neF ds b mm (10 - k).toNat k n = neF ds b mm (10 - (k + 1)).toNat (k + 1) (n) := by
                rw [ek]
                show neF ds b mm _ _ (if _ then _ else _) = _
                rw [if_neg (by rintro ⟨z1, z2⟩; first | omega | (rw [b2i_0 (b := inB mm k) (by assumption)] at z1; exact absurd z1 (by decide)))]
              rw [e1] at hq2
              exact ih (k + 1) _ _ _ (by omega) (by omega) (by omega) (by omega) (by omega) hq2
            · refine gX_iload dX9_nearest_42 rfl ?_
              refine gX_istoren dX9_nearest_44 (show (3 : Nat) < 5 from by decide) (ls2 := [some (ga W), some (gi b), some (gi mm), some (gi k), some (gi k)]) rfl ?_
              refine gX_iinc dX9_nearest_45 rfl (show (4 : Nat) < 5 from by decide) ⟨by omega, by omega⟩ (ls2 := [some (ga W), some (gi b), some (gi mm), some (gi k), some (gi (k + 1))]) rfl ?_
              refine gX_goto (tgt := 5) dX9_nearest_48 (by decide) ?_
              have ek : (10 - k).toNat = (10 - (k + 1)).toNat + 1 := by omega
              have e1 : neF ds b mm (10 - k).toNat k n = neF ds b mm (10 - (k + 1)).toNat (k + 1) (k) := by
                rw [ek]
                show neF ds b mm _ _ (if _ then _ else _) = _
                rw [if_pos ⟨b2i_1 (by assumption), by omega⟩]
              rw [e1] at hq2
              exact ih (k + 1) _ _ _ (by omega) (by omega) (by omega) (by omega) (by omega) hq2
  refine gX_iconst dX9_nearest_0 ⟨by decide, by decide⟩ ?_
  refine gX_istoren dX9_nearest_1 (show (3 : Nat) < 5 from by decide) (ls2 := [some (ga W), some (gi b), some (gi mm), some (gi (-1)), none]) rfl ?_
  refine gX_iconst dX9_nearest_2 ⟨by decide, by decide⟩ ?_
  refine gX_istore dX9_nearest_3 (show (4 : Nat) < 5 from by decide) (ls2 := [some (ga W), some (gi b), some (gi mm), some (gi (-1)), some (gi 0)]) rfl ?_
  exact lp 11 0 (-1) _ _ (by omega) (by omega) (by omega) (by omega) (by omega) hQ
set_option maxRecDepth 4000 in
theorem c_grow {ro se : Int} (hW : trK K R W) (hw : trIs V W ds pa su) (hsu : su = 0) (had : ∀ i : Int, -1 ≤ lat ds i ∧ lat ds i ≤ 100) (hQ : ∀ V', trIs V' W ds (grF ds se 10 (gshl 1 ro) (pa, su)).1 (grF ds se 10 (gshl 1 ro) (pa, su)).2 → gFr V V' W (W + 5) → Q none (K, R, V')) : gC l E (d + 4) iX9_grow [ga W, gi ro, gi se] (K, R, V) Q := by
  refine gC_of kX9_grow (ls := [some (ga W), some (gi ro), some (gi se), none, none, none, none, none, none]) rfl (Nat.le_of_ble_eq_true rfl) ?_
  have lp : ∀ (jj : Nat) (k : Int) (mm : Int) (j5 : Option gV) (j6 : Option gV) (j7 : Option gV) (j8 : Option gV) (t : List Int × Int) (V1 : Int → Int → Int) (bc bs : Nat), (10 : Int) - k < (jj : Int) → 0 ≤ k → k ≤ 10 → 0 ≤ t.2 + 1000 * k + 1000 → t.2 ≤ 1000 * k + 1000 → trIs V1 W ds t.1 t.2 → gFr V V1 W (W + 5) → (∀ V', trIs V' W ds (grF ds se (10 - k).toNat mm t).1 (grF ds se (10 - k).toNat mm t).2 → gFr V V' W (W + 5) → Q none (K, R, V')) → gX l E (gFm E (d + 4) iX9_grow Q) 7 [some (ga W), some (gi ro), some (gi se), some (gi mm), some (gi k), j5, j6, j7, j8] [] (K, R, V1) bc bs := by
    intro jj
    induction jj with
    | zero =>
      intro k mm j5 j6 j7 j8 t V1 bc bs hj q0 q1 q2 q3 ht1 hf1 hq2
      exfalso; omega
    | succ jj ih =>
      intro k mm j5 j6 j7 j8 t V1 bc bs hj q0 q1 q2 q3 ht1 hf1 hq2
      refine gX_iload dX9_grow_7 rfl ?_
      refine gX_bipush dX9_grow_9 (by decide) ⟨by decide, by decide⟩ ?_
      refine gX_icmpge (tgt := 149) dX9_grow_11 (by decide) (fun m1 => ?_) (fun m1 => ?_)
      · refine gX_vret dX9_grow_149 rfl ?_
        by_cases ck : k < 10
        · have ek : (10 - k).toNat = (10 - (k + 1)).toNat + 1 := by omega
          have e1 : grF ds se (10 - k).toNat mm t = t := by
            rw [ek]
            show (if _ then _ else if _ then _ else _) = _
            rw [if_pos (by omega)]
          rw [e1] at hq2
          exact hq2 V1 ht1 hf1
        · have ei : (10 - k).toNat = 0 := by omega
          rw [ei] at hq2
          exact hq2 V1 ht1 hf1
      · refine gX_iloadn dX9_grow_14 rfl ?_
        refine gX_iloadn dX9_grow_15 rfl ?_
        refine gX_icmpeq (tgt := 149) dX9_grow_16 (by decide) (fun m2 => ?_) (fun m2 => ?_)
        · refine gX_vret dX9_grow_149 rfl ?_
          by_cases ck : k < 10
          · have ek : (10 - k).toNat = (10 - (k + 1)).toNat + 1 := by omega
            have e1 : grF ds se (10 - k).toNat mm t = t := by
              rw [ek]
              show (if _ then _ else if _ then _ else _) = _
              rw [if_pos (by omega)]
            rw [e1] at hq2
            exact hq2 V1 ht1 hf1
          · have ei : (10 - k).toNat = 0 := by omega
            rw [ei] at hq2
            exact hq2 V1 ht1 hf1
        · refine gX_iconst dX9_grow_19 ⟨by decide, by decide⟩ ?_
          refine gX_istore dX9_grow_20 (show (5 : Nat) < 9 from by decide) (ls2 := [some (ga W), some (gi ro), some (gi se), some (gi mm), some (gi k), some (gi (-1)), j6, j7, j8]) rfl ?_
          refine gX_iconst dX9_grow_22 ⟨by decide, by decide⟩ ?_
          refine gX_istore dX9_grow_23 (show (6 : Nat) < 9 from by decide) (ls2 := [some (ga W), some (gi ro), some (gi se), some (gi mm), some (gi k), some (gi (-1)), some (gi (-1)), j7, j8]) rfl ?_
          refine gX_iconst dX9_grow_25 ⟨by decide, by decide⟩ ?_
          refine gX_istore dX9_grow_26 (show (7 : Nat) < 9 from by decide) (ls2 := [some (ga W), some (gi ro), some (gi se), some (gi mm), some (gi k), some (gi (-1)), some (gi (-1)), some (gi 0), j8]) rfl ?_
          have lq : ∀ (jj : Nat) (b : Int) (n : Int) (h : Int) (j8 : Option gV) (bc bs : Nat), (10 : Int) - b < (jj : Int) → 0 ≤ b → b ≤ 10 → -1 ≤ n → n < 10 → -1 ≤ h → h < 10 → (∀ n2 h2 (b2 : Option gV) j8 bc bs, (n2, h2) = nxF ds se mm (10 - b).toNat b (n, h) → gX l E (gFm E (d + 4) iX9_grow Q) 101 [some (ga W), some (gi ro), some (gi se), some (gi mm), some (gi k), some (gi n2), some (gi h2), b2, j8] [] (K, R, V1) bc bs) → gX l E (gFm E (d + 4) iX9_grow Q) 28 [some (ga W), some (gi ro), some (gi se), some (gi mm), some (gi k), some (gi n), some (gi h), some (gi b), j8] [] (K, R, V1) bc bs := by
            intro jj
            induction jj with
            | zero =>
              intro b n h j8 bc bs hj k0 k1 k2 k3 k4 k5 hk2
              exfalso; omega
            | succ jj ih =>
              intro b n h j8 bc bs hj k0 k1 k2 k3 k4 k5 hk2
              refine gX_iload dX9_grow_28 rfl ?_
              refine gX_bipush dX9_grow_30 (by decide) ⟨by decide, by decide⟩ ?_
              refine gX_icmpge (tgt := 101) dX9_grow_32 (by decide) (fun w1 => ?_) (fun w1 => ?_)
              · have ei : (10 - b).toNat = 0 := by omega
                rw [ei] at hk2
                exact hk2 n h _ _ _ _ rfl
              · refine gX_iloadn dX9_grow_35 rfl ?_
                refine gX_iload dX9_grow_36 rfl ?_
                refine gX_stat (J := iX11_isIn) (av := [gi se, gi b]) (st := []) dX9_grow_38 lkX9_38 kX11_isIn sX11_isIn (gFit_m (by decide)) rfl (Nat.le_of_ble_eq_true rfl) (Nat.zero_le _) (Nat.zero_le _) rfl ?_
                refine c_isIn ?_
                show gX l E _ 41 [some (ga W), some (gi ro), some (gi se), some (gi mm), some (gi k), some (gi n), some (gi h), some (gi b), j8] [gi (b2i (inB se b))] (K, R, V1) _ _
                refine gX_ifeq (tgt := 95) dX9_grow_41 (by decide) (fun w2 => ?_) (fun w2 => ?_)
                · refine gX_iinc dX9_grow_95 rfl (show (7 : Nat) < 9 from by decide) ⟨by omega, by omega⟩ (ls2 := [some (ga W), some (gi ro), some (gi se), some (gi mm), some (gi k), some (gi n), some (gi h), some (gi (b + 1)), j8]) rfl ?_
                  refine gX_goto (tgt := 28) dX9_grow_98 (by decide) ?_
                  have hne := nea_in ds b mm
                  have ek : (10 - b).toNat = (10 - (b + 1)).toNat + 1 := by omega
                  have e1 : nxF ds se mm (10 - b).toNat b (n, h) = nxF ds se mm (10 - (b + 1)).toNat (b + 1) (n, h) := by
                    rw [ek]
                    show nxF ds se mm _ _ (if _ then _ else _) = _
                    rw [if_neg (by rintro ⟨z1, z2, z3⟩; first | omega | (rw [b2i_0 (b := inB se b) (by assumption)] at z1; exact absurd z1 (by decide)) | (rw [b2i_1 (b := inB mm b) (by assumption)] at z2; exact absurd z2 (by decide)) | (have z4 : n = -1 ∨ apt ds (nea ds b mm) b < apt ds h n := z3; omega))]
                  rw [e1] at hk2
                  exact ih (b + 1) n h _ _ _ (by omega) (by omega) (by omega) (by omega) (by omega) (by omega) (by omega) hk2
                · refine gX_iloadn dX9_grow_44 rfl ?_
                  refine gX_iload dX9_grow_45 rfl ?_
                  refine gX_stat (J := iX11_isIn) (av := [gi mm, gi b]) (st := []) dX9_grow_47 lkX9_38 kX11_isIn sX11_isIn (gFit_m (by decide)) rfl (Nat.le_of_ble_eq_true rfl) (Nat.zero_le _) (Nat.zero_le _) rfl ?_
                  refine c_isIn ?_
                  show gX l E _ 50 [some (ga W), some (gi ro), some (gi se), some (gi mm), some (gi k), some (gi n), some (gi h), some (gi b), j8] [gi (b2i (inB mm b))] (K, R, V1) _ _
                  refine gX_ifne (tgt := 95) dX9_grow_50 (by decide) (fun w3 => ?_) (fun w3 => ?_)
                  · refine gX_iinc dX9_grow_95 rfl (show (7 : Nat) < 9 from by decide) ⟨by omega, by omega⟩ (ls2 := [some (ga W), some (gi ro), some (gi se), some (gi mm), some (gi k), some (gi n), some (gi h), some (gi (b + 1)), j8]) rfl ?_
                    refine gX_goto (tgt := 28) dX9_grow_98 (by decide) ?_
                    have hne := nea_in ds b mm
                    have ek : (10 - b).toNat = (10 - (b + 1)).toNat + 1 := by omega
                    have e1 : nxF ds se mm (10 - b).toNat b (n, h) = nxF ds se mm (10 - (b + 1)).toNat (b + 1) (n, h) := by
                      rw [ek]
                      show nxF ds se mm _ _ (if _ then _ else _) = _
                      rw [if_neg (by rintro ⟨z1, z2, z3⟩; first | omega | (rw [b2i_0 (b := inB se b) (by assumption)] at z1; exact absurd z1 (by decide)) | (rw [b2i_1 (b := inB mm b) (by assumption)] at z2; exact absurd z2 (by decide)) | (have z4 : n = -1 ∨ apt ds (nea ds b mm) b < apt ds h n := z3; omega))]
                    rw [e1] at hk2
                    exact ih (b + 1) n h _ _ _ (by omega) (by omega) (by omega) (by omega) (by omega) (by omega) (by omega) hk2
                  · refine gX_aloadn dX9_grow_53 rfl ?_
                    refine gX_iload dX9_grow_54 rfl ?_
                    refine gX_iloadn dX9_grow_56 rfl ?_
                    refine gX_virt (J := iX9_nearest) (av := [gi b, gi mm]) (a := W) (st := []) dX9_grow_57 lkX9_42 kX9_nearest vX9_nearest (gFit_m (by decide)) hW.1 rfl rfl (Nat.le_of_ble_eq_true rfl) (Nat.zero_le _) (Nat.zero_le _) rfl ?_
                    refine c_nearest hW ht1.1 ⟨by omega, by omega⟩ ?_
                    show gX l E _ 60 [some (ga W), some (gi ro), some (gi se), some (gi mm), some (gi k), some (gi n), some (gi h), some (gi b), j8] [gi (nea ds b mm)] (K, R, V1) _ _
                    have hne0 := nea_in ds b mm
                    refine gX_istore dX9_grow_60 (show (8 : Nat) < 9 from by decide) (ls2 := [some (ga W), some (gi ro), some (gi se), some (gi mm), some (gi k), some (gi n), some (gi h), some (gi b), some (gi (nea ds b mm))]) rfl ?_
                    refine gX_iload dX9_grow_62 rfl ?_
                    refine gX_iconst dX9_grow_64 ⟨by decide, by decide⟩ ?_
                    refine gX_icmpeq (tgt := 87) dX9_grow_65 (by decide) (fun w4 => ?_) (fun w4 => ?_)
                    · refine gX_iload dX9_grow_87 rfl ?_
                      refine gX_istore dX9_grow_89 (show (5 : Nat) < 9 from by decide) (ls2 := [some (ga W), some (gi ro), some (gi se), some (gi mm), some (gi k), some (gi b), some (gi h), some (gi b), some (gi (nea ds b mm))]) rfl ?_
                      refine gX_iload dX9_grow_91 rfl ?_
                      refine gX_istore dX9_grow_93 (show (6 : Nat) < 9 from by decide) (ls2 := [some (ga W), some (gi ro), some (gi se), some (gi mm), some (gi k), some (gi b), some (gi (nea ds b mm)), some (gi b), some (gi (nea ds b mm))]) rfl ?_
                      refine gX_iinc dX9_grow_95 rfl (show (7 : Nat) < 9 from by decide) ⟨by omega, by omega⟩ (ls2 := [some (ga W), some (gi ro), some (gi se), some (gi mm), some (gi k), some (gi b), some (gi (nea ds b mm)), some (gi (b + 1)), some (gi (nea ds b mm))]) rfl ?_
                      refine gX_goto (tgt := 28) dX9_grow_98 (by decide) ?_
                      have hne := nea_in ds b mm
                      have ek : (10 - b).toNat = (10 - (b + 1)).toNat + 1 := by omega
                      have e1 : nxF ds se mm (10 - b).toNat b (n, h) = nxF ds se mm (10 - (b + 1)).toNat (b + 1) (b, nea ds b mm) := by
                        rw [ek]
                        show nxF ds se mm _ _ (if _ then _ else _) = _
                        rw [if_pos ⟨b2i_1 (by assumption), b2i_0 (by assumption), (by omega : n = -1 ∨ apt ds (nea ds b mm) b < apt ds h n)⟩]
                      rw [e1] at hk2
                      exact ih (b + 1) b (nea ds b mm) _ _ _ (by omega) (by omega) (by omega) (by omega) (by omega) (by omega) (by omega) hk2
                    · refine gX_aloadn dX9_grow_68 rfl ?_
                      refine gX_iload dX9_grow_69 rfl ?_
                      refine gX_iload dX9_grow_71 rfl ?_
                      refine gX_virt (J := iX9_apart) (av := [gi (nea ds b mm), gi b]) (a := W) (st := []) dX9_grow_73 lkX9_46 kX9_apart vX9_apart (gFit_m (by decide)) hW.1 rfl rfl (Nat.le_of_ble_eq_true rfl) (Nat.zero_le _) (Nat.zero_le _) rfl ?_
                      refine c_apart hW ht1.1 ⟨by omega, by omega, by omega, by omega⟩ ?_
                      show gX l E _ 76 [some (ga W), some (gi ro), some (gi se), some (gi mm), some (gi k), some (gi n), some (gi h), some (gi b), some (gi (nea ds b mm))] [gi (apt ds (nea ds b mm) b)] (K, R, V1) _ _
                      refine gX_aloadn dX9_grow_76 rfl ?_
                      refine gX_iload dX9_grow_77 rfl ?_
                      refine gX_iload dX9_grow_79 rfl ?_
                      refine gX_virt (J := iX9_apart) (av := [gi h, gi n]) (a := W) (st := [gi (apt ds (nea ds b mm) b)]) dX9_grow_81 lkX9_46 kX9_apart vX9_apart (gFit_m (by decide)) hW.1 rfl rfl (Nat.le_of_ble_eq_true rfl) (Nat.zero_le _) (Nat.zero_le _) rfl ?_
                      refine c_apart hW ht1.1 ⟨by omega, by omega, by omega, by omega⟩ ?_
                      show gX l E _ 84 [some (ga W), some (gi ro), some (gi se), some (gi mm), some (gi k), some (gi n), some (gi h), some (gi b), some (gi (nea ds b mm))] [gi (apt ds h n), gi (apt ds (nea ds b mm) b)] (K, R, V1) _ _
                      refine gX_icmpge (tgt := 95) dX9_grow_84 (by decide) (fun w5 => ?_) (fun w5 => ?_)
                      · refine gX_iinc dX9_grow_95 rfl (show (7 : Nat) < 9 from by decide) ⟨by omega, by omega⟩ (ls2 := [some (ga W), some (gi ro), some (gi se), some (gi mm), some (gi k), some (gi n), some (gi h), some (gi (b + 1)), some (gi (nea ds b mm))]) rfl ?_
                        refine gX_goto (tgt := 28) dX9_grow_98 (by decide) ?_
                        have hne := nea_in ds b mm
                        have ek : (10 - b).toNat = (10 - (b + 1)).toNat + 1 := by omega
                        have e1 : nxF ds se mm (10 - b).toNat b (n, h) = nxF ds se mm (10 - (b + 1)).toNat (b + 1) (n, h) := by
                          rw [ek]
                          show nxF ds se mm _ _ (if _ then _ else _) = _
                          rw [if_neg (by rintro ⟨z1, z2, z3⟩; first | omega | (rw [b2i_0 (b := inB se b) (by assumption)] at z1; exact absurd z1 (by decide)) | (rw [b2i_1 (b := inB mm b) (by assumption)] at z2; exact absurd z2 (by decide)) | (have z4 : n = -1 ∨ apt ds (nea ds b mm) b < apt ds h n := z3; omega))]
                        rw [e1] at hk2
                        exact ih (b + 1) n h _ _ _ (by omega) (by omega) (by omega) (by omega) (by omega) (by omega) (by omega) hk2
                      · refine gX_iload dX9_grow_87 rfl ?_
                        refine gX_istore dX9_grow_89 (show (5 : Nat) < 9 from by decide) (ls2 := [some (ga W), some (gi ro), some (gi se), some (gi mm), some (gi k), some (gi b), some (gi h), some (gi b), some (gi (nea ds b mm))]) rfl ?_
                        refine gX_iload dX9_grow_91 rfl ?_
                        refine gX_istore dX9_grow_93 (show (6 : Nat) < 9 from by decide) (ls2 := [some (ga W), some (gi ro), some (gi se), some (gi mm), some (gi k), some (gi b), some (gi (nea ds b mm)), some (gi b), some (gi (nea ds b mm))]) rfl ?_
                        refine gX_iinc dX9_grow_95 rfl (show (7 : Nat) < 9 from by decide) ⟨by omega, by omega⟩ (ls2 := [some (ga W), some (gi ro), some (gi se), some (gi mm), some (gi k), some (gi b), some (gi (nea ds b mm)), some (gi (b + 1)), some (gi (nea ds b mm))]) rfl ?_
                        refine gX_goto (tgt := 28) dX9_grow_98 (by decide) ?_
                        have hne := nea_in ds b mm
                        have ek : (10 - b).toNat = (10 - (b + 1)).toNat + 1 := by omega
                        have e1 : nxF ds se mm (10 - b).toNat b (n, h) = nxF ds se mm (10 - (b + 1)).toNat (b + 1) (b, nea ds b mm) := by
                          rw [ek]
                          show nxF ds se mm _ _ (if _ then _ else _) = _
                          rw [if_pos ⟨b2i_1 (by assumption), b2i_0 (by assumption), (by omega : n = -1 ∨ apt ds (nea ds b mm) b < apt ds h n)⟩]
                        rw [e1] at hk2
                        exact ih (b + 1) b (nea ds b mm) _ _ _ (by omega) (by omega) (by omega) (by omega) (by omega) (by omega) (by omega) hk2
          have hnx := nxF_in (ds := ds) (se := se) (mm := mm) 10 0 (-1, -1) (by omega) (by omega) ⟨by decide, by decide, by decide, by decide⟩
          refine lq 11 0 (-1) (-1) _ _ _ (by omega) (by omega) (by omega) (by omega) (by omega) (by omega) (by omega) (fun n2 h2 b2 j8 bc bs hn2 => ?_)
          have en : n2 = (nxB ds se mm).1 := congrArg Prod.fst hn2
          have eh : h2 = (nxB ds se mm).2 := congrArg Prod.snd hn2
          have hnx2 : -1 ≤ (nxB ds se mm).1 ∧ (nxB ds se mm).1 < 10 ∧ -1 ≤ (nxB ds se mm).2 ∧ (nxB ds se mm).2 < 10 := hnx
          refine gX_iload dX9_grow_101 rfl ?_
          refine gX_iconst dX9_grow_103 ⟨by decide, by decide⟩ ?_
          refine gX_icmpne (tgt := 108) dX9_grow_104 (by decide) (fun v1 => ?_) (fun v1 => ?_)
          · refine gX_aloadn dX9_grow_108 rfl ?_
            refine gX_gR 1 dX9_grow_109 fdX9_20 rfl rfl hW.1 hW.2.2.1 ?_
            refine gX_iload dX9_grow_112 rfl ?_
            refine gX_iload dX9_grow_114 rfl ?_
            refine gX_virt (J := iX6_put) (av := [gi n2, gi h2]) (a := (W + 3)) (st := []) dX9_grow_116 lkX9_31 kX6_put vX6_put (gFit_m (by decide)) hW.2.2.2.2.1 rfl rfl (Nat.le_of_ble_eq_true rfl) (Nat.zero_le _) (Nat.zero_le _) rfl ?_
            refine q_Row_put hW.2.2.2.2 ht1.2.1 (fun V2 hx2 hf2 => ?_)
            show gX l E _ 119 [some (ga W), some (gi ro), some (gi se), some (gi mm), some (gi k), some (gi n2), some (gi h2), b2, j8] [] (K, R, V2) _ _
            refine gX_aloadn dX9_grow_119 rfl ?_
            refine gX_dup dX9_grow_120 rfl ?_
            refine gX_gI 2 dX9_grow_121 fdX9_23 rfl (Or.inl rfl) hW.1 ?_
            rw [hf2 W (by omega) (by omega), ht1.2.2]
            have hap := had (h2 * 10 + n2)
            have hap2 : apt ds h2 n2 = lat ds (h2 * 10 + n2) := rfl
            refine gX_aloadn dX9_grow_124 rfl ?_
            refine gX_iload dX9_grow_125 rfl ?_
            refine gX_iload dX9_grow_127 rfl ?_
            refine gX_virt (J := iX9_apart) (av := [gi h2, gi n2]) (a := W) (st := [gi t.2, ga W]) dX9_grow_129 lkX9_46 kX9_apart vX9_apart (gFit_m (by decide)) hW.1 rfl rfl (Nat.le_of_ble_eq_true rfl) (Nat.zero_le _) (Nat.zero_le _) rfl ?_
            refine c_apart hW (ht1.1.kept (hf2 _ (by omega) (by omega)) (hf2 _ (by omega) (by omega))) ⟨by omega, by omega, by omega, by omega⟩ ?_
            show gX l E _ 132 [some (ga W), some (gi ro), some (gi se), some (gi mm), some (gi k), some (gi n2), some (gi h2), b2, j8] [gi (apt ds h2 n2), gi t.2, ga W] (K, R, V2) _ _
            refine gX_iadd dX9_grow_132 ⟨by omega, by omega⟩ ?_
            refine gX_pI 2 dX9_grow_133 fdX9_23 fpX9_23 rfl (Or.inl rfl) hW.1 ?_
            refine gX_iloadn dX9_grow_136 rfl ?_
            refine gX_iconst dX9_grow_137 ⟨by decide, by decide⟩ ?_
            refine gX_iload dX9_grow_138 rfl ?_
            refine gX_ishl dX9_grow_140 ?_
            refine gX_ior dX9_grow_141 ?_
            refine gX_istoren dX9_grow_142 (show (3 : Nat) < 9 from by decide) (ls2 := [some (ga W), some (gi ro), some (gi se), some (gi (gor mm (gshl 1 n2))), some (gi k), some (gi n2), some (gi h2), b2, j8]) rfl ?_
            refine gX_iinc dX9_grow_143 rfl (show (4 : Nat) < 9 from by decide) ⟨by omega, by omega⟩ (ls2 := [some (ga W), some (gi ro), some (gi se), some (gi (gor mm (gshl 1 n2))), some (gi (k + 1)), some (gi n2), some (gi h2), b2, j8]) rfl ?_
            refine gX_goto (tgt := 7) dX9_grow_146 (by decide) ?_
            have ek : (10 - k).toNat = (10 - (k + 1)).toNat + 1 := by omega
            have e1 : grF ds se (10 - k).toNat mm t = grF ds se (10 - (k + 1)).toNat (gor mm (gshl 1 (nxB ds se mm).1)) (lput t.1 (nxB ds se mm).1 (nxB ds se mm).2, t.2 + apt ds (nxB ds se mm).2 (nxB ds se mm).1) := by
              rw [ek]
              show (if _ then _ else if _ then _ else _) = _
              rw [if_neg (by omega), if_neg (by omega)]
            rw [e1] at hq2
            rw [← en, ← eh] at hq2
            refine ih (k + 1) _ _ _ _ _ (lput t.1 n2 h2, t.2 + apt ds h2 n2) _ _ _ (by omega) (by omega) (by omega) (by show 0 ≤ t.2 + apt ds h2 n2 + 1000 * (k + 1) + 1000; omega) (by show t.2 + apt ds h2 n2 ≤ 1000 * (k + 1) + 1000; omega) ⟨(ht1.1.kept (hf2 _ (by omega) (by omega)) (hf2 _ (by omega) (by omega))).kept (gup_ne (by omega)) (gup_ne (by omega)), hx2.kept (gup_ne (by omega)) (gup_ne (by omega)), gup_s⟩ (fun a ha => by rw [gup_ne (by omega), hf2 a (by omega) (by omega), hf1 a ha]) hq2
          · refine gX_vret dX9_grow_107 rfl ?_
            have ek : (10 - k).toNat = (10 - (k + 1)).toNat + 1 := by omega
            have e1 : grF ds se (10 - k).toNat mm t = t := by
              rw [ek]
              show (if _ then _ else if _ then _ else _) = _
              rw [if_neg (by omega), if_pos (by omega)]
            rw [e1] at hq2
            exact hq2 V1 ht1 hf1
  refine gX_iconst dX9_grow_0 ⟨by decide, by decide⟩ ?_
  refine gX_iloadn dX9_grow_1 rfl ?_
  refine gX_ishl dX9_grow_2 ?_
  refine gX_istoren dX9_grow_3 (show (3 : Nat) < 9 from by decide) (ls2 := [some (ga W), some (gi ro), some (gi se), some (gi (gshl 1 ro)), none, none, none, none, none]) rfl ?_
  refine gX_iconst dX9_grow_4 ⟨by decide, by decide⟩ ?_
  refine gX_istore dX9_grow_5 (show (4 : Nat) < 9 from by decide) (ls2 := [some (ga W), some (gi ro), some (gi se), some (gi (gshl 1 ro)), some (gi 0), none, none, none, none]) rfl ?_
  exact lp 11 0 _ none none none none (pa, su) V _ _ (by omega) (by omega) (by omega) (by show 0 ≤ su + 1000 * 0 + 1000; omega) (by show su ≤ 1000 * 0 + 1000; omega) hw gFr.rf hQ
end TREE
