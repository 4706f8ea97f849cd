/-! Hand; Told. Written by wip/whole/tools/mk_told.py. -/
/-- of the told text: where the reading stands, where the token began, the fault's number, its place -/
abbrev tS : Type := Int × Int × Int × Int
def toK (K : List gK) (R : Int → Int → Int) (T : Int) : Prop := kd (K, R, fun _ _ => 0) T = some (.inl 7) ∧ R T 0 = T + 1 ∧ gRow K R (T + 1) 320
def toIs (V : Int → Int → Int) (T : Int) (by' : List Int) (t : tS) : Prop := V T 1 = t.1 ∧ V T 2 = t.2.1 ∧ V T 3 = t.2.2.1 ∧ V T 4 = t.2.2.2 ∧ rIs V (T + 1) 320 by'
def oFr (V V' : Int → Int → Int) (T : Int) : Prop := ∀ a, a ≠ T → V' a = V a
theorem oFr.trans {V V1 V2 : Int → Int → Int} {T : Int} (h : oFr V V1 T) (h2 : oFr V1 V2 T) : oFr V V2 T := fun a ha => (h2 a ha).trans (h a ha)
theorem oFr.rf {V : Int → Int → Int} {T : Int} : oFr V V T := fun _ _ => rfl
theorem oFr.up {V : Int → Int → Int} {T k x : Int} : oFr V (gup V T k x) T := fun _ ha => gup_ne ha
theorem oFr.fr {V V1 : Int → Int → Int} {T lo hi : Int} (h : oFr V V1 T) (h1 : lo ≤ T) (h2 : T < hi) : gFr V V1 lo hi := fun a ha => h a (by omega)
theorem toIs.kept {V V1 : Int → Int → Int} {T : Int} {by' : List Int} {t : tS} (h : toIs V T by' t) (h0 : V1 T = V T) (h1 : V1 (T + 1) = V (T + 1)) (h2 : V1 (T + 2) = V (T + 2)) : toIs V1 T by' t := by
  have e : T + 1 + 1 = T + 2 := by omega
  exact ⟨by rw [h0]; exact h.1, by rw [h0]; exact h.2.1, by rw [h0]; exact h.2.2.1, by rw [h0]; exact h.2.2.2.1, h.2.2.2.2.kept h1 (by rw [e]; exact h2)⟩
theorem toIs.s1 {V : Int → Int → Int} {T x : Int} {by' : List Int} {t : tS} (h : toIs V T by' t) : toIs (gup V T 1 x) T by' (x, t.2.1, t.2.2.1, t.2.2.2) := ⟨gup_s, by rw [gup_o (Or.inr (by omega))]; exact h.2.1, by rw [gup_o (Or.inr (by omega))]; exact h.2.2.1, by rw [gup_o (Or.inr (by omega))]; exact h.2.2.2.1, h.2.2.2.2.kept (gup_ne (by omega)) (gup_ne (by omega))⟩
theorem toIs.s2 {V : Int → Int → Int} {T x : Int} {by' : List Int} {t : tS} (h : toIs V T by' t) : toIs (gup V T 2 x) T by' (t.1, x, t.2.2.1, t.2.2.2) := ⟨by rw [gup_o (Or.inr (by omega))]; exact h.1, gup_s, by rw [gup_o (Or.inr (by omega))]; exact h.2.2.1, by rw [gup_o (Or.inr (by omega))]; exact h.2.2.2.1, h.2.2.2.2.kept (gup_ne (by omega)) (gup_ne (by omega))⟩
theorem toIs.s3 {V : Int → Int → Int} {T x : Int} {by' : List Int} {t : tS} (h : toIs V T by' t) : toIs (gup V T 3 x) T by' (t.1, t.2.1, x, t.2.2.2) := ⟨by rw [gup_o (Or.inr (by omega))]; exact h.1, by rw [gup_o (Or.inr (by omega))]; exact h.2.1, gup_s, by rw [gup_o (Or.inr (by omega))]; exact h.2.2.2.1, h.2.2.2.2.kept (gup_ne (by omega)) (gup_ne (by omega))⟩
theorem toIs.s4 {V : Int → Int → Int} {T x : Int} {by' : List Int} {t : tS} (h : toIs V T by' t) : toIs (gup V T 4 x) T by' (t.1, t.2.1, t.2.2.1, x) := ⟨by rw [gup_o (Or.inr (by omega))]; exact h.1, by rw [gup_o (Or.inr (by omega))]; exact h.2.1, by rw [gup_o (Or.inr (by omega))]; exact h.2.2.1, gup_s, h.2.2.2.2.kept (gup_ne (by omega)) (gup_ne (by omega))⟩
def pkF (ys : List Int) : Nat → Int → Int
  | 0, a => a
  | n + 1, a => if a < ys.length ∧ lat ys a = 32 then pkF ys n (a + 1) else a
def pkB (ys : List Int) (a : Int) : Int := pkF ys 321 a
theorem pkF_in (ys : List Int) : ∀ (n : Nat) (a : Int), 0 ≤ a → a ≤ ys.length → a ≤ pkF ys n a ∧ pkF ys n a ≤ ys.length
  | 0, a, _, h => ⟨Int.le_refl _, h⟩
  | n + 1, a, h0, h => by
    show a ≤ (if _ then _ else _) ∧ (if _ then _ else _) ≤ _
    split
    · next c => have := pkF_in ys n (a + 1) (by omega) (by omega); omega
    · exact ⟨Int.le_refl _, h⟩
theorem pkB_in {ys : List Int} {a : Int} (h0 : 0 ≤ a) (h1 : a ≤ ys.length) : a ≤ pkB ys a ∧ pkB ys a ≤ ys.length := pkF_in ys 321 a h0 h1
/-- figures from place a on: where they end, and their value, of which two count -/
def fiF (ys : List Int) (tok : Int) : Nat → Int → Int → Int × Int
  | 0, a, v => (a, v)
  | n + 1, a, v => if a < ys.length ∧ isF (lat ys a) = true then fiF ys tok n (a + 1) (if a - tok < 2 then v * 10 + lat ys a - 48 else v) else (a, v)
def nuB (low high tok : Int) (p : Int × Int) : Bool := decide (p.1 - tok > 2 ∨ p.2 < low ∨ p.2 > high)
/-- the number that is next: the answer, and the reading behind it -/
def tkNum (ys : List Int) (low high : Int) (t : tS) : Int × tS :=
  if isF (lat ys (pkB ys t.1)) = true then (if nuB low high (pkB ys t.1) (fiF ys (pkB ys t.1) 321 (pkB ys t.1) 0) = true then (-1, (fiF ys (pkB ys t.1) 321 (pkB ys t.1) 0).1, pkB ys t.1, 2, pkB ys t.1) else ((fiF ys (pkB ys t.1) 321 (pkB ys t.1) 0).2, (fiF ys (pkB ys t.1) 321 (pkB ys t.1) 0).1, pkB ys t.1, t.2.2.1, t.2.2.2)) else (-1, pkB ys t.1, t.2.1, 1, pkB ys t.1)
def isL (c : Int) : Bool := decide (97 ≤ c ∧ c ≤ 122)
def leF (ys : List Int) : Nat → Int → Int
  | 0, a => a
  | n + 1, a => if a < ys.length ∧ isL (lat ys a) = true then leF ys n (a + 1) else a
def tkLet (ys : List Int) (t : tS) : tS := (leF ys 321 (pkB ys t.1), pkB ys t.1, t.2.2.1, t.2.2.2)
def tkSig (ys : List Int) (c : Int) (t : tS) : Int × tS := if lat ys (pkB ys t.1) = c then (1, pkB ys t.1 + 1, t.2.1, t.2.2.1, t.2.2.2) else (0, pkB ys t.1, t.2.1, 1, pkB ys t.1)
def noRm (fr ea : List Int) (c : Int) : Int := if c = 0 then (if 4 ≤ fr.length then 1 else 0) else (if lat ea c = -1 then 0 else 1)
def clsF (ea : List Int) : Nat → Int → Int → Int
  | 0, _, c => c
  | n + 1, h, c => clsF ea n (h + 1) (if lat ea h = -1 then c else c + 1)
def clsC (fr ea : List Int) : Int := clsF ea 5 1 fr.length
section TOLD
variable {l : Launch} {E : gE} {d : Nat} {K : List gK} {R V : Int → Int → Int} {B H T J g : Int} {Q : gQ} {ys : List Int} {t : tS} {rc wy rc2 wy2 : Int} {fr to fe ea fr2 to2 fe2 ea2 : List Int}
set_option maxRecDepth 4000 in
theorem c_hdClear (hH : hdK K R H) (hQ : ∀ V', hdIs V' H [] [] [] (List.replicate 6 (-1)) (-1) (-1) → gFr V V' H (H + 9) → Q none (K, R, V')) : gC l E (d + 3) iX4_clear [ga H] (K, R, V) Q := by
  refine gC_of kX4_clear (ls := [some (ga H)]) rfl (Nat.le_of_ble_eq_true rfl) ?_
  refine gX_aloadn dX4_clear_0 rfl ?_
  refine gX_gR 0 dX4_clear_1 fdX4_14 rfl rfl hH.1 hH.2.1 ?_
  refine gX_virt (J := iX6_clear) (av := []) (a := (H + 1)) (st := []) dX4_clear_4 lkX4_40 kX6_clear vX6_clear (gFit_m (by decide)) hH.2.2.2.2.2.1.1 rfl rfl (Nat.le_of_ble_eq_true rfl) (Nat.zero_le _) (Nat.zero_le _) rfl ?_
  refine q_Row_clear hH.2.2.2.2.2.1 (fun V1 hx1 hf1 => ?_)
  show gX l E _ 7 [some (ga H)] [] (K, R, V1) _ _
  refine gX_aloadn dX4_clear_7 rfl ?_
  refine gX_gR 1 dX4_clear_8 fdX4_20 rfl rfl hH.1 hH.2.2.1 ?_
  refine gX_virt (J := iX6_clear) (av := []) (a := (H + 3)) (st := []) dX4_clear_11 lkX4_40 kX6_clear vX6_clear (gFit_m (by decide)) hH.2.2.2.2.2.2.1.1 rfl rfl (Nat.le_of_ble_eq_true rfl) (Nat.zero_le _) (Nat.zero_le _) rfl ?_
  refine q_Row_clear hH.2.2.2.2.2.2.1 (fun V2 hx2 hf2 => ?_)
  show gX l E _ 14 [some (ga H)] [] (K, R, V2) _ _
  refine gX_aloadn dX4_clear_14 rfl ?_
  refine gX_gR 2 dX4_clear_15 fdX4_23 rfl rfl hH.1 hH.2.2.2.1 ?_
  refine gX_virt (J := iX6_clear) (av := []) (a := (H + 5)) (st := []) dX4_clear_18 lkX4_40 kX6_clear vX6_clear (gFit_m (by decide)) hH.2.2.2.2.2.2.2.1.1 rfl rfl (Nat.le_of_ble_eq_true rfl) (Nat.zero_le _) (Nat.zero_le _) rfl ?_
  refine q_Row_clear hH.2.2.2.2.2.2.2.1 (fun V3 hx3 hf3 => ?_)
  show gX l E _ 21 [some (ga H)] [] (K, R, V3) _ _
  refine gX_aloadn dX4_clear_21 rfl ?_
  refine gX_gR 3 dX4_clear_22 fdX4_26 rfl rfl hH.1 hH.2.2.2.2.1 ?_
  refine gX_bipush dX4_clear_25 (by decide) ⟨by decide, by decide⟩ ?_
  refine gX_iconst dX4_clear_27 ⟨by decide, by decide⟩ ?_
  refine gX_virt (J := iX6_fill) (av := [gi 6, gi (-1)]) (a := (H + 7)) (st := []) dX4_clear_28 lkX4_36 kX6_fill vX6_fill (gFit_m (by decide)) hH.2.2.2.2.2.2.2.2.1 rfl rfl (Nat.le_of_ble_eq_true rfl) (Nat.zero_le _) (Nat.zero_le _) rfl ?_
  refine q_Row_fill hH.2.2.2.2.2.2.2.2 (by omega) (by omega) (fun V4 hx4 hf4 => ?_)
  show gX l E _ 31 [some (ga H)] [] (K, R, V4) _ _
  refine gX_aloadn dX4_clear_31 rfl ?_
  refine gX_iconst dX4_clear_32 ⟨by decide, by decide⟩ ?_
  refine gX_pI 4 dX4_clear_33 fdX4_29 fpX4_29 rfl (Or.inl rfl) hH.1 ?_
  refine gX_aloadn dX4_clear_36 rfl ?_
  refine gX_iconst dX4_clear_37 ⟨by decide, by decide⟩ ?_
  refine gX_pI 5 dX4_clear_38 fdX4_33 fpX4_33 rfl (Or.inl rfl) hH.1 ?_
  refine gX_vret dX4_clear_41 rfl ?_
  refine hQ _ ⟨?_, ?_, ?_, ?_, by rw [gup_o (Or.inr (by omega))]; exact gup_s, gup_s⟩ (fun a ha => by rw [gup_ne (by omega), gup_ne (by omega), hf4 a (by omega) (by omega), hf3 a (by omega) (by omega), hf2 a (by omega) (by omega), hf1 a (by omega) (by omega)])
  · exact (((hx1.kept (hf2 _ (by omega) (by omega)) (hf2 _ (by omega) (by omega))).kept (hf3 _ (by omega) (by omega)) (hf3 _ (by omega) (by omega))).kept (hf4 _ (by omega) (by omega)) (hf4 _ (by omega) (by omega))).kept ((gup_ne (by omega)).trans (gup_ne (by omega))) ((gup_ne (by omega)).trans (gup_ne (by omega)))
  · exact ((hx2.kept (hf3 _ (by omega) (by omega)) (hf3 _ (by omega) (by omega))).kept (hf4 _ (by omega) (by omega)) (hf4 _ (by omega) (by omega))).kept ((gup_ne (by omega)).trans (gup_ne (by omega))) ((gup_ne (by omega)).trans (gup_ne (by omega)))
  · exact (hx3.kept (hf4 _ (by omega) (by omega)) (hf4 _ (by omega) (by omega))).kept ((gup_ne (by omega)).trans (gup_ne (by omega))) ((gup_ne (by omega)).trans (gup_ne (by omega)))
  · exact hx4.kept ((gup_ne (by omega)).trans (gup_ne (by omega))) ((gup_ne (by omega)).trans (gup_ne (by omega)))
set_option maxRecDepth 4000 in
theorem c_hdTake (hH : hdK K R H) (hJ : hdK K R J) (hd1 : H + 9 ≤ J ∨ J + 9 ≤ H) (hj : hdIs V J fr to fe ea rc wy) (hQ : ∀ V', hdIs V' H fr to fe ea rc wy → gFr V V' H (H + 9) → Q none (K, R, V')) : gC l E (d + 2) iX4_takeFrom [ga H, ga J] (K, R, V) Q := by
  refine gC_of kX4_takeFrom (ls := [some (ga H), some (ga J)]) rfl (Nat.le_of_ble_eq_true rfl) ?_
  refine gX_aloadn dX4_takeFrom_0 rfl ?_
  refine gX_gR 0 dX4_takeFrom_1 fdX4_14 rfl rfl hH.1 hH.2.1 ?_
  refine gX_aloadn dX4_takeFrom_4 rfl ?_
  refine gX_gR 0 dX4_takeFrom_5 fdX4_14 rfl rfl hJ.1 hJ.2.1 ?_
  refine gX_virt (J := iX6_takeFrom) (av := [ga (J + 1)]) (a := (H + 1)) (st := []) dX4_takeFrom_8 lkX4_43 kX6_takeFrom vX6_takeFrom (gFit_m (by decide)) hH.2.2.2.2.2.1.1 rfl rfl (Nat.le_of_ble_eq_true rfl) (Nat.zero_le _) (Nat.zero_le _) rfl ?_
  refine q_Row_takeFrom hH.2.2.2.2.2.1 hJ.2.2.2.2.2.1 hj.1 hj.1.2.1 (fun V1 hx1 hf1 => ?_)
  show gX l E _ 11 [some (ga H), some (ga J)] [] (K, R, V1) _ _
  have j1 := hj.fr (hf1.fr (lo := H) (hi := H + 9) (by omega) (by omega)) (by omega)
  refine gX_aloadn dX4_takeFrom_11 rfl ?_
  refine gX_gR 1 dX4_takeFrom_12 fdX4_20 rfl rfl hH.1 hH.2.2.1 ?_
  refine gX_aloadn dX4_takeFrom_15 rfl ?_
  refine gX_gR 1 dX4_takeFrom_16 fdX4_20 rfl rfl hJ.1 hJ.2.2.1 ?_
  refine gX_virt (J := iX6_takeFrom) (av := [ga (J + 3)]) (a := (H + 3)) (st := []) dX4_takeFrom_19 lkX4_43 kX6_takeFrom vX6_takeFrom (gFit_m (by decide)) hH.2.2.2.2.2.2.1.1 rfl rfl (Nat.le_of_ble_eq_true rfl) (Nat.zero_le _) (Nat.zero_le _) rfl ?_
  refine q_Row_takeFrom hH.2.2.2.2.2.2.1 hJ.2.2.2.2.2.2.1 j1.2.1 j1.2.1.2.1 (fun V2 hx2 hf2 => ?_)
  show gX l E _ 22 [some (ga H), some (ga J)] [] (K, R, V2) _ _
  have j2 := j1.fr (hf2.fr (lo := H) (hi := H + 9) (by omega) (by omega)) (by omega)
  refine gX_aloadn dX4_takeFrom_22 rfl ?_
  refine gX_gR 2 dX4_takeFrom_23 fdX4_23 rfl rfl hH.1 hH.2.2.2.1 ?_
  refine gX_aloadn dX4_takeFrom_26 rfl ?_
  refine gX_gR 2 dX4_takeFrom_27 fdX4_23 rfl rfl hJ.1 hJ.2.2.2.1 ?_
  refine gX_virt (J := iX6_takeFrom) (av := [ga (J + 5)]) (a := (H + 5)) (st := []) dX4_takeFrom_30 lkX4_43 kX6_takeFrom vX6_takeFrom (gFit_m (by decide)) hH.2.2.2.2.2.2.2.1.1 rfl rfl (Nat.le_of_ble_eq_true rfl) (Nat.zero_le _) (Nat.zero_le _) rfl ?_
  refine q_Row_takeFrom hH.2.2.2.2.2.2.2.1 hJ.2.2.2.2.2.2.2.1 j2.2.2.1 j2.2.2.1.2.1 (fun V3 hx3 hf3 => ?_)
  show gX l E _ 33 [some (ga H), some (ga J)] [] (K, R, V3) _ _
  have j3 := j2.fr (hf3.fr (lo := H) (hi := H + 9) (by omega) (by omega)) (by omega)
  refine gX_aloadn dX4_takeFrom_33 rfl ?_
  refine gX_gR 3 dX4_takeFrom_34 fdX4_26 rfl rfl hH.1 hH.2.2.2.2.1 ?_
  refine gX_aloadn dX4_takeFrom_37 rfl ?_
  refine gX_gR 3 dX4_takeFrom_38 fdX4_26 rfl rfl hJ.1 hJ.2.2.2.2.1 ?_
  refine gX_virt (J := iX6_takeFrom) (av := [ga (J + 7)]) (a := (H + 7)) (st := []) dX4_takeFrom_41 lkX4_43 kX6_takeFrom vX6_takeFrom (gFit_m (by decide)) hH.2.2.2.2.2.2.2.2.1 rfl rfl (Nat.le_of_ble_eq_true rfl) (Nat.zero_le _) (Nat.zero_le _) rfl ?_
  refine q_Row_takeFrom hH.2.2.2.2.2.2.2.2 hJ.2.2.2.2.2.2.2.2 j3.2.2.2.1 j3.2.2.2.1.2.1 (fun V4 hx4 hf4 => ?_)
  show gX l E _ 44 [some (ga H), some (ga J)] [] (K, R, V4) _ _
  have j4 := j3.fr (hf4.fr (lo := H) (hi := H + 9) (by omega) (by omega)) (by omega)
  refine gX_aloadn dX4_takeFrom_44 rfl ?_
  refine gX_aloadn dX4_takeFrom_45 rfl ?_
  refine gX_gI 4 dX4_takeFrom_46 fdX4_29 rfl (Or.inl rfl) hJ.1 ?_
  rw [j4.2.2.2.2.1]
  refine gX_pI 4 dX4_takeFrom_49 fdX4_29 fpX4_29 rfl (Or.inl rfl) hH.1 ?_
  refine gX_aloadn dX4_takeFrom_52 rfl ?_
  refine gX_aloadn dX4_takeFrom_53 rfl ?_
  refine gX_gI 5 dX4_takeFrom_54 fdX4_33 rfl (Or.inl rfl) hJ.1 ?_
  rw [show gup V4 H 4 rc J 5 = wy from (gup_o (Or.inl (by omega))).trans j4.2.2.2.2.2]
  refine gX_pI 5 dX4_takeFrom_57 fdX4_33 fpX4_33 rfl (Or.inl rfl) hH.1 ?_
  refine gX_vret dX4_takeFrom_60 rfl ?_
  refine hQ _ ⟨?_, ?_, ?_, ?_, by rw [gup_o (Or.inr (by omega))]; exact gup_s, gup_s⟩ (fun a ha => by rw [gup_ne (by omega), gup_ne (by omega), hf4 a (by omega) (by omega), hf3 a (by omega) (by omega), hf2 a (by omega) (by omega), hf1 a (by omega) (by omega)])
  · exact (((hx1.kept (hf2 _ (by omega) (by omega)) (hf2 _ (by omega) (by omega))).kept (hf3 _ (by omega) (by omega)) (hf3 _ (by omega) (by omega))).kept (hf4 _ (by omega) (by omega)) (hf4 _ (by omega) (by omega))).kept ((gup_ne (by omega)).trans (gup_ne (by omega))) ((gup_ne (by omega)).trans (gup_ne (by omega)))
  · exact ((hx2.kept (hf3 _ (by omega) (by omega)) (hf3 _ (by omega) (by omega))).kept (hf4 _ (by omega) (by omega)) (hf4 _ (by omega) (by omega))).kept ((gup_ne (by omega)).trans (gup_ne (by omega))) ((gup_ne (by omega)).trans (gup_ne (by omega)))
  · exact (hx3.kept (hf4 _ (by omega) (by omega)) (hf4 _ (by omega) (by omega))).kept ((gup_ne (by omega)).trans (gup_ne (by omega))) ((gup_ne (by omega)).trans (gup_ne (by omega)))
  · exact hx4.kept ((gup_ne (by omega)).trans (gup_ne (by omega))) ((gup_ne (by omega)).trans (gup_ne (by omega)))
set_option maxRecDepth 4000 in
theorem c_noRoom {c : Int} (hH : hdK K R H) (hh : hdIs V H fr to fe ea rc wy) (hQ : Q (some (gi (noRm fr ea c))) (K, R, V)) : gC l E (d + 2) iX4_hasNoRoomFor [ga H, gi c] (K, R, V) Q := by
  refine gC_of kX4_hasNoRoomFor (ls := [some (ga H), some (gi c)]) rfl (Nat.le_of_ble_eq_true rfl) ?_
  refine gX_iloadn dX4_hasNoRoomFor_0 rfl ?_
  refine gX_ifne (tgt := 23) dX4_hasNoRoomFor_1 (by decide) (fun w1 => ?_) (fun w1 => ?_)
  · refine gX_aloadn dX4_hasNoRoomFor_23 rfl ?_
    refine gX_gR 3 dX4_hasNoRoomFor_24 fdX4_26 rfl rfl hH.1 hH.2.2.2.2.1 ?_
    refine gX_iloadn dX4_hasNoRoomFor_27 rfl ?_
    refine gX_virt (J := iX6_at) (av := [gi c]) (a := (H + 7)) (st := []) dX4_hasNoRoomFor_28 lkX4_51 kX6_at vX6_at (gFit_m (by decide)) hH.2.2.2.2.2.2.2.2.1 rfl rfl (Nat.le_of_ble_eq_true rfl) (Nat.zero_le _) (Nat.zero_le _) rfl ?_
    refine q_Row_at hH.2.2.2.2.2.2.2.2 hh.2.2.2.1 ?_
    show gX l E _ 31 [some (ga H), some (gi c)] [gi (lat ea c)] (K, R, V) _ _
    refine gX_iconst dX4_hasNoRoomFor_31 ⟨by decide, by decide⟩ ?_
    refine gX_icmpeq (tgt := 39) dX4_hasNoRoomFor_32 (by decide) (fun w2 => ?_) (fun w2 => ?_)
    · refine gX_iconst dX4_hasNoRoomFor_39 ⟨by decide, by decide⟩ ?_
      refine gX_iret dX4_hasNoRoomFor_40 (Or.inr ⟨rfl, Or.inl rfl⟩) ?_
      have e : noRm fr ea c = 0 := by unfold noRm; (repeat' split) <;> omega
      rw [e] at hQ
      exact hQ
    · refine gX_iconst dX4_hasNoRoomFor_35 ⟨by decide, by decide⟩ ?_
      refine gX_goto (tgt := 40) dX4_hasNoRoomFor_36 (by decide) ?_
      refine gX_iret dX4_hasNoRoomFor_40 (Or.inr ⟨rfl, Or.inr rfl⟩) ?_
      have e : noRm fr ea c = 1 := by unfold noRm; (repeat' split) <;> omega
      rw [e] at hQ
      exact hQ
  · refine gX_aloadn dX4_hasNoRoomFor_4 rfl ?_
    refine gX_gR 0 dX4_hasNoRoomFor_5 fdX4_14 rfl rfl hH.1 hH.2.1 ?_
    refine gX_virt (J := iX6_length) (av := []) (a := (H + 1)) (st := []) dX4_hasNoRoomFor_8 lkX4_47 kX6_length vX6_length (gFit_m (by decide)) hH.2.2.2.2.2.1.1 rfl rfl (Nat.le_of_ble_eq_true rfl) (Nat.zero_le _) (Nat.zero_le _) rfl ?_
    refine q_Row_length hH.2.2.2.2.2.1 hh.1 ?_
    show gX l E _ 11 [some (ga H), some (gi c)] [gi fr.length] (K, R, V) _ _
    refine gX_iconst dX4_hasNoRoomFor_11 ⟨by decide, by decide⟩ ?_
    refine gX_icmplt (tgt := 19) dX4_hasNoRoomFor_12 (by decide) (fun w3 => ?_) (fun w3 => ?_)
    · refine gX_iconst dX4_hasNoRoomFor_19 ⟨by decide, by decide⟩ ?_
      refine gX_goto (tgt := 40) dX4_hasNoRoomFor_20 (by decide) ?_
      refine gX_iret dX4_hasNoRoomFor_40 (Or.inr ⟨rfl, Or.inl rfl⟩) ?_
      have e : noRm fr ea c = 0 := by unfold noRm; (repeat' split) <;> omega
      rw [e] at hQ
      exact hQ
    · refine gX_iconst dX4_hasNoRoomFor_15 ⟨by decide, by decide⟩ ?_
      refine gX_goto (tgt := 40) dX4_hasNoRoomFor_16 (by decide) ?_
      refine gX_iret dX4_hasNoRoomFor_40 (Or.inr ⟨rfl, Or.inr rfl⟩) ?_
      have e : noRm fr ea c = 1 := by unfold noRm; (repeat' split) <;> omega
      rw [e] at hQ
      exact hQ
set_option maxRecDepth 4000 in
theorem c_clauses (hH : hdK K R H) (hh : hdIs V H fr to fe ea rc wy) (hQ : Q (some (gi (clsC fr ea))) (K, R, V)) : gC l E (d + 2) iX4_clauses [ga H] (K, R, V) Q := by
  refine gC_of kX4_clauses (ls := [some (ga H), none, none]) rfl (Nat.le_of_ble_eq_true rfl) ?_
  have hfl := hh.1.2.1
  have lp : ∀ (jj : Nat) (k : Int) (c : Int) (bc bs : Nat), (6 : Int) - k < (jj : Int) → 1 ≤ k → k ≤ 6 → 0 ≤ c → c ≤ 4 + k → (Q (some (gi (clsF ea (6 - k).toNat k c))) (K, R, V)) → gX l E (gFm E (d + 2) iX4_clauses Q) 10 [some (ga H), some (gi c), some (gi k)] [] (K, R, V) bc bs := by
    intro jj
    induction jj with
    | zero =>
      intro k c bc bs hj q0 q1 q2 q3 hq2
      exfalso; omega
    | succ jj ih =>
      intro k c bc bs hj q0 q1 q2 q3 hq2
      refine gX_iloadn dX4_clauses_10 rfl ?_
      refine gX_iconst dX4_clauses_11 ⟨by decide, by decide⟩ ?_
      refine gX_icmpgt (tgt := 36) dX4_clauses_12 (by decide) (fun w1 => ?_) (fun w1 => ?_)
      · refine gX_iloadn dX4_clauses_36 rfl ?_
        refine gX_iret dX4_clauses_37 (Or.inl rfl) ?_
        have ei : (6 - k).toNat = 0 := by omega
        rw [ei] at hq2
        exact hq2
      · refine gX_aloadn dX4_clauses_15 rfl ?_
        refine gX_gR 3 dX4_clauses_16 fdX4_26 rfl rfl hH.1 hH.2.2.2.2.1 ?_
        refine gX_iloadn dX4_clauses_19 rfl ?_
        refine gX_virt (J := iX6_at) (av := [gi k]) (a := (H + 7)) (st := []) dX4_clauses_20 lkX4_51 kX6_at vX6_at (gFit_m (by decide)) hH.2.2.2.2.2.2.2.2.1 rfl rfl (Nat.le_of_ble_eq_true rfl) (Nat.zero_le _) (Nat.zero_le _) rfl ?_
        refine q_Row_at hH.2.2.2.2.2.2.2.2 hh.2.2.2.1 ?_
        show gX l E _ 23 [some (ga H), some (gi c), some (gi k)] [gi (lat ea k)] (K, R, V) _ _
        refine gX_iconst dX4_clauses_23 ⟨by decide, by decide⟩ ?_
        refine gX_icmpeq (tgt := 30) dX4_clauses_24 (by decide) (fun w2 => ?_) (fun w2 => ?_)
        · refine gX_iinc dX4_clauses_30 rfl (show (2 : Nat) < 3 from by decide) ⟨by omega, by omega⟩ (ls2 := [some (ga H), some (gi c), some (gi (k + 1))]) rfl ?_
          refine gX_goto (tgt := 10) dX4_clauses_33 (by decide) ?_
          have ek : (6 - k).toNat = (6 - (k + 1)).toNat + 1 := by omega
          have e1 : clsF ea (6 - k).toNat k c = clsF ea (6 - (k + 1)).toNat (k + 1) (c) := by
            rw [ek]
            show clsF ea _ _ (if _ then _ else _) = _
            rw [if_pos (by omega)]
          rw [e1] at hq2
          exact ih (k + 1) _ _ _ (by omega) (by omega) (by omega) (by omega) (by omega) hq2
        · refine gX_iinc dX4_clauses_27 rfl (show (1 : Nat) < 3 from by decide) ⟨by omega, by omega⟩ (ls2 := [some (ga H), some (gi (c + 1)), some (gi k)]) rfl ?_
          refine gX_iinc dX4_clauses_30 rfl (show (2 : Nat) < 3 from by decide) ⟨by omega, by omega⟩ (ls2 := [some (ga H), some (gi (c + 1)), some (gi (k + 1))]) rfl ?_
          refine gX_goto (tgt := 10) dX4_clauses_33 (by decide) ?_
          have ek : (6 - k).toNat = (6 - (k + 1)).toNat + 1 := by omega
          have e1 : clsF ea (6 - k).toNat k c = clsF ea (6 - (k + 1)).toNat (k + 1) (c + 1) := by
            rw [ek]
            show clsF ea _ _ (if _ then _ else _) = _
            rw [if_neg (by omega)]
          rw [e1] at hq2
          exact ih (k + 1) _ _ _ (by omega) (by omega) (by omega) (by omega) (by omega) hq2
  refine gX_aloadn dX4_clauses_0 rfl ?_
  refine gX_gR 0 dX4_clauses_1 fdX4_14 rfl rfl hH.1 hH.2.1 ?_
  refine gX_virt (J := iX6_length) (av := []) (a := (H + 1)) (st := []) dX4_clauses_4 lkX4_47 kX6_length vX6_length (gFit_m (by decide)) hH.2.2.2.2.2.1.1 rfl rfl (Nat.le_of_ble_eq_true rfl) (Nat.zero_le _) (Nat.zero_le _) rfl ?_
  refine q_Row_length hH.2.2.2.2.2.1 hh.1 ?_
  show gX l E _ 7 [some (ga H), none, none] [gi fr.length] (K, R, V) _ _
  refine gX_istoren dX4_clauses_7 (show (1 : Nat) < 3 from by decide) (ls2 := [some (ga H), some (gi fr.length), none]) rfl ?_
  refine gX_iconst dX4_clauses_8 ⟨by decide, by decide⟩ ?_
  refine gX_istoren dX4_clauses_9 (show (2 : Nat) < 3 from by decide) (ls2 := [some (ga H), some (gi fr.length), some (gi 1)]) rfl ?_
  exact lp 6 1 _ _ _ (by omega) (by omega) (by omega) (by omega) (by omega) hQ
set_option maxRecDepth 4000 in
theorem c_begin (hT : toK K R T) (ht : toIs V T ys t) (hQ : ∀ V', toIs V' T ys (0, 0, 0, -1) → oFr V V' T → Q none (K, R, V')) : gC l E (d + 1) iX8_begin [ga T] (K, R, V) Q := by
  refine gC_of kX8_begin (ls := [some (ga T)]) rfl (Nat.le_of_ble_eq_true rfl) ?_
  refine gX_aloadn dX8_begin_0 rfl ?_
  refine gX_iconst dX8_begin_1 ⟨by decide, by decide⟩ ?_
  refine gX_pI 1 dX8_begin_2 fdX8_20 fpX8_20 rfl (Or.inl rfl) hT.1 ?_
  refine gX_aloadn dX8_begin_5 rfl ?_
  refine gX_iconst dX8_begin_6 ⟨by decide, by decide⟩ ?_
  refine gX_pI 2 dX8_begin_7 fdX8_24 fpX8_24 rfl (Or.inl rfl) hT.1 ?_
  refine gX_aloadn dX8_begin_10 rfl ?_
  refine gX_iconst dX8_begin_11 ⟨by decide, by decide⟩ ?_
  refine gX_pI 3 dX8_begin_12 fdX8_27 fpX8_27 rfl (Or.inl rfl) hT.1 ?_
  refine gX_aloadn dX8_begin_15 rfl ?_
  refine gX_iconst dX8_begin_16 ⟨by decide, by decide⟩ ?_
  refine gX_pI 4 dX8_begin_17 fdX8_30 fpX8_30 rfl (Or.inl rfl) hT.1 ?_
  refine gX_vret dX8_begin_20 rfl ?_
  exact hQ _ ht.s1.s2.s3.s4 (fun a ha => by rw [gup_ne ha, gup_ne ha, gup_ne ha, gup_ne ha])
set_option maxRecDepth 4000 in
theorem c_fail {n x : Int} (hT : toK K R T) (ht : toIs V T ys t) (hQ : ∀ V', toIs V' T ys (t.1, t.2.1, n, x) → oFr V V' T → Q (some (gi 0)) (K, R, V')) : gC l E (d + 1) iX8_fail [ga T, gi n, gi x] (K, R, V) Q := by
  refine gC_of kX8_fail (ls := [some (ga T), some (gi n), some (gi x)]) rfl (Nat.le_of_ble_eq_true rfl) ?_
  refine gX_aloadn dX8_fail_0 rfl ?_
  refine gX_iloadn dX8_fail_1 rfl ?_
  refine gX_pI 3 dX8_fail_2 fdX8_27 fpX8_27 rfl (Or.inl rfl) hT.1 ?_
  refine gX_aloadn dX8_fail_5 rfl ?_
  refine gX_iloadn dX8_fail_6 rfl ?_
  refine gX_pI 4 dX8_fail_7 fdX8_30 fpX8_30 rfl (Or.inl rfl) hT.1 ?_
  refine gX_iconst dX8_fail_10 ⟨by decide, by decide⟩ ?_
  refine gX_iret dX8_fail_11 (Or.inr ⟨rfl, Or.inl rfl⟩) ?_
  exact hQ _ ht.s3.s4 (fun a ha => by rw [gup_ne ha, gup_ne ha])
set_option maxRecDepth 4000 in
theorem c_isLetter {c : Int} (hQ : Q (some (gi (b2i (isL c)))) (K, R, V)) : gC l E (d + 1) iX8_isLetter [gi c] (K, R, V) Q := by
  refine gC_of kX8_isLetter (ls := [some (gi c)]) rfl (Nat.le_of_ble_eq_true rfl) ?_
  refine gX_iloadn dX8_isLetter_0 rfl ?_
  refine gX_bipush dX8_isLetter_1 (by decide) ⟨by decide, by decide⟩ ?_
  refine gX_icmplt (tgt := 16) dX8_isLetter_3 (by decide) (fun w1 => ?_) (fun w1 => ?_)
  · refine gX_iconst dX8_isLetter_16 ⟨by decide, by decide⟩ ?_
    refine gX_iret dX8_isLetter_17 (Or.inr ⟨rfl, Or.inl rfl⟩) ?_
    have ec : isL c = false := by unfold isL; simp only [decide_eq_true_eq, decide_eq_false_iff_not]; omega
    rw [ec] at hQ
    exact hQ
  · refine gX_iloadn dX8_isLetter_6 rfl ?_
    refine gX_bipush dX8_isLetter_7 (by decide) ⟨by decide, by decide⟩ ?_
    refine gX_icmpgt (tgt := 16) dX8_isLetter_9 (by decide) (fun w2 => ?_) (fun w2 => ?_)
    · refine gX_iconst dX8_isLetter_16 ⟨by decide, by decide⟩ ?_
      refine gX_iret dX8_isLetter_17 (Or.inr ⟨rfl, Or.inl rfl⟩) ?_
      have ec : isL c = false := by unfold isL; simp only [decide_eq_true_eq, decide_eq_false_iff_not]; omega
      rw [ec] at hQ
      exact hQ
    · refine gX_iconst dX8_isLetter_12 ⟨by decide, by decide⟩ ?_
      refine gX_goto (tgt := 17) dX8_isLetter_13 (by decide) ?_
      refine gX_iret dX8_isLetter_17 (Or.inr ⟨rfl, Or.inr rfl⟩) ?_
      have ec : isL c = true := by unfold isL; simp only [decide_eq_true_eq, decide_eq_false_iff_not]; omega
      rw [ec] at hQ
      exact hQ
set_option maxRecDepth 4000 in
theorem c_peek (hT : toK K R T) (ht : toIs V T ys t) (h0 : 0 ≤ t.1) (h1 : t.1 ≤ ys.length) (hQ : ∀ V', toIs V' T ys (pkB ys t.1, t.2) → oFr V V' T → Q (some (gi (lat ys (pkB ys t.1)))) (K, R, V')) : gC l E (d + 2) iX8_peek [ga T] (K, R, V) Q := by
  refine gC_of kX8_peek (ls := [some (ga T)]) rfl (Nat.le_of_ble_eq_true rfl) ?_
  have hbl := ht.2.2.2.2.2.1
  have lp : ∀ (jj : Nat) (t1 : tS) (V1 : Int → Int → Int) (bc bs : Nat), (ys.length : Int) - t1.1 < (jj : Int) → 0 ≤ t1.1 → t1.1 ≤ ys.length → toIs V1 T ys t1 → oFr V V1 T → t1.2 = t.2 → (∀ V', toIs V' T ys (pkF ys jj t1.1, t.2) → oFr V V' T → Q (some (gi (lat ys (pkF ys jj t1.1)))) (K, R, V')) → gX l E (gFm E (d + 2) iX8_peek Q) 0 [some (ga T)] [] (K, R, V1) bc bs := by
    intro jj
    induction jj with
    | zero =>
      intro t1 V1 bc bs hj q0 q1 ht1 hf1 he hq2
      exfalso; omega
    | succ jj ih =>
      intro t1 V1 bc bs hj q0 q1 ht1 hf1 he hq2
      refine gX_aloadn dX8_peek_0 rfl ?_
      refine gX_gI 1 dX8_peek_1 fdX8_20 rfl (Or.inl rfl) hT.1 ?_
      rw [ht1.1]
      refine gX_aloadn dX8_peek_4 rfl ?_
      refine gX_gR 0 dX8_peek_5 fdX8_14 rfl rfl hT.1 hT.2.1 ?_
      refine gX_virt (J := iX6_length) (av := []) (a := (T + 1)) (st := [gi t1.1]) dX8_peek_8 lkX8_33 kX6_length vX6_length (gFit_m (by decide)) hT.2.2.1 rfl rfl (Nat.le_of_ble_eq_true rfl) (Nat.zero_le _) (Nat.zero_le _) rfl ?_
      refine q_Row_length hT.2.2 ht1.2.2.2.2 ?_
      show gX l E _ 11 [some (ga T)] [gi ys.length, gi t1.1] (K, R, V1) _ _
      refine gX_icmpge (tgt := 43) dX8_peek_11 (by decide) (fun w1 => ?_) (fun w1 => ?_)
      · refine gX_aloadn dX8_peek_43 rfl ?_
        refine gX_gR 0 dX8_peek_44 fdX8_14 rfl rfl hT.1 hT.2.1 ?_
        refine gX_aloadn dX8_peek_47 rfl ?_
        refine gX_gI 1 dX8_peek_48 fdX8_20 rfl (Or.inl rfl) hT.1 ?_
        rw [ht1.1]
        refine gX_virt (J := iX6_at) (av := [gi t1.1]) (a := (T + 1)) (st := []) dX8_peek_51 lkX8_37 kX6_at vX6_at (gFit_m (by decide)) hT.2.2.1 rfl rfl (Nat.le_of_ble_eq_true rfl) (Nat.zero_le _) (Nat.zero_le _) rfl ?_
        refine q_Row_at hT.2.2 ht1.2.2.2.2 ?_
        show gX l E _ 54 [some (ga T)] [gi (lat ys t1.1)] (K, R, V1) _ _
        refine gX_iret dX8_peek_54 (Or.inl rfl) ?_
        have e1 : pkF ys (jj + 1) t1.1 = t1.1 := if_neg (by omega)
        rw [e1] at hq2
        rw [← he] at hq2
        exact hq2 V1 ht1 hf1
      · refine gX_aloadn dX8_peek_14 rfl ?_
        refine gX_gR 0 dX8_peek_15 fdX8_14 rfl rfl hT.1 hT.2.1 ?_
        refine gX_aloadn dX8_peek_18 rfl ?_
        refine gX_gI 1 dX8_peek_19 fdX8_20 rfl (Or.inl rfl) hT.1 ?_
        rw [ht1.1]
        refine gX_virt (J := iX6_at) (av := [gi t1.1]) (a := (T + 1)) (st := []) dX8_peek_22 lkX8_37 kX6_at vX6_at (gFit_m (by decide)) hT.2.2.1 rfl rfl (Nat.le_of_ble_eq_true rfl) (Nat.zero_le _) (Nat.zero_le _) rfl ?_
        refine q_Row_at hT.2.2 ht1.2.2.2.2 ?_
        show gX l E _ 25 [some (ga T)] [gi (lat ys t1.1)] (K, R, V1) _ _
        refine gX_bipush dX8_peek_25 (by decide) ⟨by decide, by decide⟩ ?_
        refine gX_icmpne (tgt := 43) dX8_peek_27 (by decide) (fun w2 => ?_) (fun w2 => ?_)
        · refine gX_aloadn dX8_peek_43 rfl ?_
          refine gX_gR 0 dX8_peek_44 fdX8_14 rfl rfl hT.1 hT.2.1 ?_
          refine gX_aloadn dX8_peek_47 rfl ?_
          refine gX_gI 1 dX8_peek_48 fdX8_20 rfl (Or.inl rfl) hT.1 ?_
          rw [ht1.1]
          refine gX_virt (J := iX6_at) (av := [gi t1.1]) (a := (T + 1)) (st := []) dX8_peek_51 lkX8_37 kX6_at vX6_at (gFit_m (by decide)) hT.2.2.1 rfl rfl (Nat.le_of_ble_eq_true rfl) (Nat.zero_le _) (Nat.zero_le _) rfl ?_
          refine q_Row_at hT.2.2 ht1.2.2.2.2 ?_
          show gX l E _ 54 [some (ga T)] [gi (lat ys t1.1)] (K, R, V1) _ _
          refine gX_iret dX8_peek_54 (Or.inl rfl) ?_
          have e1 : pkF ys (jj + 1) t1.1 = t1.1 := if_neg (by omega)
          rw [e1] at hq2
          rw [← he] at hq2
          exact hq2 V1 ht1 hf1
        · refine gX_aloadn dX8_peek_30 rfl ?_
          refine gX_dup dX8_peek_31 rfl ?_
          refine gX_gI 1 dX8_peek_32 fdX8_20 rfl (Or.inl rfl) hT.1 ?_
          rw [ht1.1]
          refine gX_iconst dX8_peek_35 ⟨by decide, by decide⟩ ?_
          refine gX_iadd dX8_peek_36 ⟨by omega, by omega⟩ ?_
          refine gX_pI 1 dX8_peek_37 fdX8_20 fpX8_20 rfl (Or.inl rfl) hT.1 ?_
          refine gX_goto (tgt := 0) dX8_peek_40 (by decide) ?_
          have e1 : pkF ys (jj + 1) t1.1 = pkF ys jj (t1.1 + 1) := if_pos ⟨by omega, by omega⟩
          rw [e1] at hq2
          exact ih (t1.1 + 1, t1.2) _ _ _ (by show (ys.length : Int) - (t1.1 + 1) < _; omega) (by show 0 ≤ t1.1 + 1; omega) (by show t1.1 + 1 ≤ (ys.length : Int); omega) ht1.s1 (hf1.trans oFr.up) he hq2
  exact lp 321 t V _ _ (by omega) h0 h1 ht oFr.rf rfl hQ
set_option maxRecDepth 4000 in
theorem c_takeSign {c : Int} (hT : toK K R T) (ht : toIs V T ys t) (h0 : 0 ≤ t.1) (h1 : t.1 ≤ ys.length) (hQ : ∀ V', toIs V' T ys (tkSig ys c t).2 → oFr V V' T → Q (some (gi (tkSig ys c t).1)) (K, R, V')) : gC l E (d + 3) iX8_takeSign [ga T, gi c] (K, R, V) Q := by
  refine gC_of kX8_takeSign (ls := [some (ga T), some (gi c)]) rfl (Nat.le_of_ble_eq_true rfl) ?_
  have hp := pkB_in h0 h1
  have hbl := ht.2.2.2.2.2.1
  refine gX_aloadn dX8_takeSign_0 rfl ?_
  refine gX_virt (J := iX8_peek) (av := []) (a := T) (st := []) dX8_takeSign_1 lkX8_40 kX8_peek vX8_peek (gFit_m (by decide)) hT.1 rfl rfl (Nat.le_of_ble_eq_true rfl) (Nat.zero_le _) (Nat.zero_le _) rfl ?_
  refine c_peek hT ht h0 h1 (fun V1 ht1 hf1 => ?_)
  show gX l E _ 4 [some (ga T), some (gi c)] [gi (lat ys (pkB ys t.1))] (K, R, V1) _ _
  refine gX_iloadn dX8_takeSign_4 rfl ?_
  refine gX_icmpeq (tgt := 18) dX8_takeSign_5 (by decide) (fun w1 => ?_) (fun w1 => ?_)
  · refine gX_aloadn dX8_takeSign_18 rfl ?_
    refine gX_dup dX8_takeSign_19 rfl ?_
    refine gX_gI 1 dX8_takeSign_20 fdX8_20 rfl (Or.inl rfl) hT.1 ?_
    rw [ht1.1]
    refine gX_iconst dX8_takeSign_23 ⟨by decide, by decide⟩ ?_
    refine gX_iadd dX8_takeSign_24 ⟨by omega, by omega⟩ ?_
    refine gX_pI 1 dX8_takeSign_25 fdX8_20 fpX8_20 rfl (Or.inl rfl) hT.1 ?_
    refine gX_iconst dX8_takeSign_28 ⟨by decide, by decide⟩ ?_
    refine gX_iret dX8_takeSign_29 (Or.inr ⟨rfl, Or.inr rfl⟩) ?_
    have e : tkSig ys c t = _ := if_pos (by omega)
    rw [e] at hQ
    exact hQ _ ht1.s1 (hf1.trans oFr.up)
  · refine gX_aloadn dX8_takeSign_8 rfl ?_
    refine gX_iconst dX8_takeSign_9 ⟨by decide, by decide⟩ ?_
    refine gX_aloadn dX8_takeSign_10 rfl ?_
    refine gX_gI 1 dX8_takeSign_11 fdX8_20 rfl (Or.inl rfl) hT.1 ?_
    rw [ht1.1]
    refine gX_virt (J := iX8_fail) (av := [gi 1, gi (pkB ys t.1)]) (a := T) (st := []) dX8_takeSign_14 lkX8_47 kX8_fail vX8_fail (gFit_m (by decide)) hT.1 rfl rfl (Nat.le_of_ble_eq_true rfl) (Nat.zero_le _) (Nat.zero_le _) rfl ?_
    refine c_fail hT ht1 (fun V2 ht2 hf2 => ?_)
    show gX l E _ 17 [some (ga T), some (gi c)] [gi 0] (K, R, V2) _ _
    refine gX_iret dX8_takeSign_17 (Or.inr ⟨rfl, Or.inl rfl⟩) ?_
    have e : tkSig ys c t = _ := if_neg (by omega)
    rw [e] at hQ
    exact hQ V2 ht2 (hf1.trans hf2)
theorem isF_of {c : Int} (h : isF c = true) : 48 ≤ c ∧ c ≤ 57 := by unfold isF at h; exact decide_eq_true_eq.mp h
set_option maxRecDepth 4000 in
theorem c_takeNumber {low high : Int} (hT : toK K R T) (ht : toIs V T ys t) (h0 : 0 ≤ t.1) (h1 : t.1 ≤ ys.length) (hQ : ∀ V', toIs V' T ys (tkNum ys low high t).2 → oFr V V' T → Q (some (gi (tkNum ys low high t).1)) (K, R, V')) : gC l E (d + 3) iX8_takeNumber [ga T, gi low, gi high] (K, R, V) Q := by
  refine gC_of kX8_takeNumber (ls := [some (ga T), some (gi low), some (gi high), none]) rfl (Nat.le_of_ble_eq_true rfl) ?_
  have hp := pkB_in h0 h1
  have hbl := ht.2.2.2.2.2.1
  have lp : ∀ (jj : Nat) (a : Int) (v : Int) (V1 : Int → Int → Int) (bc bs : Nat), (ys.length : Int) - a < (jj : Int) → (pkB ys t.1) ≤ a → a ≤ ys.length → 0 ≤ v → v ≤ 99 → (a - (pkB ys t.1) = 0 → v = 0) → (a - (pkB ys t.1) = 1 → v ≤ 9) → toIs V1 T ys (a, (pkB ys t.1), t.2.2.1, t.2.2.2) → oFr V V1 T → (∀ V', toIs V' T ys ((if nuB low high (pkB ys t.1) (fiF ys (pkB ys t.1) jj a v) = true then (-1, (fiF ys (pkB ys t.1) jj a v).1, (pkB ys t.1), 2, (pkB ys t.1)) else ((fiF ys (pkB ys t.1) jj a v).2, (fiF ys (pkB ys t.1) jj a v).1, (pkB ys t.1), t.2.2.1, t.2.2.2) : Int × tS)).2 → oFr V V' T → Q (some (gi ((if nuB low high (pkB ys t.1) (fiF ys (pkB ys t.1) jj a v) = true then (-1, (fiF ys (pkB ys t.1) jj a v).1, (pkB ys t.1), 2, (pkB ys t.1)) else ((fiF ys (pkB ys t.1) jj a v).2, (fiF ys (pkB ys t.1) jj a v).1, (pkB ys t.1), t.2.2.1, t.2.2.2) : Int × tS)).1)) (K, R, V')) → gX l E (gFm E (d + 3) iX8_takeNumber Q) 32 [some (ga T), some (gi low), some (gi high), some (gi v)] [] (K, R, V1) bc bs := by
    intro jj
    induction jj with
    | zero =>
      intro a v V1 bc bs hj q0 q1 q2 q3 q4 q5 ht1 hf1 hq2
      exfalso; omega
    | succ jj ih =>
      intro a v V1 bc bs hj q0 q1 q2 q3 q4 q5 ht1 hf1 hq2
      have hta : V1 T 1 = a := ht1.1
      have htb : V1 T 2 = (pkB ys t.1) := ht1.2.1
      refine gX_aloadn dX8_takeNumber_32 rfl ?_
      refine gX_gI 1 dX8_takeNumber_33 fdX8_20 rfl (Or.inl rfl) hT.1 ?_
      rw [hta]
      refine gX_aloadn dX8_takeNumber_36 rfl ?_
      refine gX_gR 0 dX8_takeNumber_37 fdX8_14 rfl rfl hT.1 hT.2.1 ?_
      refine gX_virt (J := iX6_length) (av := []) (a := (T + 1)) (st := [gi a]) dX8_takeNumber_40 lkX8_33 kX6_length vX6_length (gFit_m (by decide)) hT.2.2.1 rfl rfl (Nat.le_of_ble_eq_true rfl) (Nat.zero_le _) (Nat.zero_le _) rfl ?_
      refine q_Row_length hT.2.2 ht1.2.2.2.2 ?_
      show gX l E _ 43 [some (ga T), some (gi low), some (gi high), some (gi v)] [gi ys.length, gi a] (K, R, V1) _ _
      refine gX_icmpge (tgt := 113) dX8_takeNumber_43 (by decide) (fun w1 => ?_) (fun w1 => ?_)
      · have e1 : fiF ys (pkB ys t.1) (jj + 1) a v = (a, v) := by
          show (if _ then _ else _) = _
          exact if_neg (fun z => by first | omega | (have z2 := z.2; rw [b2i_0 (b := isF (lat ys a)) (by assumption)] at z2; exact absurd z2 (by decide)))
        rw [e1] at hq2
        refine gX_aloadn dX8_takeNumber_113 rfl ?_
        refine gX_gI 1 dX8_takeNumber_114 fdX8_20 rfl (Or.inl rfl) hT.1 ?_
        rw [hta]
        refine gX_aloadn dX8_takeNumber_117 rfl ?_
        refine gX_gI 2 dX8_takeNumber_118 fdX8_24 rfl (Or.inl rfl) hT.1 ?_
        rw [htb]
        refine gX_isub dX8_takeNumber_121 ⟨by omega, by omega⟩ ?_
        refine gX_iconst dX8_takeNumber_122 ⟨by decide, by decide⟩ ?_
        refine gX_icmpgt (tgt := 136) dX8_takeNumber_123 (by decide) (fun w2 => ?_) (fun w2 => ?_)
        · refine gX_aloadn dX8_takeNumber_136 rfl ?_
          refine gX_iconst dX8_takeNumber_137 ⟨by decide, by decide⟩ ?_
          refine gX_aloadn dX8_takeNumber_138 rfl ?_
          refine gX_gI 2 dX8_takeNumber_139 fdX8_24 rfl (Or.inl rfl) hT.1 ?_
          rw [htb]
          refine gX_virt (J := iX8_fail) (av := [gi 2, gi (pkB ys t.1)]) (a := T) (st := []) dX8_takeNumber_142 lkX8_47 kX8_fail vX8_fail (gFit_m (by decide)) hT.1 rfl rfl (Nat.le_of_ble_eq_true rfl) (Nat.zero_le _) (Nat.zero_le _) rfl ?_
          refine c_fail hT ht1 (fun V2 ht2 hf2 => ?_)
          show gX l E _ 145 [some (ga T), some (gi low), some (gi high), some (gi v)] [gi 0] (K, R, V2) _ _
          refine gX_pop dX8_takeNumber_145 rfl ?_
          refine gX_iconst dX8_takeNumber_146 ⟨by decide, by decide⟩ ?_
          refine gX_iret dX8_takeNumber_147 (Or.inl rfl) ?_
          have e2 : nuB low high (pkB ys t.1) (a, v) = true := by
            unfold nuB
            simp only [decide_eq_true_eq, decide_eq_false_iff_not]
            omega
          rw [if_pos e2] at hq2
          exact hq2 V2 ht2 (hf1.trans hf2)
        · refine gX_iloadn dX8_takeNumber_126 rfl ?_
          refine gX_iloadn dX8_takeNumber_127 rfl ?_
          refine gX_icmplt (tgt := 136) dX8_takeNumber_128 (by decide) (fun w3 => ?_) (fun w3 => ?_)
          · refine gX_aloadn dX8_takeNumber_136 rfl ?_
            refine gX_iconst dX8_takeNumber_137 ⟨by decide, by decide⟩ ?_
            refine gX_aloadn dX8_takeNumber_138 rfl ?_
            refine gX_gI 2 dX8_takeNumber_139 fdX8_24 rfl (Or.inl rfl) hT.1 ?_
            rw [htb]
            refine gX_virt (J := iX8_fail) (av := [gi 2, gi (pkB ys t.1)]) (a := T) (st := []) dX8_takeNumber_142 lkX8_47 kX8_fail vX8_fail (gFit_m (by decide)) hT.1 rfl rfl (Nat.le_of_ble_eq_true rfl) (Nat.zero_le _) (Nat.zero_le _) rfl ?_
            refine c_fail hT ht1 (fun V2 ht2 hf2 => ?_)
            show gX l E _ 145 [some (ga T), some (gi low), some (gi high), some (gi v)] [gi 0] (K, R, V2) _ _
            refine gX_pop dX8_takeNumber_145 rfl ?_
            refine gX_iconst dX8_takeNumber_146 ⟨by decide, by decide⟩ ?_
            refine gX_iret dX8_takeNumber_147 (Or.inl rfl) ?_
            have e2 : nuB low high (pkB ys t.1) (a, v) = true := by
              unfold nuB
              simp only [decide_eq_true_eq, decide_eq_false_iff_not]
              omega
            rw [if_pos e2] at hq2
            exact hq2 V2 ht2 (hf1.trans hf2)
          · refine gX_iloadn dX8_takeNumber_131 rfl ?_
            refine gX_iloadn dX8_takeNumber_132 rfl ?_
            refine gX_icmple (tgt := 148) dX8_takeNumber_133 (by decide) (fun w4 => ?_) (fun w4 => ?_)
            · refine gX_iloadn dX8_takeNumber_148 rfl ?_
              refine gX_iret dX8_takeNumber_149 (Or.inl rfl) ?_
              have e2 : nuB low high (pkB ys t.1) (a, v) = false := by
                unfold nuB
                simp only [decide_eq_true_eq, decide_eq_false_iff_not]
                omega
              rw [if_neg (by rw [e2]; decide)] at hq2
              exact hq2 V1 ht1 hf1
            · refine gX_aloadn dX8_takeNumber_136 rfl ?_
              refine gX_iconst dX8_takeNumber_137 ⟨by decide, by decide⟩ ?_
              refine gX_aloadn dX8_takeNumber_138 rfl ?_
              refine gX_gI 2 dX8_takeNumber_139 fdX8_24 rfl (Or.inl rfl) hT.1 ?_
              rw [htb]
              refine gX_virt (J := iX8_fail) (av := [gi 2, gi (pkB ys t.1)]) (a := T) (st := []) dX8_takeNumber_142 lkX8_47 kX8_fail vX8_fail (gFit_m (by decide)) hT.1 rfl rfl (Nat.le_of_ble_eq_true rfl) (Nat.zero_le _) (Nat.zero_le _) rfl ?_
              refine c_fail hT ht1 (fun V2 ht2 hf2 => ?_)
              show gX l E _ 145 [some (ga T), some (gi low), some (gi high), some (gi v)] [gi 0] (K, R, V2) _ _
              refine gX_pop dX8_takeNumber_145 rfl ?_
              refine gX_iconst dX8_takeNumber_146 ⟨by decide, by decide⟩ ?_
              refine gX_iret dX8_takeNumber_147 (Or.inl rfl) ?_
              have e2 : nuB low high (pkB ys t.1) (a, v) = true := by
                unfold nuB
                simp only [decide_eq_true_eq, decide_eq_false_iff_not]
                omega
              rw [if_pos e2] at hq2
              exact hq2 V2 ht2 (hf1.trans hf2)
      · refine gX_aloadn dX8_takeNumber_46 rfl ?_
        refine gX_gR 0 dX8_takeNumber_47 fdX8_14 rfl rfl hT.1 hT.2.1 ?_
        refine gX_aloadn dX8_takeNumber_50 rfl ?_
        refine gX_gI 1 dX8_takeNumber_51 fdX8_20 rfl (Or.inl rfl) hT.1 ?_
        rw [hta]
        refine gX_virt (J := iX6_at) (av := [gi a]) (a := (T + 1)) (st := []) dX8_takeNumber_54 lkX8_37 kX6_at vX6_at (gFit_m (by decide)) hT.2.2.1 rfl rfl (Nat.le_of_ble_eq_true rfl) (Nat.zero_le _) (Nat.zero_le _) rfl ?_
        refine q_Row_at hT.2.2 ht1.2.2.2.2 ?_
        show gX l E _ 57 [some (ga T), some (gi low), some (gi high), some (gi v)] [gi (lat ys a)] (K, R, V1) _ _
        refine gX_stat (J := iX8_isFigure) (av := [gi (lat ys a)]) (st := []) dX8_takeNumber_57 lkX8_43 kX8_isFigure sX8_isFigure (gFit_m (by decide)) rfl (Nat.le_of_ble_eq_true rfl) (Nat.zero_le _) (Nat.zero_le _) rfl ?_
        refine c_isFigure ?_
        show gX l E _ 60 [some (ga T), some (gi low), some (gi high), some (gi v)] [gi (b2i (isF (lat ys a)))] (K, R, V1) _ _
        refine gX_ifeq (tgt := 113) dX8_takeNumber_60 (by decide) (fun w5 => ?_) (fun w5 => ?_)
        · have e1 : fiF ys (pkB ys t.1) (jj + 1) a v = (a, v) := by
            show (if _ then _ else _) = _
            exact if_neg (fun z => by first | omega | (have z2 := z.2; rw [b2i_0 (b := isF (lat ys a)) (by assumption)] at z2; exact absurd z2 (by decide)))
          rw [e1] at hq2
          refine gX_aloadn dX8_takeNumber_113 rfl ?_
          refine gX_gI 1 dX8_takeNumber_114 fdX8_20 rfl (Or.inl rfl) hT.1 ?_
          rw [hta]
          refine gX_aloadn dX8_takeNumber_117 rfl ?_
          refine gX_gI 2 dX8_takeNumber_118 fdX8_24 rfl (Or.inl rfl) hT.1 ?_
          rw [htb]
          refine gX_isub dX8_takeNumber_121 ⟨by omega, by omega⟩ ?_
          refine gX_iconst dX8_takeNumber_122 ⟨by decide, by decide⟩ ?_
          refine gX_icmpgt (tgt := 136) dX8_takeNumber_123 (by decide) (fun w6 => ?_) (fun w6 => ?_)
          · refine gX_aloadn dX8_takeNumber_136 rfl ?_
            refine gX_iconst dX8_takeNumber_137 ⟨by decide, by decide⟩ ?_
            refine gX_aloadn dX8_takeNumber_138 rfl ?_
            refine gX_gI 2 dX8_takeNumber_139 fdX8_24 rfl (Or.inl rfl) hT.1 ?_
            rw [htb]
            refine gX_virt (J := iX8_fail) (av := [gi 2, gi (pkB ys t.1)]) (a := T) (st := []) dX8_takeNumber_142 lkX8_47 kX8_fail vX8_fail (gFit_m (by decide)) hT.1 rfl rfl (Nat.le_of_ble_eq_true rfl) (Nat.zero_le _) (Nat.zero_le _) rfl ?_
            refine c_fail hT ht1 (fun V2 ht2 hf2 => ?_)
            show gX l E _ 145 [some (ga T), some (gi low), some (gi high), some (gi v)] [gi 0] (K, R, V2) _ _
            refine gX_pop dX8_takeNumber_145 rfl ?_
            refine gX_iconst dX8_takeNumber_146 ⟨by decide, by decide⟩ ?_
            refine gX_iret dX8_takeNumber_147 (Or.inl rfl) ?_
            have e2 : nuB low high (pkB ys t.1) (a, v) = true := by
              unfold nuB
              simp only [decide_eq_true_eq, decide_eq_false_iff_not]
              omega
            rw [if_pos e2] at hq2
            exact hq2 V2 ht2 (hf1.trans hf2)
          · refine gX_iloadn dX8_takeNumber_126 rfl ?_
            refine gX_iloadn dX8_takeNumber_127 rfl ?_
            refine gX_icmplt (tgt := 136) dX8_takeNumber_128 (by decide) (fun w7 => ?_) (fun w7 => ?_)
            · refine gX_aloadn dX8_takeNumber_136 rfl ?_
              refine gX_iconst dX8_takeNumber_137 ⟨by decide, by decide⟩ ?_
              refine gX_aloadn dX8_takeNumber_138 rfl ?_
              refine gX_gI 2 dX8_takeNumber_139 fdX8_24 rfl (Or.inl rfl) hT.1 ?_
              rw [htb]
              refine gX_virt (J := iX8_fail) (av := [gi 2, gi (pkB ys t.1)]) (a := T) (st := []) dX8_takeNumber_142 lkX8_47 kX8_fail vX8_fail (gFit_m (by decide)) hT.1 rfl rfl (Nat.le_of_ble_eq_true rfl) (Nat.zero_le _) (Nat.zero_le _) rfl ?_
              refine c_fail hT ht1 (fun V2 ht2 hf2 => ?_)
              show gX l E _ 145 [some (ga T), some (gi low), some (gi high), some (gi v)] [gi 0] (K, R, V2) _ _
              refine gX_pop dX8_takeNumber_145 rfl ?_
              refine gX_iconst dX8_takeNumber_146 ⟨by decide, by decide⟩ ?_
              refine gX_iret dX8_takeNumber_147 (Or.inl rfl) ?_
              have e2 : nuB low high (pkB ys t.1) (a, v) = true := by
                unfold nuB
                simp only [decide_eq_true_eq, decide_eq_false_iff_not]
                omega
              rw [if_pos e2] at hq2
              exact hq2 V2 ht2 (hf1.trans hf2)
            · refine gX_iloadn dX8_takeNumber_131 rfl ?_
              refine gX_iloadn dX8_takeNumber_132 rfl ?_
              refine gX_icmple (tgt := 148) dX8_takeNumber_133 (by decide) (fun w8 => ?_) (fun w8 => ?_)
              · refine gX_iloadn dX8_takeNumber_148 rfl ?_
                refine gX_iret dX8_takeNumber_149 (Or.inl rfl) ?_
                have e2 : nuB low high (pkB ys t.1) (a, v) = false := by
                  unfold nuB
                  simp only [decide_eq_true_eq, decide_eq_false_iff_not]
                  omega
                rw [if_neg (by rw [e2]; decide)] at hq2
                exact hq2 V1 ht1 hf1
              · refine gX_aloadn dX8_takeNumber_136 rfl ?_
                refine gX_iconst dX8_takeNumber_137 ⟨by decide, by decide⟩ ?_
                refine gX_aloadn dX8_takeNumber_138 rfl ?_
                refine gX_gI 2 dX8_takeNumber_139 fdX8_24 rfl (Or.inl rfl) hT.1 ?_
                rw [htb]
                refine gX_virt (J := iX8_fail) (av := [gi 2, gi (pkB ys t.1)]) (a := T) (st := []) dX8_takeNumber_142 lkX8_47 kX8_fail vX8_fail (gFit_m (by decide)) hT.1 rfl rfl (Nat.le_of_ble_eq_true rfl) (Nat.zero_le _) (Nat.zero_le _) rfl ?_
                refine c_fail hT ht1 (fun V2 ht2 hf2 => ?_)
                show gX l E _ 145 [some (ga T), some (gi low), some (gi high), some (gi v)] [gi 0] (K, R, V2) _ _
                refine gX_pop dX8_takeNumber_145 rfl ?_
                refine gX_iconst dX8_takeNumber_146 ⟨by decide, by decide⟩ ?_
                refine gX_iret dX8_takeNumber_147 (Or.inl rfl) ?_
                have e2 : nuB low high (pkB ys t.1) (a, v) = true := by
                  unfold nuB
                  simp only [decide_eq_true_eq, decide_eq_false_iff_not]
                  omega
                rw [if_pos e2] at hq2
                exact hq2 V2 ht2 (hf1.trans hf2)
        · have hfg := isF_of (b2i_1 (b := isF (lat ys a)) (by assumption))
          refine gX_aloadn dX8_takeNumber_63 rfl ?_
          refine gX_gI 1 dX8_takeNumber_64 fdX8_20 rfl (Or.inl rfl) hT.1 ?_
          rw [hta]
          refine gX_aloadn dX8_takeNumber_67 rfl ?_
          refine gX_gI 2 dX8_takeNumber_68 fdX8_24 rfl (Or.inl rfl) hT.1 ?_
          rw [htb]
          refine gX_isub dX8_takeNumber_71 ⟨by omega, by omega⟩ ?_
          refine gX_iconst dX8_takeNumber_72 ⟨by decide, by decide⟩ ?_
          refine gX_icmpge (tgt := 98) dX8_takeNumber_73 (by decide) (fun w9 => ?_) (fun w9 => ?_)
          · refine gX_iloadn dX8_takeNumber_98 rfl ?_
            refine gX_istoren dX8_takeNumber_99 (show (3 : Nat) < 4 from by decide) (ls2 := [some (ga T), some (gi low), some (gi high), some (gi v)]) rfl ?_
            refine gX_aloadn dX8_takeNumber_100 rfl ?_
            refine gX_dup dX8_takeNumber_101 rfl ?_
            refine gX_gI 1 dX8_takeNumber_102 fdX8_20 rfl (Or.inl rfl) hT.1 ?_
            rw [hta]
            refine gX_iconst dX8_takeNumber_105 ⟨by decide, by decide⟩ ?_
            refine gX_iadd dX8_takeNumber_106 ⟨by omega, by omega⟩ ?_
            refine gX_pI 1 dX8_takeNumber_107 fdX8_20 fpX8_20 rfl (Or.inl rfl) hT.1 ?_
            refine gX_goto (tgt := 32) dX8_takeNumber_110 (by decide) ?_
            have e1 : fiF ys (pkB ys t.1) (jj + 1) a v = fiF ys (pkB ys t.1) jj (a + 1) (v) := by
              show (if _ then _ else _) = _
              rw [if_pos ⟨by omega, b2i_1 (by assumption)⟩, if_neg (by omega)]
            rw [e1] at hq2
            exact ih (a + 1) (v) _ _ _ (by omega) (by omega) (by omega) (by omega) (by omega) (by omega) (by omega) ht1.s1 (hf1.trans oFr.up) hq2
          · refine gX_iloadn dX8_takeNumber_76 rfl ?_
            refine gX_bipush dX8_takeNumber_77 (by decide) ⟨by decide, by decide⟩ ?_
            refine gX_imul dX8_takeNumber_79 ⟨by omega, by omega⟩ ?_
            refine gX_aloadn dX8_takeNumber_80 rfl ?_
            refine gX_gR 0 dX8_takeNumber_81 fdX8_14 rfl rfl hT.1 hT.2.1 ?_
            refine gX_aloadn dX8_takeNumber_84 rfl ?_
            refine gX_gI 1 dX8_takeNumber_85 fdX8_20 rfl (Or.inl rfl) hT.1 ?_
            rw [hta]
            refine gX_virt (J := iX6_at) (av := [gi a]) (a := (T + 1)) (st := [gi (v * 10)]) dX8_takeNumber_88 lkX8_37 kX6_at vX6_at (gFit_m (by decide)) hT.2.2.1 rfl rfl (Nat.le_of_ble_eq_true rfl) (Nat.zero_le _) (Nat.zero_le _) rfl ?_
            refine q_Row_at hT.2.2 ht1.2.2.2.2 ?_
            show gX l E _ 91 [some (ga T), some (gi low), some (gi high), some (gi v)] [gi (lat ys a), gi (v * 10)] (K, R, V1) _ _
            refine gX_iadd dX8_takeNumber_91 ⟨by omega, by omega⟩ ?_
            refine gX_bipush dX8_takeNumber_92 (by decide) ⟨by decide, by decide⟩ ?_
            refine gX_isub dX8_takeNumber_94 ⟨by omega, by omega⟩ ?_
            refine gX_goto (tgt := 99) dX8_takeNumber_95 (by decide) ?_
            refine gX_istoren dX8_takeNumber_99 (show (3 : Nat) < 4 from by decide) (ls2 := [some (ga T), some (gi low), some (gi high), some (gi (((v * 10) + (lat ys a)) - 48))]) rfl ?_
            refine gX_aloadn dX8_takeNumber_100 rfl ?_
            refine gX_dup dX8_takeNumber_101 rfl ?_
            refine gX_gI 1 dX8_takeNumber_102 fdX8_20 rfl (Or.inl rfl) hT.1 ?_
            rw [hta]
            refine gX_iconst dX8_takeNumber_105 ⟨by decide, by decide⟩ ?_
            refine gX_iadd dX8_takeNumber_106 ⟨by omega, by omega⟩ ?_
            refine gX_pI 1 dX8_takeNumber_107 fdX8_20 fpX8_20 rfl (Or.inl rfl) hT.1 ?_
            refine gX_goto (tgt := 32) dX8_takeNumber_110 (by decide) ?_
            have e1 : fiF ys (pkB ys t.1) (jj + 1) a v = fiF ys (pkB ys t.1) jj (a + 1) (((v * 10) + (lat ys a)) - 48) := by
              show (if _ then _ else _) = _
              rw [if_pos ⟨by omega, b2i_1 (by assumption)⟩, if_pos (by omega)]
            rw [e1] at hq2
            exact ih (a + 1) (((v * 10) + (lat ys a)) - 48) _ _ _ (by omega) (by omega) (by omega) (by omega) (by omega) (by omega) (by omega) ht1.s1 (hf1.trans oFr.up) hq2
  refine gX_aloadn dX8_takeNumber_0 rfl ?_
  refine gX_virt (J := iX8_peek) (av := []) (a := T) (st := []) dX8_takeNumber_1 lkX8_40 kX8_peek vX8_peek (gFit_m (by decide)) hT.1 rfl rfl (Nat.le_of_ble_eq_true rfl) (Nat.zero_le _) (Nat.zero_le _) rfl ?_
  refine c_peek hT ht h0 h1 (fun V1 ht1 hf1 => ?_)
  show gX l E _ 4 [some (ga T), some (gi low), some (gi high), none] [gi (lat ys (pkB ys t.1))] (K, R, V1) _ _
  refine gX_stat (J := iX8_isFigure) (av := [gi (lat ys (pkB ys t.1))]) (st := []) dX8_takeNumber_4 lkX8_43 kX8_isFigure sX8_isFigure (gFit_m (by decide)) rfl (Nat.le_of_ble_eq_true rfl) (Nat.zero_le _) (Nat.zero_le _) rfl ?_
  refine c_isFigure ?_
  show gX l E _ 7 [some (ga T), some (gi low), some (gi high), none] [gi (b2i (isF (lat ys (pkB ys t.1))))] (K, R, V1) _ _
  refine gX_ifne (tgt := 22) dX8_takeNumber_7 (by decide) (fun m1 => ?_) (fun m1 => ?_)
  · refine gX_aloadn dX8_takeNumber_22 rfl ?_
    refine gX_aloadn dX8_takeNumber_23 rfl ?_
    refine gX_gI 1 dX8_takeNumber_24 fdX8_20 rfl (Or.inl rfl) hT.1 ?_
    rw [show V1 T 1 = pkB ys t.1 from ht1.1]
    refine gX_pI 2 dX8_takeNumber_27 fdX8_24 fpX8_24 rfl (Or.inl rfl) hT.1 ?_
    refine gX_iconst dX8_takeNumber_30 ⟨by decide, by decide⟩ ?_
    refine gX_istoren dX8_takeNumber_31 (show (3 : Nat) < 4 from by decide) (ls2 := [some (ga T), some (gi low), some (gi high), some (gi 0)]) rfl ?_
    have e : tkNum ys low high t = _ := if_pos (b2i_1 (by assumption))
    rw [e] at hQ
    exact lp 321 (pkB ys t.1) 0 _ _ _ (by omega) (by omega) (by omega) (by omega) (by omega) (by omega) (by omega) ht1.s2 (hf1.trans oFr.up) hQ
  · refine gX_aloadn dX8_takeNumber_10 rfl ?_
    refine gX_iconst dX8_takeNumber_11 ⟨by decide, by decide⟩ ?_
    refine gX_aloadn dX8_takeNumber_12 rfl ?_
    refine gX_gI 1 dX8_takeNumber_13 fdX8_20 rfl (Or.inl rfl) hT.1 ?_
    rw [show V1 T 1 = pkB ys t.1 from ht1.1]
    refine gX_virt (J := iX8_fail) (av := [gi 1, gi (pkB ys t.1)]) (a := T) (st := []) dX8_takeNumber_16 lkX8_47 kX8_fail vX8_fail (gFit_m (by decide)) hT.1 rfl rfl (Nat.le_of_ble_eq_true rfl) (Nat.zero_le _) (Nat.zero_le _) rfl ?_
    refine c_fail hT ht1 (fun V2 ht2 hf2 => ?_)
    show gX l E _ 19 [some (ga T), some (gi low), some (gi high), none] [gi 0] (K, R, V2) _ _
    refine gX_pop dX8_takeNumber_19 rfl ?_
    refine gX_iconst dX8_takeNumber_20 ⟨by decide, by decide⟩ ?_
    refine gX_iret dX8_takeNumber_21 (Or.inl rfl) ?_
    have e : tkNum ys low high t = _ := if_neg (by rw [b2i_0 (b := isF (lat ys (pkB ys t.1))) (by assumption)]; decide)
    rw [e] at hQ
    exact hQ V2 ht2 (hf1.trans hf2)
set_option maxRecDepth 4000 in
theorem c_takeLetters (hT : toK K R T) (ht : toIs V T ys t) (h0 : 0 ≤ t.1) (h1 : t.1 ≤ ys.length) (hQ : ∀ V', toIs V' T ys (tkLet ys t) → oFr V V' T → Q none (K, R, V')) : gC l E (d + 3) iX8_takeLetters [ga T] (K, R, V) Q := by
  refine gC_of kX8_takeLetters (ls := [some (ga T)]) rfl (Nat.le_of_ble_eq_true rfl) ?_
  have hp := pkB_in h0 h1
  have hbl := ht.2.2.2.2.2.1
  have lp : ∀ (jj : Nat) (a : Int) (V1 : Int → Int → Int) (bc bs : Nat), (ys.length : Int) - a < (jj : Int) → (pkB ys t.1) ≤ a → a ≤ ys.length → toIs V1 T ys (a, (pkB ys t.1), t.2.2.1, t.2.2.2) → oFr V V1 T → (∀ V', toIs V' T ys (leF ys jj a, (pkB ys t.1), t.2.2.1, t.2.2.2) → oFr V V' T → Q none (K, R, V')) → gX l E (gFm E (d + 3) iX8_takeLetters Q) 13 [some (ga T)] [] (K, R, V1) bc bs := by
    intro jj
    induction jj with
    | zero =>
      intro a V1 bc bs hj q0 q1 ht1 hf1 hq2
      exfalso; omega
    | succ jj ih =>
      intro a V1 bc bs hj q0 q1 ht1 hf1 hq2
      have hta : V1 T 1 = a := ht1.1
      have htb : V1 T 2 = (pkB ys t.1) := ht1.2.1
      refine gX_aloadn dX8_takeLetters_13 rfl ?_
      refine gX_gI 1 dX8_takeLetters_14 fdX8_20 rfl (Or.inl rfl) hT.1 ?_
      rw [hta]
      refine gX_aloadn dX8_takeLetters_17 rfl ?_
      refine gX_gR 0 dX8_takeLetters_18 fdX8_14 rfl rfl hT.1 hT.2.1 ?_
      refine gX_virt (J := iX6_length) (av := []) (a := (T + 1)) (st := [gi a]) dX8_takeLetters_21 lkX8_33 kX6_length vX6_length (gFit_m (by decide)) hT.2.2.1 rfl rfl (Nat.le_of_ble_eq_true rfl) (Nat.zero_le _) (Nat.zero_le _) rfl ?_
      refine q_Row_length hT.2.2 ht1.2.2.2.2 ?_
      show gX l E _ 24 [some (ga T)] [gi ys.length, gi a] (K, R, V1) _ _
      refine gX_icmpge (tgt := 57) dX8_takeLetters_24 (by decide) (fun w1 => ?_) (fun w1 => ?_)
      · refine gX_vret dX8_takeLetters_57 rfl ?_
        have e1 : leF ys (jj + 1) a = a := by
          exact if_neg (fun z => by first | omega | (have z2 := z.2; rw [b2i_0 (b := isL (lat ys a)) (by assumption)] at z2; exact absurd z2 (by decide)))
        rw [e1] at hq2
        exact hq2 V1 ht1 hf1
      · refine gX_aloadn dX8_takeLetters_27 rfl ?_
        refine gX_gR 0 dX8_takeLetters_28 fdX8_14 rfl rfl hT.1 hT.2.1 ?_
        refine gX_aloadn dX8_takeLetters_31 rfl ?_
        refine gX_gI 1 dX8_takeLetters_32 fdX8_20 rfl (Or.inl rfl) hT.1 ?_
        rw [hta]
        refine gX_virt (J := iX6_at) (av := [gi a]) (a := (T + 1)) (st := []) dX8_takeLetters_35 lkX8_37 kX6_at vX6_at (gFit_m (by decide)) hT.2.2.1 rfl rfl (Nat.le_of_ble_eq_true rfl) (Nat.zero_le _) (Nat.zero_le _) rfl ?_
        refine q_Row_at hT.2.2 ht1.2.2.2.2 ?_
        show gX l E _ 38 [some (ga T)] [gi (lat ys a)] (K, R, V1) _ _
        refine gX_stat (J := iX8_isLetter) (av := [gi (lat ys a)]) (st := []) dX8_takeLetters_38 lkX8_51 kX8_isLetter sX8_isLetter (gFit_m (by decide)) rfl (Nat.le_of_ble_eq_true rfl) (Nat.zero_le _) (Nat.zero_le _) rfl ?_
        refine c_isLetter ?_
        show gX l E _ 41 [some (ga T)] [gi (b2i (isL (lat ys a)))] (K, R, V1) _ _
        refine gX_ifeq (tgt := 57) dX8_takeLetters_41 (by decide) (fun w2 => ?_) (fun w2 => ?_)
        · refine gX_vret dX8_takeLetters_57 rfl ?_
          have e1 : leF ys (jj + 1) a = a := by
            exact if_neg (fun z => by first | omega | (have z2 := z.2; rw [b2i_0 (b := isL (lat ys a)) (by assumption)] at z2; exact absurd z2 (by decide)))
          rw [e1] at hq2
          exact hq2 V1 ht1 hf1
        · refine gX_aloadn dX8_takeLetters_44 rfl ?_
          refine gX_dup dX8_takeLetters_45 rfl ?_
          refine gX_gI 1 dX8_takeLetters_46 fdX8_20 rfl (Or.inl rfl) hT.1 ?_
          rw [hta]
          refine gX_iconst dX8_takeLetters_49 ⟨by decide, by decide⟩ ?_
          refine gX_iadd dX8_takeLetters_50 ⟨by omega, by omega⟩ ?_
          refine gX_pI 1 dX8_takeLetters_51 fdX8_20 fpX8_20 rfl (Or.inl rfl) hT.1 ?_
          refine gX_goto (tgt := 13) dX8_takeLetters_54 (by decide) ?_
          have e1 : leF ys (jj + 1) a = leF ys jj (a + 1) := by
            exact if_pos ⟨by omega, b2i_1 (by assumption)⟩
          rw [e1] at hq2
          exact ih (a + 1) _ _ _ (by omega) (by omega) (by omega) ht1.s1 (hf1.trans oFr.up) hq2
  refine gX_aloadn dX8_takeLetters_0 rfl ?_
  refine gX_virt (J := iX8_peek) (av := []) (a := T) (st := []) dX8_takeLetters_1 lkX8_40 kX8_peek vX8_peek (gFit_m (by decide)) hT.1 rfl rfl (Nat.le_of_ble_eq_true rfl) (Nat.zero_le _) (Nat.zero_le _) rfl ?_
  refine c_peek hT ht h0 h1 (fun V1 ht1 hf1 => ?_)
  show gX l E _ 4 [some (ga T)] [gi (lat ys (pkB ys t.1))] (K, R, V1) _ _
  refine gX_pop dX8_takeLetters_4 rfl ?_
  refine gX_aloadn dX8_takeLetters_5 rfl ?_
  refine gX_aloadn dX8_takeLetters_6 rfl ?_
  refine gX_gI 1 dX8_takeLetters_7 fdX8_20 rfl (Or.inl rfl) hT.1 ?_
  rw [show V1 T 1 = pkB ys t.1 from ht1.1]
  refine gX_pI 2 dX8_takeLetters_10 fdX8_24 fpX8_24 rfl (Or.inl rfl) hT.1 ?_
  exact lp 321 (pkB ys t.1) _ _ _ (by omega) (by omega) (by omega) ht1.s2 (hf1.trans oFr.up) hQ
end TOLD
