/-! The reference: lift, copy. Written by wip/whole/tools/mk_md33.py. -/
def sixV (V : Int → Int → Int) (a : Int) : List Int := [V a 60, V a 61, V a 62, V a 63, V a 64, V a 65]
theorem sixV_at (V : Int → Int → Int) (a : Int) {j : Int} (j0 : 0 ≤ j) (j1 : j < 6) : V a (60 + j) = lat (sixV V a) j := by
  rcases (show j = 0 ∨ j = 1 ∨ j = 2 ∨ j = 3 ∨ j = 4 ∨ j = 5 by omega) with z | z | z | z | z | z <;> subst z <;> rfl
/-- a book laid at the place of work -/
theorem rk1.wk {V : Int → Int → Int} {q : gbB} {c1 c2 : List Int} (hr : rbIs V 10 q.1 q.2.1) (hs : rsIs V 10 q.1 q.2.1) (hp : bkP q.1 q.2.1) (h4 : ∀ j : Int, 0 ≤ j → j < 20 → V 804 j = 0) (hc : tcI V c1 c2) : wkI V (q.1, q.2.1, c1, c2) ∧ wkX (q.1, q.2.1, c1, c2) := by
  have h := hp.wk (c := (c1, c2)) hr.2.1 hr.2.2.2.2.1 (fun k k0 k1 => (hr.gl k0 k1).2.2.2.1)
  have h20 := hr.2.2.2.2.1
  refine ⟨⟨hr, hs, fun g g0 g1 => ?_, hc, h.1, h.2.1⟩, h.2.2⟩
  have g1 : g < (q.2.1.length : Int) := g1
  have l1 := hp.1.1 _ (gqM g0 g1)
  exact ⟨(h4 g g0 (by omega)).trans l1.symm, Or.inl l1⟩
/-- slots b and 10, the cells of work -/
def lcF (V V' : Int → Int → Int) (b : Int) : Prop := ∀ a k, ¬ inSl 10 a k → ¬ inSl b a k → ¬ (804 ≤ a ∧ a ≤ 812) → ¬ (a = 775 ∧ (k = 50 ∨ k = 53 ∨ k = 55)) → V' a k = V a k
theorem lcF.trans {V V1 V2 : Int → Int → Int} {b : Int} (h : lcF V V1 b) (h2 : lcF V1 V2 b) : lcF V V2 b := fun a k a1 a2 a3 a4 => (h2 a k a1 a2 a3 a4).trans (h a k a1 a2 a3 a4)
theorem sloF.lc {V V' : Int → Int → Int} {b : Int} (h : sloF V V' 10) : lcF V V' b := fun a k a1 _ _ _ => h a k a1
theorem wkF.lc {V V' : Int → Int → Int} {b : Int} (h : wkF V V') : lcF V V' b := fun a k a1 _ a3 _ => h a k (fun z => a1 z.1) (by omega) (by omega)
theorem rnF.lc {V V' : Int → Int → Int} {b : Int} (h : rnF V V' b) : lcF V V' b := fun a k _ a2 a3 a4 => h a k a2 (by omega) a4
theorem lcF.ng {V V' : Int → Int → Int} {b : Int} (h : ∀ a, a ≠ 804 → V' a = V a) : lcF V V' b := fun a k _ _ a3 _ => by rw [h a (by omega)]
theorem lcF.e {V V' : Int → Int → Int} {b c : Int} (h : lcF V V' b) (c1 : c < 10) (hne : c ≠ b) : slE V' c V c := by
  have n10 : ∀ a k, inSl c a k → V' a k = V a k := fun a k z => h a k (fun y => by unfold inSl at y z; omega) (fun y => by unfold inSl at y z; omega) (fun y => by unfold inSl at z; omega) (fun y => by unfold inSl at z; omega)
  refine ⟨n10 _ _ (by unfold inSl; omega), fun i i0 i1 => ⟨n10 _ _ (by unfold inSl; omega), n10 _ _ (by unfold inSl; omega)⟩, n10 _ _ (by unfold inSl; omega), fun g g0 g1 => ⟨n10 _ _ (by unfold inSl; omega), n10 _ _ (by unfold inSl; omega), n10 _ _ (by unfold inSl; omega), n10 _ _ (by unfold inSl; omega), fun i i0 i1 => ⟨n10 _ _ (by unfold inSl; omega), n10 _ _ (by unfold inSl; omega)⟩⟩, n10 _ _ (by unfold inSl; omega), n10 _ _ (by unfold inSl; omega), fun j j0 j1 => ⟨n10 _ _ (by unfold inSl; omega), n10 _ _ (by unfold inSl; omega)⟩⟩
theorem lcF.o {V V' : Int → Int → Int} {b a : Int} (h : lcF V V' b) (ha : a < 775 ∨ (790 ≤ a ∧ a ≤ 803) ∨ 813 ≤ a) : V' a = V a := funext fun k => h a k (by unfold inSl; omega) (by unfold inSl; omega) (by omega) (by omega)
theorem lcF.f {V V' : Int → Int → Int} {b k : Int} (h : lcF V V' b) (hk : k ≠ 50 ∧ k ≠ 53 ∧ k ≠ 55) : V' 775 k = V 775 k := h 775 k (by unfold inSl; omega) (by unfold inSl; omega) (by omega) (by omega)
theorem lcF.gf {V V' : Int → Int → Int} {b : Int} (h : lcF V V' b) : gFr V V' 775 819 := fun a ha => h.o (by omega)
theorem lat_bmp {xs : List Int} {k j : Int} (j0 : 0 ≤ j) (hj : j ≠ k) : lat (bump xs k) j = lat xs j := (chK.rf k (([], [], xs, []) : cS)).bmp (tx := []) (gs := []) (tk := []) j j0 hj
theorem foK_c {fr to fe : List Int} {w i j : Int} (j0 : 0 < j) : ∀ (n : Nat) (k : Int) (t : fS), lat (foK fr to fe w i n k t).2.2.1 j = lat t.2.2.1 j
  | 0, k, t => rfl
  | n + 1, k, t => by
    refine (foK_c j0 n (k + 1) _).trans ?_
    split
    · exact lat_bmp (xs := t.2.2.1) (k := 0) (j := j) (by omega) (by omega)
    · rfl
theorem foR_c {fr to fe : List Int} {j : Int} (j0 : 0 < j) : ∀ (n : Nat) (i : Int) (t : fS), lat (foR fr to fe n i t).2.2.1 j = lat t.2.2.1 j
  | 0, i, t => rfl
  | n + 1, i, t => (foR_c j0 n (i + 1) _).trans (foK_c j0 fr.length 0 t)
theorem foG_c {fr to fe : List Int} {j : Int} (j0 : 0 < j) : ∀ (n : Nat) (g : Int) (t : fG), lat (foG fr to fe n g t).2.2.1 j = lat t.2.2.1 j
  | 0, g, t => rfl
  | n + 1, g, t => (foG_c j0 n (g + 1) _).trans (foR_c j0 _ 0 _)
theorem foS_c {fr to fe : List Int} {s : cS} : chK 0 s (wr1 fr to fe s) := fun j j0 hj => (foG_c (by omega) s.2.1.length 0 _).trans (foR_c (by omega) s.1.length 0 _)
theorem gbq_app {S : gbS} {q : gbB} {T : List gbH × List Int × Int} {c : Int} (c0 : 0 ≤ c) (c1 : c < S.1.length + 1) : gbq (S.1 ++ [q], T) c = if c = S.1.length then q else gbq S c := by
  unfold gbq
  by_cases e : c = S.1.length
  · rw [if_pos e]
    show (S.1 ++ [q]).getD c.toNat gbD = q
    rw [List.getD_eq_getElem?_getD, List.getElem?_append_right (by omega), show c.toNat - S.1.length = 0 by omega]
    rfl
  · rw [if_neg e]
    show (S.1 ++ [q]).getD c.toNat gbD = _
    rw [List.getD_eq_getElem?_getD, List.getD_eq_getElem?_getD, List.getElem?_append_left (by omega)]
/-- one book more -/
theorem mdIs.app {V V' : Int → Int → Int} {S : gbS} (h : mdIs V S) {q : gbB} {ys : List Int} {fa : Int} (hn : S.1.length < 10) (hq : rk1 V' S.1.length q) (hs : ∀ c : Int, 0 ≤ c → c < S.1.length → slE V' c V c) (hf : ∀ a, (793 ≤ a ∧ a ≤ 799) → V' a = V a) (h0 : V' 775 0 = S.1.length + 1) (h1 : tdIs V' ys) (h2 : V' 775 17 = fa) : mdIs V' (S.1 ++ [q], S.2.1, ys, fa) := by
  refine ⟨?_, ?_, h2, fun c c0 c1 => ?_, h.2.2.2.2.1, fun x x0 x1 => ?_, h1⟩
  · show V' 775 0 = ((S.1 ++ [q]).length : Int); rw [List.length_append, h0]; rfl
  · show (S.1 ++ [q]).length ≤ 10; rw [List.length_append]; exact hn
  · have c2 : c < ((S.1 ++ [q]).length : Int) := c1
    rw [List.length_append] at c2
    have c3 : c < S.1.length + 1 := c2
    rw [gbq_app c0 c3]
    by_cases e : c = S.1.length
    · rw [if_pos e, e]; exact hq
    · rw [if_neg e]
      exact (h.2.2.2.1 c c0 (by omega)).of (hs c c0 (by omega))
  · have hh := h.2.2.2.2.2.1 x x0 x1
    have e : ghq (S.1 ++ [q], S.2.1, ys, fa) x = ghq S x := rfl
    rw [e]
    unfold rhA at hh ⊢
    rw [hf 793 (by omega), hf 794 (by omega), hf 795 (by omega), hf 796 (by omega), hf 797 (by omega), hf 798 (by omega), hf 799 (by omega)]
    exact hh
/-- all books -/
def bkA (S : gbS) : Prop := ∀ b : Int, 0 ≤ b → b < S.1.length → bkP (gbq S b).1 (gbq S b).2.1
theorem bkA.set {S : gbS} (h : bkA S) {b : Int} {q : gbB} (b0 : 0 ≤ b) (b1 : b < S.1.length) (hq : bkP q.1 q.2.1) : bkA (S.1.set b.toNat q, S.2) := fun c c0 c1 => by
  have c1 : c < ((S.1.set b.toNat q).length : Int) := c1
  rw [List.length_set] at c1
  rw [gbq_set b0 b1 c0]
  by_cases e : c = b
  · rw [if_pos e]; exact hq
  · rw [if_neg e]; exact h c c0 c1
theorem bkA.app {S : gbS} (h : bkA S) {q : gbB} {T : List gbH × List Int × Int} (hq : bkP q.1 q.2.1) : bkA (S.1 ++ [q], T) := fun c c0 c1 => by
  have c1 : c < ((S.1 ++ [q]).length : Int) := c1
  rw [List.length_append] at c1
  have c1 : c < S.1.length + 1 := c1
  rw [gbq_app c0 c1]
  by_cases e : c = S.1.length
  · rw [if_pos e]; exact hq
  · rw [if_neg e]; exact h c c0 (by omega)
theorem wrS_X {fr to fe ea : List Int} {rc wy : Int} {s : cS} (hw1 : wfS (wr1 fr to fe s)) (h1 : wkX (wr1 fr to fe s)) (hwy : lat ea 3 ≠ -1 → 0 ≤ wy ∧ wy ≤ 2) : wkX (wrS fr to fe ea rc wy s) := by
  have w2 := (wr2_h (ea := ea) (rc := rc) hw1).1
  have x2 : wkX (wr2 ea rc (wr1 fr to fe s)) := by
    unfold wr2; split
    · exact h1
    · exact skS_X 40 0 _ (by omega) hw1 h1
  have w3 := (wr3_h (ea := ea) w2).1
  have x3 : wkX (wr3 ea (wr2 ea rc (wr1 fr to fe s))) := by
    unfold wr3; split
    · exact x2
    · exact tuS_X 41 0 _ (by omega) x2
  have w4 := (wr4_h (ea := ea) hwy w3).1
  have x4 : wkX (wr4 ea wy (wr3 ea (wr2 ea rc (wr1 fr to fe s)))) := by
    unfold wr4; split
    · exact x3
    · rename_i c; exact inS_X (hwy c) _ 0 _ (by omega) w3 x3
  have w5 := (wr5_h (ea := ea) w4).1
  have x5 : wkX (wr5 ea (wr4 ea wy (wr3 ea (wr2 ea rc (wr1 fr to fe s))))) := by
    unfold wr5; split
    · exact x4
    · exact drS_X _ 0 _ (by omega) w4.2.2.1 x4
  show wkX (wr6 ea (wr5 ea (wr4 ea wy (wr3 ea (wr2 ea rc (wr1 fr to fe s))))))
  unfold wr6; split
  · exact x5
  · exact mvS_X _ 0 _ (by omega) w5 x5
section MD33
variable {l : Launch} {E : gE} {d : Nat} {K : List gK} {R V : Int → Int → Int} {b h g : Int} {Q : gQ} {S : gbS}
set_option maxRecDepth 4000 in
theorem m_lift (hM : mdK K R) (hS : mdIs V S) (hP : 0 ≤ b ∧ b < S.1.length → bkP (gbq S b).1 (gbq S b).2.1) (hQ : ∀ V', mdIs V' (aLift S b g).2 → gFr V V' 775 819 → (bkA S → bkA (aLift S b g).2) → Q (some (gi (aLift S b g).1)) (K, R, V')) : gC l E (d + 6) iX12_lift [ga 775, gi b, gi g] (K, R, V) Q := by
  refine gC_of kX12_lift (ls := [some (ga 775), some (gi b), some (gi g), none]) rfl (Nat.le_of_ble_eq_true rfl) ?_
  have hn0 := hS.1
  have hn1 := hS.2.1
  refine gX_aloadn dX12_lift_0 rfl ?_
  refine gX_iloadn dX12_lift_1 rfl ?_
  refine gX_virt (J := iX12_isBook) (av := [gi b]) (a := 775) (st := []) dX12_lift_2 lkX12_371 kX12_isBook vX12_isBook (gFit_m (by decide)) hM.1 rfl rfl (Nat.le_of_ble_eq_true rfl) (Nat.zero_le _) (Nat.zero_le _) rfl ?_
  refine m_isBook hM hS.1 hS.2.1 ?_
  show gX l E _ 5 [some (ga 775), some (gi b), some (gi g), none] [gi (b2i (inR b 0 ((S.1.length : Int) - 1)))] (K, R, V) _ _
  refine gX_ifeq (tgt := 17) dX12_lift_5 (by decide) (fun w1 => ?_) (fun w1 => ?_)
  · have w1 := inR_0 w1
    refine gX_sipush dX12_lift_17 (by decide) ⟨by decide, by decide⟩ ?_
    refine gX_iret dX12_lift_20 (Or.inl rfl) ?_
    have ea : aLift S b g = (-1001, S) := by
      unfold aLift
      by_cases hr : 0 ≤ b ∧ b < S.1.length
      · rw [if_pos hr, if_neg (by first | omega | (rw [← eq]; omega))]
      · rw [if_neg hr]
    rw [ea] at hQ
    exact hQ V hS gFr.rf (fun z => z)
  · have w1 := inR_1 w1
    have hr : 0 ≤ b ∧ b < S.1.length := ⟨by omega, by omega⟩
    obtain ⟨q, eq⟩ : ∃ q, q = gbq S b := ⟨_, rfl⟩
    have hk := hS.2.2.2.1 b hr.1 hr.2
    rw [← eq] at hk
    have ho := hP hr
    rw [← eq] at ho
    have h20 := hk.1.2.2.2.2.1
    refine gX_aloadn dX12_lift_8 rfl ?_
    refine gX_iloadn dX12_lift_9 rfl ?_
    refine gX_iloadn dX12_lift_10 rfl ?_
    refine gX_virt (J := iX12_isGloss) (av := [gi b, gi g]) (a := 775) (st := []) dX12_lift_11 lkX12_401 kX12_isGloss vX12_isGloss (gFit_m (by decide)) hM.1 rfl rfl (Nat.le_of_ble_eq_true rfl) (Nat.zero_le _) (Nat.zero_le _) rfl ?_
    refine m_isGloss hM ⟨hr.1, by omega⟩ hk.1 ?_
    show gX l E _ 14 [some (ga 775), some (gi b), some (gi g), none] [gi (b2i (inR g 0 ((q.2.1.length : Int) - 1)))] (K, R, V) _ _
    refine gX_ifne (tgt := 21) dX12_lift_14 (by decide) (fun w2 => ?_) (fun w2 => ?_)
    · have w2 := inR_1 w2
      refine gX_aloadn dX12_lift_21 rfl ?_
      refine gX_gR 4 dX12_lift_22 fdX12_19 rfl rfl hM.1 (mR4 hM) ?_
      refine gX_iloadn dX12_lift_25 rfl ?_
      refine gX_iald dX12_lift_26 (mA4 hM) (by omega) (by omega) ?_
      rw [hk.1.2.2.2.1]
      refine gX_istoren dX12_lift_27 (show (3 : Nat) < 4 from by decide) (ls2 := [some (ga 775), some (gi b), some (gi g), some (gi (q.2.1.length : Int))]) rfl ?_
      refine gX_aloadn dX12_lift_28 rfl ?_
      refine gX_iloadn dX12_lift_29 rfl ?_
      refine gX_bipush dX12_lift_30 (by decide) ⟨by decide, by decide⟩ ?_
      refine gX_virt (J := iX12_putBook) (av := [gi b, gi 10]) (a := 775) (st := []) dX12_lift_32 lkX12_235 kX12_putBook vX12_putBook (gFit_m (by decide)) hM.1 rfl rfl (Nat.le_of_ble_eq_true rfl) (Nat.zero_le _) (Nat.zero_le _) rfl ?_
      refine m_putBook hM ⟨hr.1, by omega⟩ ⟨by omega, by omega⟩ (by omega) (fun V1 he1 hf1 => ?_)
      show gX l E _ 35 [some (ga 775), some (gi b), some (gi g), some (gi (q.2.1.length : Int))] [] (K, R, V1) _ _
      refine gX_aloadn dX12_lift_35 rfl ?_
      refine gX_virt (J := iX12_noneGone) (av := []) (a := 775) (st := []) dX12_lift_36 lkX12_374 kX12_noneGone vX12_noneGone (gFit_m (by decide)) hM.1 rfl rfl (Nat.le_of_ble_eq_true rfl) (Nat.zero_le _) (Nat.zero_le _) rfl ?_
      refine m_noneGone hM (fun V2 hg2 hf2 => ?_)
      show gX l E _ 39 [some (ga 775), some (gi b), some (gi g), some (gi (q.2.1.length : Int))] [] (K, R, V2) _ _
      have hk1 := hk.of he1
      have hk2 := hk1.kept (V' := V2) (fun x h1 h2 => hf2 x (by omega))
      have hw2 := rk1.wk (c1 := sixV V2 789) (c2 := sixV V2 788) hk2.1 hk2.2.1 ho hg2 ⟨rfl, rfl, fun j j0 j1 => ⟨sixV_at V2 789 j0 j1, sixV_at V2 788 j0 j1⟩⟩
      refine gX_aloadn dX12_lift_39 rfl ?_
      refine gX_iloadn dX12_lift_40 rfl ?_
      refine gX_virt (J := iX12_goes) (av := [gi g]) (a := 775) (st := []) dX12_lift_41 lkX12_353 kX12_goes vX12_goes (gFit_m (by decide)) hM.1 rfl rfl (Nat.le_of_ble_eq_true rfl) (Nat.zero_le _) (Nat.zero_le _) rfl ?_
      refine m_goesW (s := (q.1, q.2.1, sixV V2 789, sixV V2 788)) hM hw2.1 (by omega) (by show g < (q.2.1.length : Int); omega) (ho.1.1 _ (gqM (by omega) (by omega))) (fun V3 hw3 hf3 => ?_)
      show gX l E _ 44 [some (ga 775), some (gi b), some (gi g), some (gi (q.2.1.length : Int))] [] (K, R, V3) _ _
      have he3 : V3 786 10 = q.2.2.1 := by rw [hf3.1 786 (by omega) (by omega) (by omega)]; exact hk2.2.2.1
      have hh3 : V3 787 10 = q.2.2.2.1 := by rw [hf3.1 787 (by omega) (by omega) (by omega)]; exact hk2.2.2.2.1
      refine gX_aloadn dX12_lift_44 rfl ?_
      refine gX_iloadn dX12_lift_45 rfl ?_
      refine gX_virt (J := iX12_renumber) (av := [gi b]) (a := 775) (st := []) dX12_lift_46 lkX12_395 kX12_renumber vX12_renumber (gFit_m (by decide)) hM.1 rfl rfl (Nat.le_of_ble_eq_true rfl) (Nat.zero_le _) (Nat.zero_le _) rfl ?_
      refine m_renumber hM ⟨hr.1, by omega⟩ hw3 (hw2.2.away ho.1.2.2.1 (by omega) (by show g < (q.2.1.length : Int); omega)) he3 hh3 (fun V4 hk4 hf4 hp4 => ?_)
      show gX l E _ 49 [some (ga 775), some (gi b), some (gi g), some (gi (q.2.1.length : Int))] [] (K, R, V4) _ _
      refine gX_iloadn dX12_lift_49 rfl ?_
      refine gX_aloadn dX12_lift_50 rfl ?_
      refine gX_gR 4 dX12_lift_51 fdX12_19 rfl rfl hM.1 (mR4 hM) ?_
      refine gX_iloadn dX12_lift_54 rfl ?_
      refine gX_iald dX12_lift_55 (mA4 hM) (by omega) (by omega) ?_
      have hgl4 := reN_n (awayG q.2.1 g)
      have hkb4 := kpt_bd (awayG q.2.1 g) (awayG q.2.1 g).length
      have hal4 := awLen ho.1.2.2.1 (show 0 ≤ g by omega) (show g < (q.2.1.length : Int) by omega)
      rw [show V4 779 b = ((lfG q g).length : Int) from hk4.1.2.2.2.1]
      have hlf : ((lfG q g).length : Int) = kpt (awayG q.2.1 g) (awayG q.2.1 g).length := hgl4
      refine gX_isub dX12_lift_56 ⟨by omega, by omega⟩ ?_
      refine gX_iret dX12_lift_57 (Or.inl rfl) ?_
      have hrk : rk1 V4 b (q.1, lfG q g, q.2.2) := by
        refine ⟨hk4.1, hk4.2.1, hk4.2.2.1, hk4.2.2.2.1, fun j j0 j1 => ?_⟩
        have z := hk4.2.2.2.2 j j0 j1
        have y := hk.2.2.2.2 j j0 j1
        refine ⟨z.1.trans ?_, z.2.trans ?_⟩
        · show lat (sixV V2 788) j = _; rw [← sixV_at V2 788 j0 j1, hf2 788 (by omega)]; exact (he1.2.2.2.2.2.2 j j0 j1).1.trans y.1
        · show lat (sixV V2 789) j = _; rw [← sixV_at V2 789 j0 j1, hf2 789 (by omega)]; exact (he1.2.2.2.2.2.2 j j0 j1).2.trans y.2
      have hlc : lcF V V4 b := ((hf1.lc.trans (lcF.ng hf2)).trans hf3.wk.lc).trans hf4.lc
      have ea : aLift S b g = ((q.2.1.length : Int) - ((lfG q g).length : Int), (S.1.set b.toNat (q.1, lfG q g, q.2.2), S.2)) := by
        unfold aLift
        rw [if_pos hr, ← eq, if_pos ⟨by omega, by omega⟩]
      rw [ea] at hQ
      exact hQ V4 (hS.setb hr.1 hr.2 hrk (fun c c0 c1 c2 => hlc.e c1 c2) (fun a ha => hlc.o (by omega)) (hlc.f (by omega)) (hlc.f (by omega)) (hlc.f (by omega))) hlc.gf (fun z => z.set hr.1 hr.2 hp4)
    · have w2 := inR_0 w2
      refine gX_sipush dX12_lift_17 (by decide) ⟨by decide, by decide⟩ ?_
      refine gX_iret dX12_lift_20 (Or.inl rfl) ?_
      have ea : aLift S b g = (-1001, S) := by
        unfold aLift
        by_cases hr : 0 ≤ b ∧ b < S.1.length
        · rw [if_pos hr, if_neg (by first | omega | (rw [← eq]; omega))]
        · rw [if_neg hr]
      rw [ea] at hQ
      exact hQ V hS gFr.rf (fun z => z)
theorem lcF.mk {V1 V2 : Int → Int → Int} (h : ∀ a k, ¬ inSl 10 a k → V2 a k = V1 a k) : lcF V1 V2 b := fun a k a1 _ _ _ => h a k a1
set_option maxRecDepth 4000 in
theorem m_copy (hM : mdK K R) (hS : mdIs V S) (hP : 0 ≤ b ∧ b < S.1.length → bkP (gbq S b).1 (gbq S b).2.1) (hH : 0 ≤ h ∧ h < 4 → hInv (ghq S h) ∧ wdB (ghq S h).2.1) (hQ : ∀ V', mdIs V' (aCopy S b h).2 → gFr V V' 775 819 → (bkA S → bkA (aCopy S b h).2) → Q (some (gi (aCopy S b h).1)) (K, R, V')) : gC l E (d + 6) iX12_copy [ga 775, gi b, gi h] (K, R, V) Q := by
  refine gC_of kX12_copy (ls := [some (ga 775), some (gi b), some (gi h), none]) rfl (Nat.le_of_ble_eq_true rfl) ?_
  have hn0 := hS.1
  have hn1 := hS.2.1
  refine gX_aloadn dX12_copy_0 rfl ?_
  refine gX_iloadn dX12_copy_1 rfl ?_
  refine gX_virt (J := iX12_isBook) (av := [gi b]) (a := 775) (st := []) dX12_copy_2 lkX12_371 kX12_isBook vX12_isBook (gFit_m (by decide)) hM.1 rfl rfl (Nat.le_of_ble_eq_true rfl) (Nat.zero_le _) (Nat.zero_le _) rfl ?_
  refine m_isBook hM hS.1 hS.2.1 ?_
  show gX l E _ 5 [some (ga 775), some (gi b), some (gi h), none] [gi (b2i (inR b 0 ((S.1.length : Int) - 1)))] (K, R, V) _ _
  refine gX_ifeq (tgt := 20) dX12_copy_5 (by decide) (fun m1 => ?_) (fun m1 => ?_)
  · have m1 := inR_0 m1
    refine gX_sipush dX12_copy_20 (by decide) ⟨by decide, by decide⟩ ?_
    refine gX_iret dX12_copy_23 (Or.inl rfl) ?_
    have ea : aCopy S b h = (-1001, S) := by
      unfold aCopy
      rw [if_neg (by omega)]
    rw [ea] at hQ
    exact hQ V hS gFr.rf (fun z => z)
  · have m1 := inR_1 m1
    have hr : 0 ≤ b ∧ b < S.1.length := ⟨by omega, by omega⟩
    refine gX_iloadn dX12_copy_8 rfl ?_
    refine gX_i2l dX12_copy_9 ?_
    refine gX_lconst (x := 0) dX12_copy_10 (by decide) ⟨by decide, by decide⟩ ?_
    refine gX_ldc2 (x := 3) dX12_copy_11 clX12_294 (by decide) ⟨by decide, by decide⟩ ?_
    refine gX_stat (J := iX12_in) (av := [gl h, gl 0, gl 3]) (st := []) dX12_copy_14 lkX12_154 kX12_in sX12_in (gFit_m (by decide)) rfl (Nat.le_of_ble_eq_true rfl) (Nat.zero_le _) (Nat.zero_le _) rfl ?_
    refine m_in ?_
    show gX l E _ 17 [some (ga 775), some (gi b), some (gi h), none] [gi (b2i (inR h 0 3))] (K, R, V) _ _
    refine gX_ifne (tgt := 24) dX12_copy_17 (by decide) (fun m2 => ?_) (fun m2 => ?_)
    · have m2 := inR_1 m2
      obtain ⟨q, eq⟩ : ∃ q, q = gbq S b := ⟨_, rfl⟩
      have hk := hS.2.2.2.1 b hr.1 hr.2
      rw [← eq] at hk
      have ho := hP hr
      rw [← eq] at ho
      obtain ⟨hd, eh⟩ : ∃ hd, hd = ghq S h := ⟨_, rfl⟩
      have hrh := hS.2.2.2.2.2.1 h (by omega) (by omega)
      obtain ⟨hhi, hhw⟩ := hH ⟨by omega, by omega⟩
      rw [← eh] at hrh hhi hhw
      refine gX_aloadn dX12_copy_24 rfl ?_
      refine gX_gI 0 dX12_copy_25 fdX12_151 rfl (Or.inl rfl) hM.1 ?_
      rw [hS.1]
      refine gX_bipush dX12_copy_28 (by decide) ⟨by decide, by decide⟩ ?_
      refine gX_icmpne (tgt := 37) dX12_copy_30 (by decide) (fun m3 => ?_) (fun m3 => ?_)
      · refine gX_aloadn dX12_copy_37 rfl ?_
        refine gX_virt (J := iX12_beginWork) (av := []) (a := 775) (st := []) dX12_copy_38 lkX12_220 kX12_beginWork vX12_beginWork (gFit_m (by decide)) hM.1 rfl rfl (Nat.le_of_ble_eq_true rfl) (Nat.zero_le _) (Nat.zero_le _) rfl ?_
        refine m_beginWork hM (fun V0 hb0 hc0 hf0 => ?_)
        show gX l E _ 41 [some (ga 775), some (gi b), some (gi h), none] [] (K, R, V0) _ _
        refine gX_aloadn dX12_copy_41 rfl ?_
        refine gX_iloadn dX12_copy_42 rfl ?_
        refine gX_bipush dX12_copy_43 (by decide) ⟨by decide, by decide⟩ ?_
        refine gX_virt (J := iX12_putBook) (av := [gi b, gi 10]) (a := 775) (st := []) dX12_copy_45 lkX12_235 kX12_putBook vX12_putBook (gFit_m (by decide)) hM.1 rfl rfl (Nat.le_of_ble_eq_true rfl) (Nat.zero_le _) (Nat.zero_le _) rfl ?_
        refine m_putBook hM ⟨hr.1, by omega⟩ ⟨by omega, by omega⟩ (by omega) (fun V1 he1 hf1 => ?_)
        show gX l E _ 48 [some (ga 775), some (gi b), some (gi h), none] [] (K, R, V1) _ _
        refine gX_iconst dX12_copy_48 ⟨by decide, by decide⟩ ?_
        refine gX_istoren dX12_copy_49 (show (3 : Nat) < 4 from by decide) (ls2 := [some (ga 775), some (gi b), some (gi h), some (gi 0)]) rfl ?_
        have hk0 := hk.of (hf0.e (show b ≠ 10 by omega))
        have hk1 := hk0.of he1
        have lp : ∀ (jj : Nat) (i : Int) (V2 : Int → Int → Int) (bc bs : Nat), (6 : Int) - i < (jj : Int) → 0 ≤ i → i ≤ 6 → sloF V1 V2 10 → slE V2 10 V2 10 → (∀ a, a ≠ 788 → a ≠ 789 → V2 a = V1 a) → (∀ j : Int, 0 ≤ j → j < i → V2 788 (60 + j) = 0 ∧ V2 789 (60 + j) = 0) → gX l E (gFm E (d + 6) iX12_copy Q) 50 [some (ga 775), some (gi b), some (gi h), some (gi i)] [] (K, R, V2) bc bs := by
          intro jj
          induction jj with
          | zero =>
            intro i V2 bc bs hj q0 q1 q2 q3 q4 q5
            exfalso; omega
          | succ jj ih =>
            intro i V2 bc bs hj q0 q1 q2 q3 q4 q5
            refine gX_iloadn dX12_copy_50 rfl ?_
            refine gX_bipush dX12_copy_51 (by decide) ⟨by decide, by decide⟩ ?_
            refine gX_icmpge (tgt := 82) dX12_copy_53 (by decide) (fun b1 => ?_) (fun b1 => ?_)
            · refine gX_aloadn dX12_copy_82 rfl ?_
              refine gX_gR 11 dX12_copy_83 fdX12_40 rfl rfl hM.1 (mR11 hM) ?_
              refine gX_bipush dX12_copy_86 (by decide) ⟨by decide, by decide⟩ ?_
              refine gX_iloadn dX12_copy_88 rfl ?_
              refine gX_iast dX12_copy_89 (mA11 hM) (by omega) (by omega) ?_
              refine gX_aloadn dX12_copy_90 rfl ?_
              refine gX_gR 12 dX12_copy_91 fdX12_43 rfl rfl hM.1 (mR12 hM) ?_
              refine gX_bipush dX12_copy_94 (by decide) ⟨by decide, by decide⟩ ?_
              refine gX_iloadn dX12_copy_96 rfl ?_
              refine gX_iast dX12_copy_97 (mA12 hM) (by omega) (by omega) ?_
              refine gX_aloadn dX12_copy_98 rfl ?_
              refine gX_virt (J := iX12_noneGone) (av := []) (a := 775) (st := []) dX12_copy_99 lkX12_374 kX12_noneGone vX12_noneGone (gFit_m (by decide)) hM.1 rfl rfl (Nat.le_of_ble_eq_true rfl) (Nat.zero_le _) (Nat.zero_le _) rfl ?_
              refine m_noneGone hM (fun V4 hg4 hf4 => ?_)
              show gX l E _ 102 [some (ga 775), some (gi b), some (gi h), some (gi i)] [] (K, R, V4) _ _
              have hlg : ∀ a k, ¬ inSl 10 a k → (gup (gup V2 786 10 b) 787 10 h) a k = V2 a k := fun a k z => by rw [gup_c (by unfold inSl at z; omega), gup_c (by unfold inSl at z; omega)]
              have hn4 : ∀ a, a ≠ 786 ∧ a ≠ 787 ∧ a ≠ 788 ∧ a ≠ 789 ∧ a ≠ 804 → V4 a = V1 a := fun a z => by rw [hf4 a (by omega), gup_ne (by omega), gup_ne (by omega), q4 a (by omega) (by omega)]
              have hz4 : ∀ a, a ≠ 786 ∧ a ≠ 787 ∧ a ≠ 804 → V4 a = V2 a := fun a z => by rw [hf4 a (by omega), gup_ne (by omega), gup_ne (by omega)]
              have hb3 : rbIs V4 10 q.1 q.2.1 := by
                have z := hk1.1
                unfold rbIs rgIs at z ⊢
                rw [hn4 776 (by omega), hn4 777 (by omega), hn4 779 (by omega), hn4 780 (by omega), hn4 781 (by omega), hn4 783 (by omega), hn4 784 (by omega)]
                exact z
              have hs3 : rsIs V4 10 q.1 q.2.1 := by
                have z := hk1.2.1
                unfold rsIs spA at z ⊢
                rw [hn4 778 (by omega), hn4 782 (by omega), hn4 785 (by omega)]
                exact z
              have rp6 : ∀ j : Int, 0 ≤ j → j < 6 → lat (List.replicate 6 (0 : Int)) j = 0 := fun j j0 j1 => by rw [lat_in j0 (by rw [List.length_replicate]; omega), List.getElem_replicate]
              have hw4 := rk1.wk (c1 := List.replicate 6 0) (c2 := List.replicate 6 0) hb3 hs3 ho hg4 ⟨rfl, rfl, fun j j0 j1 => by rw [hz4 789 (by omega), hz4 788 (by omega), rp6 j j0 j1]; exact ⟨(q5 j j0 (by omega)).2, (q5 j j0 (by omega)).1⟩⟩
              have cb0 : cBd (List.replicate 6 (0 : Int)) 0 := ⟨rfl, fun j j0 j1 => by rw [rp6 j j0 j1]; omega⟩
              have h8 : ∀ g ∈ q.2.1, g.2.2.2.2.2.length ≤ 8 := fun g hg => by
                obtain ⟨k, k0, k1, ek⟩ := gqI hg
                rw [← ek]; exact (hk.1.gl k0 k1).2.2.2.1
              have w1 := wr1_h (to := hd.2.1) (fe := hd.2.2.1) (s := ((q.1, q.2.1, List.replicate 6 0, List.replicate 6 0) : cS)) hhi.2.2.1 hw4.1.2.2.2.2.1 h8 cb0 cb0
              have v2 := wr2_h (ea := hd.2.2.2.1) (rc := hd.2.2.2.2.1) w1.1
              have b2 := v2.2.2 800 w1.2.2.1 w1.2.2.2
              have v3 := wr3_h (ea := hd.2.2.2.1) v2.1
              have b3 := v3.2.2 _ b2.1 b2.2
              have hwy : lat hd.2.2.2.1 3 ≠ -1 → 0 ≤ hd.2.2.2.2.2 ∧ hd.2.2.2.2.2 ≤ 2 := fun z => ⟨hhi.2.2.2.2.2.2.2.1 z, hhi.2.2.2.2.2.2.1.2⟩
              have v4 := wr4_h (ea := hd.2.2.2.1) hwy v3.1
              have b4 := v4.2.2 _ b3.1 b3.2
              have v5 := wr5_h (ea := hd.2.2.2.1) v4.1
              have b5 := v5.2.2 _ b4.1 b4.2
              have c1 : chK 0 ((q.1, q.2.1, List.replicate 6 0, List.replicate 6 0) : cS) (wr1 hd.1 hd.2.1 hd.2.2.1 (q.1, q.2.1, List.replicate 6 0, List.replicate 6 0)) := foS_c
              have X6 := wrS_X (ea := hd.2.2.2.1) (rc := hd.2.2.2.2.1) (wy := hd.2.2.2.2.2) (s := ((q.1, q.2.1, List.replicate 6 0, List.replicate 6 0) : cS)) w1.1 (foS_X hhw hhi.1 ho.1.2.2.1 hw4.2) hwy
              have f4 : lcF V V4 S.1.length := (hf0.lc.trans (hf1.lc.trans (q2.lc.trans ((lcF.mk (b := S.1.length) hlg).trans (lcF.ng hf4)))))
              have hr4 : rhA V4 h hd := by
                have z := hrh
                unfold rhA at z ⊢
                rw [f4.o (a := 793) (by omega), f4.o (a := 794) (by omega), f4.o (a := 795) (by omega), f4.o (a := 796) (by omega), f4.o (a := 797) (by omega), f4.o (a := 798) (by omega), f4.o (a := 799) (by omega)]
                exact z
              refine gX_aloadn dX12_copy_102 rfl ?_
              refine gX_iloadn dX12_copy_103 rfl ?_
              refine gX_virt (J := iX12_doFor) (av := [gi h]) (a := 775) (st := []) dX12_copy_104 lkX12_377 kX12_doFor vX12_doFor (gFit_m (by decide)) hM.1 rfl rfl (Nat.le_of_ble_eq_true rfl) (Nat.zero_le _) (Nat.zero_le _) rfl ?_
              refine m_doFor hM ⟨by omega, by omega⟩ hr4 hhi hw4.1 cb0 cb0 (fun V5 H1 F1 => ?_)
              show gX l E _ 107 [some (ga 775), some (gi b), some (gi h), some (gi i)] [] (K, R, V5) _ _
              refine gX_aloadn dX12_copy_107 rfl ?_
              refine gX_iloadn dX12_copy_108 rfl ?_
              refine gX_virt (J := iX12_doSkip) (av := [gi h]) (a := 775) (st := []) dX12_copy_109 lkX12_380 kX12_doSkip vX12_doSkip (gFit_m (by decide)) hM.1 rfl rfl (Nat.le_of_ble_eq_true rfl) (Nat.zero_le _) (Nat.zero_le _) rfl ?_
              refine m_doSkip hM ⟨by omega, by omega⟩ (hr4.wk F1) hhi H1 ((c1 1 (by omega) (by omega)).trans (rp6 1 (by omega) (by omega))) ((w1.2.2.1).up (by omega)) ((w1.2.2.2).up (by omega)) (fun V6 H2 G2 c2 => ?_)
              show gX l E _ 112 [some (ga 775), some (gi b), some (gi h), some (gi i)] [] (K, R, V6) _ _
              have F2 := F1.trans G2
              refine gX_aloadn dX12_copy_112 rfl ?_
              refine gX_iloadn dX12_copy_113 rfl ?_
              refine gX_virt (J := iX12_doTurn) (av := [gi h]) (a := 775) (st := []) dX12_copy_114 lkX12_383 kX12_doTurn vX12_doTurn (gFit_m (by decide)) hM.1 rfl rfl (Nat.le_of_ble_eq_true rfl) (Nat.zero_le _) (Nat.zero_le _) rfl ?_
              refine m_doTurn hM ⟨by omega, by omega⟩ (hr4.wk F2) hhi H2 ((c2 2 (by omega) (by omega)).trans ((c1 2 (by omega) (by omega)).trans (rp6 2 (by omega) (by omega)))) ((b2.1).up (by omega)) ((b2.2).up (by omega)) (fun V7 H3 G3 c3 => ?_)
              show gX l E _ 117 [some (ga 775), some (gi b), some (gi h), some (gi i)] [] (K, R, V7) _ _
              have F3 := F2.trans G3
              refine gX_aloadn dX12_copy_117 rfl ?_
              refine gX_iloadn dX12_copy_118 rfl ?_
              refine gX_virt (J := iX12_doInto) (av := [gi h]) (a := 775) (st := []) dX12_copy_119 lkX12_386 kX12_doInto vX12_doInto (gFit_m (by decide)) hM.1 rfl rfl (Nat.le_of_ble_eq_true rfl) (Nat.zero_le _) (Nat.zero_le _) rfl ?_
              refine m_doInto hM ⟨by omega, by omega⟩ (hr4.wk F3) hhi H3 ((c3 3 (by omega) (by omega)).trans ((c2 3 (by omega) (by omega)).trans ((c1 3 (by omega) (by omega)).trans (rp6 3 (by omega) (by omega))))) ((b3.1).up (by omega)) ((b3.2).up (by omega)) (fun V8 H4 G4 c4 => ?_)
              show gX l E _ 122 [some (ga 775), some (gi b), some (gi h), some (gi i)] [] (K, R, V8) _ _
              have F4 := F3.trans G4
              refine gX_aloadn dX12_copy_122 rfl ?_
              refine gX_iloadn dX12_copy_123 rfl ?_
              refine gX_virt (J := iX12_doDrop) (av := [gi h]) (a := 775) (st := []) dX12_copy_124 lkX12_389 kX12_doDrop vX12_doDrop (gFit_m (by decide)) hM.1 rfl rfl (Nat.le_of_ble_eq_true rfl) (Nat.zero_le _) (Nat.zero_le _) rfl ?_
              refine m_doDrop hM ⟨by omega, by omega⟩ (hr4.wk F4) hhi H4 ((c4 4 (by omega) (by omega)).trans ((c3 4 (by omega) (by omega)).trans ((c2 4 (by omega) (by omega)).trans ((c1 4 (by omega) (by omega)).trans (rp6 4 (by omega) (by omega)))))) ((b4.1).up (by omega)) ((b4.2).up (by omega)) (fun V9 H5 G5 c5 => ?_)
              show gX l E _ 127 [some (ga 775), some (gi b), some (gi h), some (gi i)] [] (K, R, V9) _ _
              have F5 := F4.trans G5
              refine gX_aloadn dX12_copy_127 rfl ?_
              refine gX_iloadn dX12_copy_128 rfl ?_
              refine gX_virt (J := iX12_doMove) (av := [gi h]) (a := 775) (st := []) dX12_copy_129 lkX12_392 kX12_doMove vX12_doMove (gFit_m (by decide)) hM.1 rfl rfl (Nat.le_of_ble_eq_true rfl) (Nat.zero_le _) (Nat.zero_le _) rfl ?_
              refine m_doMove hM ⟨by omega, by omega⟩ (hr4.wk F5) hhi H5 ((c5 5 (by omega) (by omega)).trans ((c4 5 (by omega) (by omega)).trans ((c3 5 (by omega) (by omega)).trans ((c2 5 (by omega) (by omega)).trans ((c1 5 (by omega) (by omega)).trans (rp6 5 (by omega) (by omega))))))) ((b5.1).up (by omega)) ((b5.2).up (by omega)) (fun V10 H6 G6 c6 => ?_)
              show gX l E _ 132 [some (ga 775), some (gi b), some (gi h), some (gi i)] [] (K, R, V10) _ _
              have F6 := F5.trans G6
              have hx10 : V4 786 10 = b := by rw [hf4 786 (by omega), gup_ne (by omega)]; exact gup_s
              have hx11 : V4 787 10 = h := by rw [hf4 787 (by omega)]; exact gup_s
              refine gX_aloadn dX12_copy_132 rfl ?_
              refine gX_aloadn dX12_copy_133 rfl ?_
              refine gX_gI 0 dX12_copy_134 fdX12_151 rfl (Or.inl rfl) hM.1 ?_
              rw [show V10 775 0 = (S.1.length : Int) by rw [(f4.trans F6.lc).f (by omega)]; exact hS.1]
              refine gX_virt (J := iX12_renumber) (av := [gi (S.1.length : Int)]) (a := 775) (st := []) dX12_copy_137 lkX12_395 kX12_renumber vX12_renumber (gFit_m (by decide)) hM.1 rfl rfl (Nat.le_of_ble_eq_true rfl) (Nat.zero_le _) (Nat.zero_le _) rfl ?_
              refine m_renumber (t := (S.1.length : Int)) hM ⟨by omega, by omega⟩ H6 X6 ((F6 786 10 (fun z => z.2.1 rfl) (by omega) (by omega)).trans hx10) ((F6 787 10 (fun z => z.2.2 rfl) (by omega) (by omega)).trans hx11) (fun V11 hk11 hf11 hp11 => ?_)
              show gX l E _ 140 [some (ga 775), some (gi b), some (gi h), some (gi i)] [] (K, R, V11) _ _
              refine gX_aloadn dX12_copy_140 rfl ?_
              refine gX_dup dX12_copy_141 rfl ?_
              refine gX_gI 0 dX12_copy_142 fdX12_151 rfl (Or.inl rfl) hM.1 ?_
              rw [show V11 775 0 = (S.1.length : Int) by rw [((f4.trans F6.lc).trans hf11.lc).f (by omega)]; exact hS.1]
              refine gX_iconst dX12_copy_145 ⟨by decide, by decide⟩ ?_
              refine gX_iadd dX12_copy_146 ⟨by omega, by omega⟩ ?_
              refine gX_pI 0 dX12_copy_147 fdX12_151 fpX12_151 rfl (Or.inl rfl) hM.1 ?_
              refine gX_aloadn dX12_copy_150 rfl ?_
              refine gX_gI 0 dX12_copy_151 fdX12_151 rfl (Or.inl rfl) hM.1 ?_
              rw [show gup V11 775 0 ((S.1.length : Int) + 1) 775 0 = (S.1.length : Int) + 1 from gup_s]
              refine gX_iconst dX12_copy_154 ⟨by decide, by decide⟩ ?_
              refine gX_isub dX12_copy_155 ⟨by omega, by omega⟩ ?_
              refine gX_iret dX12_copy_156 (Or.inl rfl) ?_
              have hlc : lcF V V11 S.1.length := (f4.trans F6.lc).trans hf11.lc
              have n12 : ∀ a k, ¬ (a = 775 ∧ k = 0) → (gup V11 775 0 ((S.1.length : Int) + 1)) a k = V11 a k := fun a k z => gup_c (by omega)
              have z0 : mdIs (gup V11 775 0 ((S.1.length : Int) + 1)) (S.1 ++ [((wr6 hd.2.2.2.1 (wr5 hd.2.2.2.1 (wr4 hd.2.2.2.1 hd.2.2.2.2.2 (wr3 hd.2.2.2.1 (wr2 hd.2.2.2.1 hd.2.2.2.2.1 (wr1 hd.1 hd.2.1 hd.2.2.1 (q.1, q.2.1, List.replicate 6 0, List.replicate 6 0))))))).1, reN (wr6 hd.2.2.2.1 (wr5 hd.2.2.2.1 (wr4 hd.2.2.2.1 hd.2.2.2.2.2 (wr3 hd.2.2.2.1 (wr2 hd.2.2.2.1 hd.2.2.2.2.1 (wr1 hd.1 hd.2.1 hd.2.2.1 (q.1, q.2.1, List.replicate 6 0, List.replicate 6 0))))))).2.1, b, h, (wr6 hd.2.2.2.1 (wr5 hd.2.2.2.1 (wr4 hd.2.2.2.1 hd.2.2.2.2.2 (wr3 hd.2.2.2.1 (wr2 hd.2.2.2.1 hd.2.2.2.2.1 (wr1 hd.1 hd.2.1 hd.2.2.1 (q.1, q.2.1, List.replicate 6 0, List.replicate 6 0))))))).2.2.1, (wr6 hd.2.2.2.1 (wr5 hd.2.2.2.1 (wr4 hd.2.2.2.1 hd.2.2.2.2.2 (wr3 hd.2.2.2.1 (wr2 hd.2.2.2.1 hd.2.2.2.2.1 (wr1 hd.1 hd.2.1 hd.2.2.1 (q.1, q.2.1, List.replicate 6 0, List.replicate 6 0))))))).2.2.2)], S.2.1, S.2.2.1, S.2.2.2) := by
                refine hS.app (by omega) (hk11.kept (fun x h1 h2 => gup_ne (by omega))) (fun c c0 c1 => slE.trans (b := c) ?_ (hlc.e (by omega) (by omega))) (fun a ha => by rw [gup_ne (by omega)]; exact hlc.o (by omega)) gup_s ?_ ?_
                · exact ⟨by rw [gup_ne (by omega)], fun i i0 i1 => ⟨by rw [gup_ne (by omega)], by rw [gup_ne (by omega)]⟩, by rw [gup_ne (by omega)], fun g g0 g1 => ⟨by rw [gup_ne (by omega)], by rw [gup_ne (by omega)], by rw [gup_ne (by omega)], by rw [gup_ne (by omega)], fun i i0 i1 => ⟨by rw [gup_ne (by omega)], by rw [gup_ne (by omega)]⟩⟩, by rw [gup_ne (by omega)], by rw [gup_ne (by omega)], fun j j0 j1 => ⟨by rw [gup_ne (by omega)], by rw [gup_ne (by omega)]⟩⟩
                · have ht := hS.2.2.2.2.2.2
                  unfold tdIs at ht ⊢
                  rw [n12 775 16 (by omega), hlc.f (k := 16) (by omega), gup_ne (by omega), hlc.o (a := 790) (by omega)]
                  exact ht
                · rw [n12 775 17 (by omega), hlc.f (k := 17) (by omega)]; exact hS.2.2.1
              have ea : aCopy S b h = ((S.1.length : Int), (S.1 ++ [((wr6 hd.2.2.2.1 (wr5 hd.2.2.2.1 (wr4 hd.2.2.2.1 hd.2.2.2.2.2 (wr3 hd.2.2.2.1 (wr2 hd.2.2.2.1 hd.2.2.2.2.1 (wr1 hd.1 hd.2.1 hd.2.2.1 (q.1, q.2.1, List.replicate 6 0, List.replicate 6 0))))))).1, reN (wr6 hd.2.2.2.1 (wr5 hd.2.2.2.1 (wr4 hd.2.2.2.1 hd.2.2.2.2.2 (wr3 hd.2.2.2.1 (wr2 hd.2.2.2.1 hd.2.2.2.2.1 (wr1 hd.1 hd.2.1 hd.2.2.1 (q.1, q.2.1, List.replicate 6 0, List.replicate 6 0))))))).2.1, b, h, (wr6 hd.2.2.2.1 (wr5 hd.2.2.2.1 (wr4 hd.2.2.2.1 hd.2.2.2.2.2 (wr3 hd.2.2.2.1 (wr2 hd.2.2.2.1 hd.2.2.2.2.1 (wr1 hd.1 hd.2.1 hd.2.2.1 (q.1, q.2.1, List.replicate 6 0, List.replicate 6 0))))))).2.2.1, (wr6 hd.2.2.2.1 (wr5 hd.2.2.2.1 (wr4 hd.2.2.2.1 hd.2.2.2.2.2 (wr3 hd.2.2.2.1 (wr2 hd.2.2.2.1 hd.2.2.2.2.1 (wr1 hd.1 hd.2.1 hd.2.2.1 (q.1, q.2.1, List.replicate 6 0, List.replicate 6 0))))))).2.2.2)], S.2)) := by
                unfold aCopy
                rw [if_pos ⟨hr, by omega⟩, if_pos (by omega), ← eq, ← eh]
                rfl
              rw [ea] at hQ
              rw [show (S.1.length : Int) + 1 - 1 = S.1.length by omega]
              refine hQ _ z0 (fun a ha => ?_) (fun z => z.app hp11)
              rw [gup_ne (by omega)]
              exact hlc.gf a ha
            · refine gX_aloadn dX12_copy_56 rfl ?_
              refine gX_gR 13 dX12_copy_57 fdX12_46 rfl rfl hM.1 (mR13 hM) ?_
              refine gX_bipush dX12_copy_60 (by decide) ⟨by decide, by decide⟩ ?_
              refine gX_iloadn dX12_copy_62 rfl ?_
              refine gX_iadd dX12_copy_63 ⟨by omega, by omega⟩ ?_
              refine gX_iconst dX12_copy_64 ⟨by decide, by decide⟩ ?_
              refine gX_iast dX12_copy_65 (mA13 hM) (by omega) (by omega) ?_
              refine gX_aloadn dX12_copy_66 rfl ?_
              refine gX_gR 14 dX12_copy_67 fdX12_49 rfl rfl hM.1 (mR14 hM) ?_
              refine gX_bipush dX12_copy_70 (by decide) ⟨by decide, by decide⟩ ?_
              refine gX_iloadn dX12_copy_72 rfl ?_
              refine gX_iadd dX12_copy_73 ⟨by omega, by omega⟩ ?_
              refine gX_iconst dX12_copy_74 ⟨by decide, by decide⟩ ?_
              refine gX_iast dX12_copy_75 (mA14 hM) (by omega) (by omega) ?_
              refine gX_iinc dX12_copy_76 rfl (show (3 : Nat) < 4 from by decide) ⟨by omega, by omega⟩ (ls2 := [some (ga 775), some (gi b), some (gi h), some (gi (i + 1))]) rfl ?_
              refine gX_goto (tgt := 50) dX12_copy_79 (by decide) ?_
              refine ih (i + 1) _ _ _ (by omega) (by omega) (by omega) ((q2.up (by unfold inSl; omega)).up (by unfold inSl; omega)) (slE.rf _ _) (fun a a1 a2 => by rw [gup_ne a2, gup_ne a1]; exact q4 a a1 a2) (fun j j0 j1 => ?_)
              by_cases c : j = i
              · subst c; exact ⟨by rw [gup_ne (by omega)]; exact gup_s, gup_s⟩
              · rw [gup_ne (by omega), gup_c (Or.inr (by omega)), gup_c (Or.inr (by omega)), gup_ne (by omega)]; exact q5 j j0 (by omega)
        exact lp 7 0 V1 _ _ (by omega) (by omega) (by omega) (fun _ _ _ => rfl) (slE.rf _ _) (fun _ _ _ => rfl) (fun j j0 j1 => by omega)
      · refine gX_sipush dX12_copy_33 (by decide) ⟨by decide, by decide⟩ ?_
        refine gX_iret dX12_copy_36 (Or.inl rfl) ?_
        have ea : aCopy S b h = (-1004, S) := by
          unfold aCopy
          rw [if_pos ⟨hr, by omega⟩, if_neg (by omega)]
        rw [ea] at hQ
        exact hQ V hS gFr.rf (fun z => z)
    · have m2 := inR_0 m2
      refine gX_sipush dX12_copy_20 (by decide) ⟨by decide, by decide⟩ ?_
      refine gX_iret dX12_copy_23 (Or.inl rfl) ?_
      have ea : aCopy S b h = (-1001, S) := by
        unfold aCopy
        rw [if_neg (by omega)]
      rw [ea] at hQ
      exact hQ V hS gFr.rf (fun z => z)
end MD33
