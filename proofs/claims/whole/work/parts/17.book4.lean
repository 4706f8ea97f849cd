/-! Book: numbered anew. Written by wip/whole/tools/mk_book4.py. -/
/-- how many of the first n are kept -/
def kpt (gs : List gG) (n : Nat) : Int := cntB (fun k => decide ((gq gs k).2.2.2.2.1 = 0)) n
/-- a gloss's new number -/
def nnG (gs : List gG) (h : Int) : Int := if 0 ≤ h ∧ h < gs.length ∧ (gq gs h).2.2.2.2.1 = 0 then kpt gs h.toNat else -1
def reQ (gs : List gG) (q : gG) : Option gG := if q.2.2.2.2.1 = 0 then some (hoG q (nnG gs q.2.1)) else none
/-- what is kept, its hosts by their new numbers -/
def reN (gs : List gG) : List gG := gs.filterMap (reQ gs)
/-- hosts stand ahead of what is on them -/
def hoW (gs : List gG) : Prop := ∀ (k : Nat) (q : gG), gs[k]? = some q → -1 ≤ q.2.1 ∧ q.2.1 < k
theorem kpt_s (gs : List gG) (n : Nat) : kpt gs (n + 1) = kpt gs n + (if (gq gs n).2.2.2.2.1 = 0 then 1 else 0) := by
  unfold kpt
  rw [cntB_s]
  simp only [decide_eq_true_eq]
theorem kpt_bd (gs : List gG) (n : Nat) : 0 ≤ kpt gs n ∧ kpt gs n ≤ n := cntB_bd _ n
theorem take_s {gs : List gG} {i : Nat} (h : i < gs.length) : gs.take (i + 1) = gs.take i ++ [gs[i]] := by
  rw [List.take_succ, List.getElem?_eq_getElem h]
  rfl
theorem reN_len (gs : List gG) : ∀ i : Nat, i ≤ gs.length → (((gs.take i).filterMap (reQ gs)).length : Int) = kpt gs i := by
  intro i
  induction i with
  | zero => intro _; rfl
  | succ i ih =>
    intro h
    rw [take_s (by omega), List.filterMap_append, List.length_append, kpt_s]
    have e := gq_of (List.getElem?_eq_getElem (show i < gs.length by omega))
    rw [e]
    have h2 := ih (by omega)
    unfold reQ
    by_cases c : gs[i].2.2.2.2.1 = 0
    · simp only [List.filterMap_cons, List.filterMap_nil, if_pos c, List.length_cons, List.length_nil]
      unfold reQ at h2
      omega
    · simp only [List.filterMap_cons, List.filterMap_nil, if_neg c, List.length_nil]
      unfold reQ at h2
      omega
section BOOK4
variable {l : Launch} {E : gE} {d : Nat} {K : List gK} {R V : Int → Int → Int} {B g : Int} {Q : gQ} {tx : List Int} {gs : List gG} {q : gG}
theorem bkIs.keep2 {V V' : Int → Int → Int} {B : Int} {tx : List Int} {gs : List gG} (h : bkIs V B tx gs) (h5 : V' B 5 = V B 5) (h1 : V' (B + 1) = V (B + 1)) (h2 : V' (B + 2) = V (B + 2)) (hf : ∀ a, B + 10 ≤ a → a < B + 70 → V' a = V a) : bkIs V' B tx gs := by
  have h20 := h.2.2.1
  refine ⟨h.1.kept h1 (by rw [show B + 1 + 1 = B + 2 by omega]; exact h2), by rw [h5]; exact h.2.1, h20, fun j q2 hj => ?_⟩
  have hl := (List.getElem?_eq_some_iff.mp hj).1
  exact (h.2.2.2 j q2 hj).kept (hf _ (by omega) (by omega)) (hf _ (by omega) (by omega)) (hf _ (by omega) (by omega))
theorem bkIs.setg2 {V V' : Int → Int → Int} {B : Int} {tx : List Int} {gs : List gG} (h : bkIs V B tx gs) {k : Int} {q : gG} (h0 : 0 ≤ k) (h1 : k < gs.length) (hg : glIs V' (B + 10 + 3 * k) q) (h5 : V' B 5 = V B 5) (h6 : V' (B + 1) = V (B + 1)) (h7 : V' (B + 2) = V (B + 2)) (hf : ∀ a, B + 10 ≤ a → a < B + 70 → a < B + 10 + 3 * k ∨ B + 13 + 3 * k ≤ a → V' a = V a) : bkIs V' B tx (gs.set k.toNat q) := by
  have h20 := h.2.2.1
  refine ⟨h.1.kept h6 (by rw [show B + 1 + 1 = B + 2 by omega]; exact h7), by rw [h5, List.length_set]; exact h.2.1, by rw [List.length_set]; exact h.2.2.1, fun j q2 hj => ?_⟩
  have hl := (List.getElem?_eq_some_iff.mp hj).1
  rw [List.length_set] at hl
  by_cases c : j = k.toNat
  · subst c
    rw [List.getElem?_set_self hl] at hj
    cases hj
    rw [Int.toNat_of_nonneg h0]
    exact hg
  · rw [List.getElem?_set_ne (Ne.symm c)] at hj
    exact (h.2.2.2 j q2 hj).kept (hf _ (by omega) (by omega) (by omega)) (hf _ (by omega) (by omega) (by omega)) (hf _ (by omega) (by omega) (by omega))
set_option maxRecDepth 4000 in
theorem c_numberAnew (hB : bkK K R B) (hb : bkIs V B tx gs) (hw : hoW gs) (hQ : ∀ V', bkIs V' B tx (reN gs) → (∀ a, a < B ∨ B + 70 ≤ a → V' a = V a) → (∀ a, B + 6 ≤ a → a < B + 10 → V' a = V a) → (∀ k, k ≠ 5 → V' B k = V B k) → Q none (K, R, V')) : gC l E (d + 3) iX1_numberAnew [ga B] (K, R, V) Q := by
  refine gC_of kX1_numberAnew (ls := [some (ga B), none, none, none, none]) rfl (Nat.le_of_ble_eq_true rfl) ?_
  have h20 := hb.2.2.1
  have lp : ∀ (jj : Nat) (c : Int) (i : Int) (j3 : Option gV) (j4 : Option gV) (V1 : Int → Int → Int) (L : List gG) (N : List Int) (bc bs : Nat), gs.length - i < (jj : Int) → 0 ≤ i → i ≤ gs.length → c = kpt gs i.toNat → bkIs V1 B tx L → L.length = gs.length → (∀ j : Nat, i ≤ j → L[j]? = gs[j]?) → (∀ j : Nat, (j : Int) < c → L[j]? = ((gs.take i.toNat).filterMap (reQ gs))[j]?) → rIs V1 (B + 4) 20 N → N.length = gs.length → (∀ j : Nat, (j : Int) < i → lat N j = nnG gs j) → (∀ j : Nat, i ≤ j → j < gs.length → lat N j = -1) → gFr V V1 (B + 4) (B + 70) → (∀ a, B + 6 ≤ a → a < B + 10 → V1 a = V a) → gX l E (gFm E (d + 3) iX1_numberAnew Q) 16 [some (ga B), some (gi c), some (gi i), j3, j4] [] (K, R, V1) bc bs := by
    intro jj
    induction jj with
    | zero =>
      intro c i j3 j4 V1 L N bc bs hj q0 q1 qc hb1 qL qa qb hn1 qN qn qz hf1 hm1
      exfalso; omega
    | succ jj ih =>
      intro c i j3 j4 V1 L N bc bs hj q0 q1 qc hb1 qL qa qb hn1 qN qn qz hf1 hm1
      have hcn := hb1.2.1
      have bk := kpt_bd gs i.toNat
      refine gX_iloadn dX1_numberAnew_16 rfl ?_
      refine gX_aloadn dX1_numberAnew_17 rfl ?_
      refine gX_gI 5 dX1_numberAnew_18 fdX1_35 rfl (Or.inl rfl) hB.1 ?_
      refine gX_icmpge (tgt := 94) dX1_numberAnew_21 (by decide) (fun w1 => ?_) (fun w1 => ?_)
      · refine gX_aloadn dX1_numberAnew_94 rfl ?_
        refine gX_iloadn dX1_numberAnew_95 rfl ?_
        refine gX_pI 5 dX1_numberAnew_96 fdX1_35 fpX1_35 rfl (Or.inl rfl) hB.1 ?_
        refine gX_vret dX1_numberAnew_99 rfl ?_
        have ei : i.toNat = gs.length := by omega
        have hlen := reN_len gs i.toNat (by omega)
        rw [ei, List.take_length] at qb hlen
        have qc2 := qc
        rw [ei] at qc2
        have eL : L.take c.toNat = reN gs := by
          apply List.ext_getElem?
          intro j
          by_cases cj : (j : Int) < c
          · rw [List.getElem?_take_of_lt (by omega)]
            exact qb j cj
          · rw [List.getElem?_eq_none (by rw [List.length_take]; omega), List.getElem?_eq_none (by unfold reN; omega)]
        refine hQ _ ?_ (fun a ha => by rw [gup_ne (by omega)]; exact hf1 a (by omega)) (fun a g1 g2 => by rw [gup_ne (by omega)]; exact hm1 a g1 g2) (fun k hk => by rw [gup_o (Or.inr hk), hf1 B (by omega)])
        rw [← eL]
        refine ⟨hb1.1.kept (gup_ne (by omega)) (gup_ne (by omega)), by rw [gup_s, List.length_take]; omega, by rw [List.length_take]; omega, fun k q hk => ?_⟩
        have hkl := (List.getElem?_eq_some_iff.mp hk).1
        rw [List.length_take] at hkl
        rw [List.getElem?_take_of_lt (by omega)] at hk
        exact (hb1.2.2.2 k q hk).kept (gup_ne (by omega)) (gup_ne (by omega)) (gup_ne (by omega))
      · have hgi : L[i.toNat]? = some gs[i.toNat] := by rw [qa i.toNat (by omega)]; exact List.getElem?_eq_getElem (by omega)
        have eqi : gq L i = gs[i.toNat] := by have h8 := gq_of hgi; rw [Int.toNat_of_nonneg q0] at h8; exact h8
        have eqg : gq gs i = gs[i.toNat] := by have h8 := gq_of (List.getElem?_eq_getElem (show i.toNat < gs.length by omega)); rw [Int.toNat_of_nonneg q0] at h8; exact h8
        have hv := hb1.gl q0 (by omega)
        rw [eqi] at hv
        have hw2 := hw i.toNat gs[i.toNat] (List.getElem?_eq_getElem (by omega))
        rw [Int.toNat_of_nonneg q0] at hw2
        have htk : gs.take (i + 1).toNat = gs.take i.toNat ++ [gs[i.toNat]] := by rw [show (i + 1).toNat = i.toNat + 1 by omega, take_s (by omega)]
        generalize hq : gs[i.toNat] = q at hgi eqi eqg hv hw2 htk
        have hkp : kpt gs (i + 1).toNat = kpt gs i.toNat + (if q.2.2.2.2.1 = 0 then 1 else 0) := by rw [show (i + 1).toNat = i.toNat + 1 by omega, kpt_s, Int.toNat_of_nonneg q0, eqg]
        have hlen := reN_len gs i.toNat (by omega)
        refine gX_aloadn dX1_numberAnew_24 rfl ?_
        refine gX_iloadn dX1_numberAnew_25 rfl ?_
        refine gX_virt (J := iX1_glossAt) (av := [gi i]) (a := B) (st := []) dX1_numberAnew_26 lkX1_58 kX1_glossAt vX1_glossAt (gFit_m (by decide)) hB.1 rfl rfl (Nat.le_of_ble_eq_true rfl) (Nat.zero_le _) (Nat.zero_le _) rfl ?_
        refine c_glossAt hB hb1 q0 (by omega) ?_
        show gX l E _ 29 [some (ga B), some (gi c), some (gi i), j3, j4] [ga (B + 10 + 3 * i)] (K, R, V1) _ _
        refine gX_astoren dX1_numberAnew_29 (show (3 : Nat) < 5 from by decide) (ls2 := [some (ga B), some (gi c), some (gi i), some (ga (B + 10 + 3 * i)), j4]) rfl ?_
        refine gX_aloadn dX1_numberAnew_30 rfl ?_
        refine gX_iloadn dX1_numberAnew_31 rfl ?_
        refine gX_virt (J := iX1_glossAt) (av := [gi c]) (a := B) (st := []) dX1_numberAnew_32 lkX1_58 kX1_glossAt vX1_glossAt (gFit_m (by decide)) hB.1 rfl rfl (Nat.le_of_ble_eq_true rfl) (Nat.zero_le _) (Nat.zero_le _) rfl ?_
        refine c_glossAt hB hb1 (by omega) (by omega) ?_
        show gX l E _ 35 [some (ga B), some (gi c), some (gi i), some (ga (B + 10 + 3 * i)), j4] [ga (B + 10 + 3 * c)] (K, R, V1) _ _
        refine gX_astore dX1_numberAnew_35 (show (4 : Nat) < 5 from by decide) (ls2 := [some (ga B), some (gi c), some (gi i), some (ga (B + 10 + 3 * i)), some (ga (B + 10 + 3 * c))]) rfl ?_
        refine gX_aloadn dX1_numberAnew_37 rfl ?_
        refine gX_ifnull (tgt := 88) dX1_numberAnew_38 (by decide) (fun w2 => absurd (kd_pos (hB.2.2.2.2.2.2.2.2.2.2.2 i q0 (by omega)).2.1) (by omega)) (fun w2 => ?_)
        refine gX_aload dX1_numberAnew_41 rfl ?_
        refine gX_ifnull (tgt := 88) dX1_numberAnew_43 (by decide) (fun w3 => absurd (kd_pos (hB.2.2.2.2.2.2.2.2.2.2.2 c (by omega) (by omega)).2.1) (by omega)) (fun w3 => ?_)
        refine gX_aloadn dX1_numberAnew_46 rfl ?_
        refine gX_gI 5 dX1_numberAnew_47 fdX1_80 rfl (Or.inr rfl) (hB.2.2.2.2.2.2.2.2.2.2.2 i q0 (by omega)).2.1 ?_
        rw [hv.2.2.2.2.1]
        refine gX_ifne (tgt := 88) dX1_numberAnew_50 (by decide) (fun w4 => ?_) (fun w4 => ?_)
        · refine gX_iinc dX1_numberAnew_88 rfl (show (2 : Nat) < 5 from by decide) ⟨by omega, by omega⟩ (ls2 := [some (ga B), some (gi c), some (gi (i + 1)), some (ga (B + 10 + 3 * i)), some (ga (B + 10 + 3 * c))]) rfl ?_
          refine gX_goto (tgt := 16) dX1_numberAnew_91 (by decide) ?_
          have hz : ¬ q.2.2.2.2.1 = 0 := by omega
          rw [if_neg hz, Int.add_zero] at hkp
          refine ih c (i + 1) _ _ V1 L N _ _ (by omega) (by omega) (by omega) (by omega) hb1 qL (fun j hj => qa j (by omega)) (fun j hj => ?_) hn1 qN (fun j hj => ?_) (fun j hj1 hj2 => qz j (by omega) hj2) hf1 hm1
          · rw [htk, List.filterMap_append]
            have er : [q].filterMap (reQ gs) = [] := by unfold reQ; simp only [List.filterMap_cons, List.filterMap_nil, if_neg hz]
            rw [er, List.append_nil]
            exact qb j hj
          · by_cases cj : (j : Int) = i
            · rw [cj]
              unfold nnG
              rw [eqg, if_neg (fun z => hz z.2.2)]
              have h7 := qz i.toNat (by omega) (by omega)
              rw [Int.toNat_of_nonneg q0] at h7
              exact h7
            · exact qn j (by omega)
        · have hz : q.2.2.2.2.1 = 0 := by omega
          refine gX_aloadn dX1_numberAnew_53 rfl ?_
          refine gX_gR 2 dX1_numberAnew_54 fdX1_26 rfl rfl hB.1 hB.2.2.2.1 ?_
          refine gX_iloadn dX1_numberAnew_57 rfl ?_
          refine gX_iloadn dX1_numberAnew_58 rfl ?_
          refine gX_virt (J := iX6_put) (av := [gi i, gi c]) (a := (B + 4)) (st := []) dX1_numberAnew_59 lkX1_117 kX6_put vX6_put (gFit_m (by decide)) hB.2.2.2.2.2.2.2.2.1.1 rfl rfl (Nat.le_of_ble_eq_true rfl) (Nat.zero_le _) (Nat.zero_le _) rfl ?_
          refine q_Row_put hB.2.2.2.2.2.2.2.2.1 hn1 (fun V2 hn2 hf2 => ?_)
          show gX l E _ 62 [some (ga B), some (gi c), some (gi i), some (ga (B + 10 + 3 * i)), some (ga (B + 10 + 3 * c))] [] (K, R, V2) _ _
          refine gX_aload dX1_numberAnew_62 rfl ?_
          refine gX_aloadn dX1_numberAnew_64 rfl ?_
          refine gX_virt (J := iX3_takeFrom) (av := [ga (B + 10 + 3 * i)]) (a := (B + 10 + 3 * c)) (st := []) dX1_numberAnew_65 lkX1_62 kX3_takeFrom vX3_takeFrom (gFit_m (by decide)) (hB.2.2.2.2.2.2.2.2.2.2.2 c (by omega) (by omega)).2.1 rfl rfl (Nat.le_of_ble_eq_true rfl) (Nat.zero_le _) (Nat.zero_le _) rfl ?_
          refine c_glTake (hB.2.2.2.2.2.2.2.2.2.2.2 c (by omega) (by omega)).2 (hB.2.2.2.2.2.2.2.2.2.2.2 i q0 (by omega)).2 (hv.kept (hf2 _ (by omega) (by omega)) (hf2 _ (by omega) (by omega)) (hf2 _ (by omega) (by omega))) (fun V3 hv3 hf3 => ?_)
          show gX l E _ 68 [some (ga B), some (gi c), some (gi i), some (ga (B + 10 + 3 * i)), some (ga (B + 10 + 3 * c))] [] (K, R, V3) _ _
          refine gX_aload dX1_numberAnew_68 rfl ?_
          refine gX_aloadn dX1_numberAnew_70 rfl ?_
          refine gX_gR 2 dX1_numberAnew_71 fdX1_26 rfl rfl hB.1 hB.2.2.2.1 ?_
          refine gX_aload dX1_numberAnew_74 rfl ?_
          refine gX_gI 2 dX1_numberAnew_76 fdX1_71 rfl (Or.inl rfl) (hB.2.2.2.2.2.2.2.2.2.2.2 c (by omega) (by omega)).2.1 ?_
          rw [hv3.2.1]
          refine gX_virt (J := iX6_at) (av := [gi q.2.1]) (a := (B + 4)) (st := [ga (B + 10 + 3 * c)]) dX1_numberAnew_79 lkX1_120 kX6_at vX6_at (gFit_m (by decide)) hB.2.2.2.2.2.2.2.2.1.1 rfl rfl (Nat.le_of_ble_eq_true rfl) (Nat.zero_le _) (Nat.zero_le _) rfl ?_
          refine q_Row_at hB.2.2.2.2.2.2.2.2.1 (hn2.fr hf3 (by omega)) ?_
          show gX l E _ 82 [some (ga B), some (gi c), some (gi i), some (ga (B + 10 + 3 * i)), some (ga (B + 10 + 3 * c))] [gi (lat (lput N i c) q.2.1), ga (B + 10 + 3 * c)] (K, R, V3) _ _
          have ehn : lat (lput N i c) q.2.1 = nnG gs q.2.1 := by
            by_cases ch : q.2.1 < 0
            · unfold lat nnG
              rw [if_pos ch, if_neg (by omega)]
            · have eh : ((q.2.1.toNat : Nat) : Int) = q.2.1 := by omega
              have h7 : lat (lput N i c) ((q.2.1.toNat : Nat) : Int) = nnG gs ((q.2.1.toNat : Nat) : Int) := by
                rw [lat_lput q0 (by omega) (by omega), if_neg (by omega)]
                exact qn q.2.1.toNat (by omega)
              rw [eh] at h7
              exact h7
          rw [ehn]
          refine gX_pI 2 dX1_numberAnew_82 fdX1_71 fpX1_71 rfl (Or.inl rfl) (hB.2.2.2.2.2.2.2.2.2.2.2 c (by omega) (by omega)).2.1 ?_
          have hv4 : glIs (gup V3 (B + 10 + 3 * c) 2 (nnG gs q.2.1)) (B + 10 + 3 * c) (hoG q (nnG gs q.2.1)) := hv3.host
          have hfx : ∀ a, a ≠ (B + 10 + 3 * c) → (gup V3 (B + 10 + 3 * c) 2 (nnG gs q.2.1)) a = V3 a := fun a g9 => gup_ne g9
          generalize gup V3 (B + 10 + 3 * c) 2 (nnG gs q.2.1) = V4 at hv4 hfx ⊢
          have hall : ∀ a, a < B + 10 + 3 * c ∨ B + 13 + 3 * c ≤ a → a ≠ B + 4 → a ≠ B + 5 → V4 a = V1 a := fun a g1 g2 g3 => by rw [hfx a (by omega), hf3 a (by omega), hf2 a (by omega) (by omega)]
          have hb4 : bkIs V4 B tx (L.set c.toNat (hoG q (nnG gs q.2.1))) := hb1.setg2 (by omega) (by omega) hv4 (by rw [hall B (by omega) (by omega) (by omega)]) (hall _ (by omega) (by omega) (by omega)) (hall _ (by omega) (by omega) (by omega)) (fun a g1 g2 g3 => hall a g3 (by omega) (by omega))
          have hn4 : rIs V4 (B + 4) 20 (lput N i c) := hn2.kept (by rw [hfx _ (by omega), hf3 _ (by omega)]) (by rw [hfx _ (by omega), hf3 _ (by omega)])
          have hf4 : gFr V1 V4 (B + 4) (B + 70) := fun a ha => hall a (by omega) (by omega) (by omega)
          have hm4 : ∀ a, B + 6 ≤ a → a < B + 10 → V4 a = V1 a := fun a g1 g2 => hall a (by omega) (by omega) (by omega)
          refine gX_iinc dX1_numberAnew_85 rfl (show (1 : Nat) < 5 from by decide) ⟨by omega, by omega⟩ (ls2 := [some (ga B), some (gi (c + 1)), some (gi i), some (ga (B + 10 + 3 * i)), some (ga (B + 10 + 3 * c))]) rfl ?_
          refine gX_iinc dX1_numberAnew_88 rfl (show (2 : Nat) < 5 from by decide) ⟨by omega, by omega⟩ (ls2 := [some (ga B), some (gi (c + 1)), some (gi (i + 1)), some (ga (B + 10 + 3 * i)), some (ga (B + 10 + 3 * c))]) rfl ?_
          refine gX_goto (tgt := 16) dX1_numberAnew_91 (by decide) ?_
          rw [if_pos hz] at hkp
          refine ih (c + 1) (i + 1) _ _ V4 (L.set c.toNat (hoG q (nnG gs q.2.1))) (lput N i c) _ _ (by omega) (by omega) (by omega) (by omega) hb4 (by rw [List.length_set]; exact qL) (fun j hj => ?_) (fun j hj => ?_) hn4 (by rw [lput_len]; exact qN) (fun j hj => ?_) (fun j hj1 hj2 => ?_) (hf1.trans hf4) (fun a g1 g2 => by rw [hm4 a g1 g2]; exact hm1 a g1 g2)
          · rw [List.getElem?_set_ne (by omega)]
            exact qa j (by omega)
          · rw [htk, List.filterMap_append]
            have er : [q].filterMap (reQ gs) = [hoG q (nnG gs q.2.1)] := by unfold reQ; simp only [List.filterMap_cons, List.filterMap_nil, if_pos hz]
            rw [er]
            by_cases cj : (j : Int) = c
            · have ej : j = c.toNat := by omega
              subst ej
              rw [List.getElem?_set_self (by omega), List.getElem?_append_right (by omega), show c.toNat - ((gs.take i.toNat).filterMap (reQ gs)).length = 0 by omega]
              rfl
            · rw [List.getElem?_set_ne (by omega), List.getElem?_append_left (by omega)]
              exact qb j (by omega)
          · rw [lat_lput q0 (by omega) (by omega)]
            by_cases cj : (j : Int) = i
            · rw [if_pos cj, cj]
              unfold nnG
              rw [eqg, if_pos ⟨q0, by omega, hz⟩]
              exact qc
            · rw [if_neg cj]
              exact qn j (by omega)
          · rw [lat_lput q0 (by omega) (by omega), if_neg (by omega)]
            exact qz j (by omega) hj2
  refine gX_aloadn dX1_numberAnew_0 rfl ?_
  refine gX_gR 2 dX1_numberAnew_1 fdX1_26 rfl rfl hB.1 hB.2.2.2.1 ?_
  refine gX_aloadn dX1_numberAnew_4 rfl ?_
  refine gX_gI 5 dX1_numberAnew_5 fdX1_35 rfl (Or.inl rfl) hB.1 ?_
  rw [hb.2.1]
  refine gX_iconst dX1_numberAnew_8 ⟨by decide, by decide⟩ ?_
  refine gX_virt (J := iX6_fill) (av := [gi gs.length, gi (-1)]) (a := (B + 4)) (st := []) dX1_numberAnew_9 lkX1_49 kX6_fill vX6_fill (gFit_m (by decide)) hB.2.2.2.2.2.2.2.2.1.1 rfl rfl (Nat.le_of_ble_eq_true rfl) (Nat.zero_le _) (Nat.zero_le _) rfl ?_
  refine q_Row_fill hB.2.2.2.2.2.2.2.2.1 (by omega) (by omega) (fun V1 hn1 hf1 => ?_)
  show gX l E _ 12 [some (ga B), none, none, none, none] [] (K, R, V1) _ _
  refine gX_iconst dX1_numberAnew_12 ⟨by decide, by decide⟩ ?_
  refine gX_istoren dX1_numberAnew_13 (show (1 : Nat) < 5 from by decide) (ls2 := [some (ga B), some (gi 0), none, none, none]) rfl ?_
  refine gX_iconst dX1_numberAnew_14 ⟨by decide, by decide⟩ ?_
  refine gX_istoren dX1_numberAnew_15 (show (2 : Nat) < 5 from by decide) (ls2 := [some (ga B), some (gi 0), some (gi 0), none, none]) rfl ?_
  refine lp (gs.length + 1) 0 0 none none V1 gs _ _ _ (by omega) (by omega) (by omega) rfl ?_ rfl (fun j _ => rfl) (fun j hj => by omega) hn1 (by simp) (fun j hj => by omega) (fun j hj1 hj2 => ?_) (hf1.fr (by omega) (by omega)) (fun a g1 g2 => hf1 a (by omega) (by omega))
  · exact hb.keep2 (by rw [hf1 B (by omega) (by omega)]) (hf1 _ (by omega) (by omega)) (hf1 _ (by omega) (by omega)) (fun a g1 g2 => hf1 a (by omega) (by omega))
  · refine lat_of ?_
    rw [List.getElem?_replicate, if_pos (by omega)]
end BOOK4
