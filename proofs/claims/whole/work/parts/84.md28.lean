/-! The reference: glosses that slip into the text. Written by wip/whole/tools/mk_md28.py. -/
theorem lat_ins {xs ys : List Int} {p z j : Int} (p0 : 0 ≤ p) (z0 : 0 ≤ z) (h : p + z ≤ xs.length) (j0 : 0 ≤ j) : lat (xs.take p.toNat ++ ys ++ xs.drop (p + z).toNat) j = if j < p then lat xs j else if j < p + ys.length then lat ys (j - p) else lat xs (j - ys.length + z) := by
  unfold lat
  have hl : (xs.take p.toNat).length = p.toNat := by rw [List.length_take]; omega
  have hl2 : (xs.take p.toNat ++ ys).length = p.toNat + ys.length := by rw [List.length_append, hl]
  by_cases c : j < p
  · rw [if_pos c, if_neg (by omega), if_neg (by omega), List.getD_eq_getElem?_getD, List.getD_eq_getElem?_getD, List.getElem?_append_left (by omega), List.getElem?_append_left (by omega), List.getElem?_take, if_pos (by omega)]
  · rw [if_neg c]
    by_cases c2 : j < p + ys.length
    · rw [if_pos c2, if_neg (by omega), if_neg (by omega), List.getD_eq_getElem?_getD, List.getD_eq_getElem?_getD, List.getElem?_append_left (by omega), List.getElem?_append_right (by omega), hl, show j.toNat - p.toNat = (j - p).toNat by omega]
    · rw [if_neg c2, if_neg (by omega), if_neg (by omega), List.getD_eq_getElem?_getD, List.getD_eq_getElem?_getD, List.getElem?_append_right (by omega), hl2, List.getElem?_drop, show (p + z).toNat + (j.toNat - (p.toNat + ys.length)) = (j - ys.length + z).toNat by omega]
theorem len_ins {xs ys : List Int} {p z : Int} (p0 : 0 ≤ p) (z0 : 0 ≤ z) (h : p + z ≤ xs.length) : ((xs.take p.toNat ++ ys ++ xs.drop (p + z).toNat).length : Int) = xs.length - z + ys.length := by
  rw [List.length_append, List.length_append, List.length_take, List.length_drop]
  omega
def slPl (wy : Int) (q : gG) : Int := if wy = 1 then q.2.2.2.1 + 1 else q.2.2.1
def slZ (wy : Int) (q : gG) : Int := if wy = 2 then lml q else 0
theorem slP_cs {wy : Int} {q : gG} (hwy : 0 ≤ wy ∧ wy ≤ 2) : (wy = 0 ∧ slPl wy q = q.2.2.1 ∧ slZ wy q = 0) ∨ (wy = 1 ∧ slPl wy q = q.2.2.2.1 + 1 ∧ slZ wy q = 0) ∨ (wy = 2 ∧ slPl wy q = q.2.2.1 ∧ slZ wy q = q.2.2.2.1 - q.2.2.1 + 1) := by
  unfold slPl slZ lml
  by_cases c : wy = 1
  · rw [if_pos c, if_neg (by omega)]; omega
  · by_cases c2 : wy = 2
    · rw [if_neg c, if_pos c2]; omega
    · rw [if_neg c, if_neg c2]; omega
theorem slO_tx {wy : Int} {tx : List Int} {gs : List gG} {q : gG} (hwy : 0 ≤ wy ∧ wy ≤ 2) : (slO wy tx gs q).1 = tx.take (slPl wy q).toNat ++ q.2.2.2.2.2 ++ tx.drop (slPl wy q + slZ wy q).toNat := by
  have hc := slP_cs (q := q) hwy
  unfold slO
  rcases hc with ⟨e, e1, e2⟩ | ⟨e, e1, e2⟩ | ⟨e, e1, e2⟩
  · subst e; rw [e1, e2, if_pos rfl, show q.2.2.1 + 0 = q.2.2.1 by omega]
  · subst e; rw [e1, e2, if_neg (by omega), if_pos rfl, show q.2.2.2.1 + 1 + 0 = q.2.2.2.1 + 1 by omega]
  · subst e; rw [e1, e2, if_neg (by omega), if_neg (by omega), show q.2.2.1 + (q.2.2.2.1 - q.2.2.1 + 1) = q.2.2.2.1 + 1 by omega]
theorem slF_f (wy : Int) (q p : gG) : (slF wy q p).1 = p.1 ∧ (slF wy q p).2.1 = p.2.1 ∧ (slF wy q p).2.2.2.2 = p.2.2.2.2 := by
  have h1 : ∀ a b p, (shQ a b p).1 = p.1 ∧ (shQ a b p).2.1 = p.2.1 ∧ (shQ a b p).2.2.2.2 = p.2.2.2.2 := fun a b p => by unfold shQ; split <;> exact ⟨rfl, rfl, rfl⟩
  have h2 : ∀ a b p, (stQ a b p).1 = p.1 ∧ (stQ a b p).2.1 = p.2.1 ∧ (stQ a b p).2.2.2.2 = p.2.2.2.2 := fun a b p => by unfold stQ; split <;> exact ⟨rfl, rfl, rfl⟩
  unfold slF
  split
  · exact h1 _ _ p
  · split
    · exact h1 _ _ p
    · have a := h2 q.2.2.1 (q.2.2.1 + q.2.2.2.2.2.length - 1) (shQ (q.2.2.2.1 + 1) (q.2.2.2.2.2.length - lml q) p)
      have b := h1 (q.2.2.2.1 + 1) (q.2.2.2.2.2.length - lml q) p
      exact ⟨a.1.trans b.1, a.2.1.trans b.2.1, a.2.2.trans b.2.2⟩
theorem rsIs.slip {V V' : Int → Int → Int} {tx tx' : List Int} {gs : List gG} {g wy : Int} (hs : rsIs V 10 tx gs) (hw : spW tx gs) (hr : rwW gs) (hwy : 0 ≤ wy ∧ wy ≤ 2) (g0 : 0 ≤ g) (g1 : g < gs.length) (ho : onT (gq gs g) = 1) (hl : (tx'.length : Int) = tx.length - slZ wy (gq gs g) + (gq gs g).2.2.2.2.2.length) (h782 : V' 782 = V 782) (h785 : V' 785 = V 785) (h778 : ∀ i : Int, 0 ≤ i → i < tx'.length → V' 778 (400 + i) = if i < slPl wy (gq gs g) then V 778 (400 + i) else if i < slPl wy (gq gs g) + (gq gs g).2.2.2.2.2.length then (if wy = 2 then V 782 (200 + g) else -1) else V 778 (400 + (i - (gq gs g).2.2.2.2.2.length + slZ wy (gq gs g)))) : rsIs V' 10 tx' (gs.map (slF wy (gq gs g))) := by
  have b := hw.1 _ (gqM g0 g1) ho
  have hr1 := hr _ (gqM g0 g1)
  have o2 := onT_1.mp ho
  have hc := slP_cs (q := gq gs g) hwy
  -- what the words from outside the row bear
  have key : ∀ i j : Int, 0 ≤ i → i < tx'.length → ((i < slPl wy (gq gs g) ∧ j = i) ∨ (slPl wy (gq gs g) + (gq gs g).2.2.2.2.2.length ≤ i ∧ j = i - (gq gs g).2.2.2.2.2.length + slZ wy (gq gs g))) → ∀ k : Int, 0 ≤ k → k < gs.length → lvQ (gq gs k) → (cvQ (gq (gs.map (slF wy (gq gs g))) k) (-1) i ↔ cvQ (gq gs k) (-1) j) := fun i j i0 i1 hj k k0 k1 lk => by
    rw [gq_map1 (by omega)]
    by_cases c : onT (gq gs k) = 1
    · have bk := hw.1 _ (gqM k0 k1) c
      have s1 := slF_on (wy := wy) c hr1 (hw.2 _ (gqM k0 k1) _ (gqM g0 g1) c ho) bk.2.1 b.2.1
      unfold cvQ
      rw [(slF_f wy (gq gs g) (gq gs k)).2.1]
      unfold lml at s1
      rcases hc with ⟨e, e1, e2⟩ | ⟨e, e1, e2⟩ | ⟨e, e1, e2⟩
      · simp only [if_pos e] at s1; omega
      · simp only [if_neg (show ¬ wy = 0 by omega), if_pos e] at s1; omega
      · simp only [if_neg (show ¬ wy = 0 by omega), if_neg (show ¬ wy = 1 by omega)] at s1; omega
    · rw [slF_off c]
      have : (gq gs k).2.1 ≠ -1 := fun z => c (onT_1.mpr ⟨lk, z⟩)
      unfold cvQ
      omega
  have mid : ∀ i : Int, slPl wy (gq gs g) ≤ i → i < slPl wy (gq gs g) + (gq gs g).2.2.2.2.2.length → ∀ k : Int, 0 ≤ k → k < gs.length → lvQ (gq gs k) → (cvQ (gq (gs.map (slF wy (gq gs g))) k) (-1) i ↔ (wy = 2 ∧ onT (gq gs k) = 1 ∧ shr (gq gs k) (gq gs g) = 1)) := fun i i0 i1 k k0 k1 lk => by
    rw [gq_map1 (by omega)]
    by_cases c : onT (gq gs k) = 1
    · have bk := hw.1 _ (gqM k0 k1) c
      have s1 := slF_on (wy := wy) c hr1 (hw.2 _ (gqM k0 k1) _ (gqM g0 g1) c ho) bk.2.1 b.2.1
      unfold cvQ
      rw [(slF_f wy (gq gs g) (gq gs k)).2.1, shr_1]
      have o3 := onT_1.mp c
      unfold lml at s1
      rcases hc with ⟨e, e1, e2⟩ | ⟨e, e1, e2⟩ | ⟨e, e1, e2⟩
      · simp only [if_pos e] at s1; omega
      · simp only [if_neg (show ¬ wy = 0 by omega), if_pos e] at s1; omega
      · simp only [if_neg (show ¬ wy = 0 by omega), if_neg (show ¬ wy = 1 by omega)] at s1; omega
    · rw [slF_off c]
      have : (gq gs k).2.1 ≠ -1 := fun z => c (onT_1.mpr ⟨lk, z⟩)
      unfold cvQ
      omega
  refine hs.txt (List.length_map ..) (fun k k0 k1 => ?_) h782 h785 (fun i i0 i1 k k0 k1 lk => ?_) (fun i i0 i1 hno => ?_)
  · rw [gq_map1 (by omega)]
    have := slF_f wy (gq gs g) (gq gs k)
    exact ⟨this.2.1, this.2.2, fun c => slF_off c⟩
  · rw [h778 i i0 i1]
    have s0 := hs.1 k k0 k1 lk
    by_cases c1 : i < slPl wy (gq gs g)
    · rw [if_pos c1, key i i i0 i1 (Or.inl ⟨c1, rfl⟩) k k0 k1 lk, ← spTx V]
      exact s0.2 (-1) _ (Or.inl rfl) i0 (by rw [rwL_n]; omega)
    · rw [if_neg c1]
      by_cases c2 : i < slPl wy (gq gs g) + (gq gs g).2.2.2.2.2.length
      · rw [if_pos c2, mid i (by omega) c2 k k0 k1 lk]
        by_cases c3 : wy = 2
        · rw [if_pos c3]
          have := spE hs hw g0 g1 k0 k1 ho lk
          constructor
          · intro z; exact ⟨c3, this.mp z.symm⟩
          · intro z; exact (this.mpr z.2).symm
        · rw [if_neg c3]
          have : 0 ≤ V 782 (200 + k) := s0.1
          constructor
          · intro z; omega
          · intro z; exact absurd z.1 c3
      · rw [if_neg c2, key i _ i0 i1 (Or.inr ⟨by omega, rfl⟩) k k0 k1 lk, ← spTx V]
        exact s0.2 (-1) _ (Or.inl rfl) (by omega) (by rw [rwL_n]; omega)
  · rw [h778 i i0 i1]
    by_cases c1 : i < slPl wy (gq gs g)
    · rw [if_pos c1, ← spTx V]
      exact hs.2 (-1) _ (Or.inl rfl) i0 (by rw [rwL_n]; omega) (fun k k0 k1 lk z => hno k k0 k1 lk ((key i i i0 i1 (Or.inl ⟨c1, rfl⟩) k k0 k1 lk).mpr z))
    · rw [if_neg c1]
      by_cases c2 : i < slPl wy (gq gs g) + (gq gs g).2.2.2.2.2.length
      · rw [if_pos c2]
        by_cases c3 : wy = 2
        · exact absurd ((mid i (by omega) c2 g g0 g1 o2.1).mpr ⟨c3, ho, shr_1.mpr ⟨rfl, rfl⟩⟩) (hno g g0 g1 o2.1)
        · rw [if_neg c3]; omega
      · rw [if_neg c2, ← spTx V]
        exact hs.2 (-1) _ (Or.inl rfl) (by omega) (by rw [rwL_n]; omega) (fun k k0 k1 lk z => hno k k0 k1 lk ((key i _ i0 i1 (Or.inr ⟨by omega, rfl⟩) k k0 k1 lk).mpr z))
theorem inC_of {wy : Int} {s : cS} {g : Int} (h : inC wy s g = true) : onT (gq s.2.1 g) = 1 ∧ (gq s.2.1 g).1 = 0 ∧ (s.1.length : Int) - slZ wy (gq s.2.1 g) + (gq s.2.1 g).2.2.2.2.2.length ≤ 40 := by
  unfold inC at h
  rw [Bool.and_eq_true, Bool.and_eq_true, decide_eq_true_eq, decide_eq_true_eq, decide_eq_true_eq] at h
  exact ⟨h.1.1, h.1.2, h.2⟩
section MD28
variable {l : Launch} {E : gE} {d : Nat} {K : List gK} {R V : Int → Int → Int} {h g a m wy : Int} {Q : gQ} {s : cS} {q : gbH} {n : Nat}
set_option maxRecDepth 4000 in
theorem m_makeRoom {n : Int} (hM : mdK K R) (hn : V 776 10 = n) (ha : 0 ≤ a ∧ a ≤ n) (hm : 0 ≤ m) (hnm : n + m ≤ 40) (hQ : ∀ V', ctF V V' → V' 776 10 = n + m → (∀ j : Int, 0 ≤ j → j < a → V' 777 (400 + j) = V 777 (400 + j) ∧ V' 778 (400 + j) = V 778 (400 + j)) → (∀ j : Int, a + m ≤ j → j < n + m → V' 777 (400 + j) = V 777 (400 + (j - m)) ∧ V' 778 (400 + j) = V 778 (400 + (j - m))) → Q none (K, R, V')) : gC l E (d + 1) iX12_makeRoom [ga 775, gi a, gi m] (K, R, V) Q := by
  refine gC_of kX12_makeRoom (ls := [some (ga 775), some (gi a), some (gi m), none]) rfl (Nat.le_of_ble_eq_true rfl) ?_
  have lp : ∀ (jj : Nat) (i : Int) (V1 : Int → Int → Int) (bc bs : Nat), i - a + 2 < (jj : Int) → a - 1 ≤ i → i < n → ctF V V1 → V1 776 = V 776 → (∀ j : Int, 0 ≤ j → j < 40 → V1 777 (400 + j) = if i + m < j ∧ j < n + m then V 777 (400 + (j - m)) else V 777 (400 + j)) → (∀ j : Int, 0 ≤ j → j < 40 → V1 778 (400 + j) = if i + m < j ∧ j < n + m then V 778 (400 + (j - m)) else V 778 (400 + j)) → gX l E (gFm E (d + 1) iX12_makeRoom Q) 10 [some (ga 775), some (gi a), some (gi m), some (gi i)] [] (K, R, V1) bc bs := by
    intro jj
    induction jj with
    | zero =>
      intro i V1 bc bs hj q0 q1 q2 q3 q4 q5
      exfalso; omega
    | succ jj ih =>
      intro i V1 bc bs hj q0 q1 q2 q3 q4 q5
      refine gX_iloadn dX12_makeRoom_10 rfl ?_
      refine gX_iloadn dX12_makeRoom_11 rfl ?_
      refine gX_icmplt (tgt := 65) dX12_makeRoom_12 (by decide) (fun c1 => ?_) (fun c1 => ?_)
      · refine gX_aloadn dX12_makeRoom_65 rfl ?_
        refine gX_gR 1 dX12_makeRoom_66 fdX12_7 rfl rfl hM.1 (mR1 hM) ?_
        refine gX_bipush dX12_makeRoom_69 (by decide) ⟨by decide, by decide⟩ ?_
        refine gX_dup2 dX12_makeRoom_71 rfl rfl ?_
        refine gX_iald dX12_makeRoom_72 (mA1 hM) (by omega) (by omega) ?_
        rw [q3, hn]
        refine gX_iloadn dX12_makeRoom_73 rfl ?_
        refine gX_iadd dX12_makeRoom_74 ⟨by omega, by omega⟩ ?_
        refine gX_iast dX12_makeRoom_75 (mA1 hM) (by omega) (by omega) ?_
        refine gX_vret dX12_makeRoom_76 rfl ?_
        refine hQ _ q2.u6 gup_s (fun j j0 j1 => ?_) (fun j j0 j1 => ?_)
        · rw [gup_ne (by omega), gup_ne (by omega), q4 j j0 (by omega), q5 j j0 (by omega), if_neg (by omega), if_neg (by omega)]; exact ⟨rfl, rfl⟩
        · rw [gup_ne (by omega), gup_ne (by omega), q4 j (by omega) (by omega), q5 j (by omega) (by omega), if_pos ⟨by omega, by omega⟩, if_pos ⟨by omega, by omega⟩]; exact ⟨rfl, rfl⟩
      · refine gX_aloadn dX12_makeRoom_15 rfl ?_
        refine gX_gR 2 dX12_makeRoom_16 fdX12_13 rfl rfl hM.1 (mR2 hM) ?_
        refine gX_sipush dX12_makeRoom_19 (by decide) ⟨by decide, by decide⟩ ?_
        refine gX_iloadn dX12_makeRoom_22 rfl ?_
        refine gX_iadd dX12_makeRoom_23 ⟨by omega, by omega⟩ ?_
        refine gX_iloadn dX12_makeRoom_24 rfl ?_
        refine gX_iadd dX12_makeRoom_25 ⟨by omega, by omega⟩ ?_
        refine gX_aloadn dX12_makeRoom_26 rfl ?_
        refine gX_gR 2 dX12_makeRoom_27 fdX12_13 rfl rfl hM.1 (mR2 hM) ?_
        refine gX_sipush dX12_makeRoom_30 (by decide) ⟨by decide, by decide⟩ ?_
        refine gX_iloadn dX12_makeRoom_33 rfl ?_
        refine gX_iadd dX12_makeRoom_34 ⟨by omega, by omega⟩ ?_
        refine gX_iald dX12_makeRoom_35 (mA2 hM) (by omega) (by omega) ?_
        refine gX_iast dX12_makeRoom_36 (mA2 hM) (by omega) (by omega) ?_
        refine gX_aloadn dX12_makeRoom_37 rfl ?_
        refine gX_gR 3 dX12_makeRoom_38 fdX12_16 rfl rfl hM.1 (mR3 hM) ?_
        refine gX_sipush dX12_makeRoom_41 (by decide) ⟨by decide, by decide⟩ ?_
        refine gX_iloadn dX12_makeRoom_44 rfl ?_
        refine gX_iadd dX12_makeRoom_45 ⟨by omega, by omega⟩ ?_
        refine gX_iloadn dX12_makeRoom_46 rfl ?_
        refine gX_iadd dX12_makeRoom_47 ⟨by omega, by omega⟩ ?_
        refine gX_aloadn dX12_makeRoom_48 rfl ?_
        refine gX_gR 3 dX12_makeRoom_49 fdX12_16 rfl rfl hM.1 (mR3 hM) ?_
        refine gX_sipush dX12_makeRoom_52 (by decide) ⟨by decide, by decide⟩ ?_
        refine gX_iloadn dX12_makeRoom_55 rfl ?_
        refine gX_iadd dX12_makeRoom_56 ⟨by omega, by omega⟩ ?_
        refine gX_iald dX12_makeRoom_57 (mA3 hM) (by omega) (by omega) ?_
        refine gX_iast dX12_makeRoom_58 (mA3 hM) (by omega) (by omega) ?_
        refine gX_iinc dX12_makeRoom_59 rfl (show (3 : Nat) < 4 from by decide) ⟨by omega, by omega⟩ (ls2 := [some (ga 775), some (gi a), some (gi m), some (gi (i + (-1)))]) rfl ?_
        refine gX_goto (tgt := 10) dX12_makeRoom_62 (by decide) ?_
        refine ih (i - 1) _ _ _ (by omega) (by omega) (by omega) ((q2.u7 (by omega)).u8 (by omega)) ?_ ?_ ?_
        · rw [gup_ne (by omega), gup_ne (by omega)]; exact q3
        · intro j j0 j1
          rw [gup_ne (by omega)]
          by_cases c : j = i + m
          · subst c; rw [if_pos ⟨by omega, by omega⟩, show 400 + (i + m) = 400 + i + m by omega]; refine gup_s.trans ?_; rw [show i + m - m = i by omega, q4 i (by omega) (by omega), if_neg (by omega)]
          · rw [gup_c (Or.inr (by omega)), q4 j j0 j1]
            by_cases c2 : i + m < j ∧ j < n + m
            · rw [if_pos c2, if_pos ⟨by omega, c2.2⟩]
            · rw [if_neg c2, if_neg (by omega)]
        · intro j j0 j1
          by_cases c : j = i + m
          · subst c; rw [if_pos ⟨by omega, by omega⟩, show 400 + (i + m) = 400 + i + m by omega]; refine gup_s.trans ?_; rw [gup_ne (by omega)]; rw [show i + m - m = i by omega, q5 i (by omega) (by omega), if_neg (by omega)]
          · rw [gup_c (Or.inr (by omega)), gup_ne (by omega), q5 j j0 j1]
            by_cases c2 : i + m < j ∧ j < n + m
            · rw [if_pos c2, if_pos ⟨by omega, c2.2⟩]
            · rw [if_neg c2, if_neg (by omega)]
  refine gX_aloadn dX12_makeRoom_0 rfl ?_
  refine gX_gR 1 dX12_makeRoom_1 fdX12_7 rfl rfl hM.1 (mR1 hM) ?_
  refine gX_bipush dX12_makeRoom_4 (by decide) ⟨by decide, by decide⟩ ?_
  refine gX_iald dX12_makeRoom_6 (mA1 hM) (by omega) (by omega) ?_
  rw [hn]
  refine gX_iconst dX12_makeRoom_7 ⟨by decide, by decide⟩ ?_
  refine gX_isub dX12_makeRoom_8 ⟨by omega, by omega⟩ ?_
  refine gX_istoren dX12_makeRoom_9 (show (3 : Nat) < 4 from by decide) (ls2 := [some (ga 775), some (gi a), some (gi m), some (gi (n - 1))]) rfl ?_
  exact lp (n.toNat + 2) (n - 1) V _ _ (by omega) (by omega) (by omega) ctF.rf rfl (fun j j0 j1 => by rw [if_neg (by omega)]) (fun j j0 j1 => by rw [if_neg (by omega)])
set_option maxRecDepth 4000 in
theorem m_slips (hM : mdK K R) (hs : wkI V s) (hwy : 0 ≤ wy ∧ wy ≤ 2) (g0 : 0 ≤ g) (g1 : g < s.2.1.length) (hic : inC wy s g = true) (hQ : ∀ V', wkI V' ((slO wy s.1 s.2.1 (gq s.2.1 g)).1, awayG (slO wy s.1 s.2.1 (gq s.2.1 g)).2 g, s.2.2) → wkF V V' → Q none (K, R, V')) : gC l E (d + 4) iX12_slips [ga 775, gi g, gi wy] (K, R, V) Q := by
  refine gC_of kX12_slips (ls := [some (ga 775), some (gi g), some (gi wy), none, none, none, none, none, none]) rfl (Nat.le_of_ble_eq_true rfl) ?_
  obtain ⟨ho, hk0, hfit⟩ := inC_of hic
  have h40 := hs.1.2.1
  have h20 := hs.1.2.2.2.2.1
  have hgl := hs.1.gl g0 g1
  have hrl8 := hgl.2.2.2.1
  have hb9 := hs.2.2.2.2.1.1.1 _ (gqM g0 g1) ho
  have hlm : lml (gq s.2.1 g) = (gq s.2.1 g).2.2.2.1 - (gq s.2.1 g).2.2.1 + 1 := rfl
  have fin : ∀ (P z : Int) (j8 : Option gV) (V1 : Int → Int → Int) (bc bs : Nat), P = slPl wy (gq s.2.1 g) → z = slZ wy (gq s.2.1 g) → ctF V V1 → V1 776 10 = s.1.length - z → (∀ j : Int, 0 ≤ j → j < s.1.length - z → V1 777 (400 + j) = (if j < P then V 777 (400 + j) else V 777 (400 + (j + z))) ∧ V1 778 (400 + j) = (if j < P then V 778 (400 + j) else V 778 (400 + (j + z)))) → gX l E (gFm E (d + 4) iX12_slips Q) 137 [some (ga 775), some (gi g), some (gi wy), some (gi (200 + g)), some (gi (V 782 (200 + g))), some (gi ((gq s.2.1 g).2.2.1)), some (gi (lml (gq s.2.1 g))), some (gi P), j8] [] (K, R, V1) bc bs := by
    intro P z j8 V1 bc bs eP ez hct1 hn1 h1
    have hcs := slP_cs (q := (gq s.2.1 g)) hwy
    refine gX_aloadn dX12_slips_137 rfl ?_
    refine gX_iload dX12_slips_138 rfl ?_
    refine gX_aloadn dX12_slips_140 rfl ?_
    refine gX_gR 8 dX12_slips_141 fdX12_31 rfl rfl hM.1 (mR8 hM) ?_
    refine gX_iloadn dX12_slips_144 rfl ?_
    refine gX_iald dX12_slips_145 (mA8 hM) (by omega) (by omega) ?_
    rw [show V1 783 (200 + g) = ((gq s.2.1 g).2.2.2.2.2.length : Int) by rw [hct1.1 783 (by omega) (by omega) (by omega)]; exact hgl.2.2.1]
    refine gX_virt (J := iX12_makeRoom) (av := [gi P, gi ((gq s.2.1 g).2.2.2.2.2.length : Int)]) (a := 775) (st := []) dX12_slips_146 lkX12_365 kX12_makeRoom vX12_makeRoom (gFit_m (by decide)) hM.1 rfl rfl (Nat.le_of_ble_eq_true rfl) (Nat.zero_le _) (Nat.zero_le _) rfl ?_
    refine m_makeRoom hM hn1 (by omega) (by omega) (by omega) (fun V2 hct2 h2n h2a h2b => ?_)
    show gX l E _ 149 [some (ga 775), some (gi g), some (gi wy), some (gi (200 + g)), some (gi (V 782 (200 + g))), some (gi ((gq s.2.1 g).2.2.1)), some (gi (lml (gq s.2.1 g))), some (gi P), j8] [] (K, R, V2) _ _
    refine gX_iconst dX12_slips_149 ⟨by decide, by decide⟩ ?_
    refine gX_istore dX12_slips_150 (show (8 : Nat) < 9 from by decide) (ls2 := [some (ga 775), some (gi g), some (gi wy), some (gi (200 + g)), some (gi (V 782 (200 + g))), some (gi ((gq s.2.1 g).2.2.1)), some (gi (lml (gq s.2.1 g))), some (gi P), some (gi 0)]) rfl ?_
    have lp3 : ∀ (jj : Nat) (i : Int) (V3 : Int → Int → Int) (bc bs : Nat), ((gq s.2.1 g).2.2.2.2.2.length : Int) - i < (jj : Int) → 0 ≤ i → i ≤ (gq s.2.1 g).2.2.2.2.2.length → ctF V V3 → V3 776 = V2 776 → (∀ j : Int, 0 ≤ j → j < 40 → V3 777 (400 + j) = if P ≤ j ∧ j < P + i then lat (gq s.2.1 g).2.2.2.2.2 (j - P) else V2 777 (400 + j)) → (∀ j : Int, 0 ≤ j → j < 40 → V3 778 (400 + j) = if P ≤ j ∧ j < P + i then (if wy = 2 then V 782 (200 + g) else -1) else V2 778 (400 + j)) → gX l E (gFm E (d + 4) iX12_slips Q) 152 [some (ga 775), some (gi g), some (gi wy), some (gi (200 + g)), some (gi (V 782 (200 + g))), some (gi ((gq s.2.1 g).2.2.1)), some (gi (lml (gq s.2.1 g))), some (gi P), some (gi i)] [] (K, R, V3) bc bs := by
      intro jj
      induction jj with
      | zero =>
        intro i V3 bc bs hj q0 q1 q2 q3 q4 q5
        exfalso; omega
      | succ jj ih =>
        intro i V3 bc bs hj q0 q1 q2 q3 q4 q5
        have hrl : V3 783 (200 + g) = ((gq s.2.1 g).2.2.2.2.2.length : Int) := by rw [q2.1 783 (by omega) (by omega) (by omega)]; exact hgl.2.2.1
        refine gX_iload dX12_slips_152 rfl ?_
        refine gX_aloadn dX12_slips_154 rfl ?_
        refine gX_gR 8 dX12_slips_155 fdX12_31 rfl rfl hM.1 (mR8 hM) ?_
        refine gX_iloadn dX12_slips_158 rfl ?_
        refine gX_iald dX12_slips_159 (mA8 hM) (by omega) (by omega) ?_
        rw [hrl]
        refine gX_icmpge (tgt := 220) dX12_slips_160 (by decide) (fun k1 => ?_) (fun k1 => ?_)
        · have ei : i = (gq s.2.1 g).2.2.2.2.2.length := by omega
          rw [ei] at q4 q5
          have htx := slO_tx (tx := s.1) (gs := s.2.1) (q := (gq s.2.1 g)) hwy
          have hln : ((slO wy s.1 s.2.1 (gq s.2.1 g)).1.length : Int) = s.1.length - z + (gq s.2.1 g).2.2.2.2.2.length := by rw [htx, ez]; exact len_ins (by omega) (by omega) (by omega)
          have hat : ∀ j : Int, 0 ≤ j → lat (slO wy s.1 s.2.1 (gq s.2.1 g)).1 j = if j < P then lat s.1 j else if j < P + (gq s.2.1 g).2.2.2.2.2.length then lat (gq s.2.1 g).2.2.2.2.2 (j - P) else lat s.1 (j - (gq s.2.1 g).2.2.2.2.2.length + z) := fun j j0 => by rw [htx, eP, ez]; exact lat_ins (by omega) (by omega) (by omega) j0
          have hb3 : rbIs V3 10 (slO wy s.1 s.2.1 (gq s.2.1 g)).1 (s.2.1.map (slF wy (gq s.2.1 g))) := by
            refine hs.1.txt (List.length_map ..) (fun k k0 k1 => ?_) (by rw [q3, hln]; exact h2n) (by omega) (fun j j0 j1 => ?_) (fun a a1 a2 a3 _ => q2.1 a a1 a2 a3)
            · rw [gq_map1 (by omega)]; have := slF_f wy (gq s.2.1 g) (gq s.2.1 k); exact ⟨this.1, this.2.1, by rw [this.2.2]⟩
            · rw [q4 j j0 (by omega), hat j j0]
              by_cases c : j < P
              · rw [if_pos c, if_neg (by omega), (h2a j j0 c).1, (h1 j j0 (by omega)).1, if_pos c]; exact hs.1.wd (by omega) (by omega)
              · rw [if_neg c]
                by_cases c2 : j < P + (gq s.2.1 g).2.2.2.2.2.length
                · rw [if_pos ⟨by omega, c2⟩, if_pos c2]
                · rw [if_neg (by omega), if_neg c2, (h2b j (by omega) (by omega)).1, (h1 (j - (gq s.2.1 g).2.2.2.2.2.length) (by omega) (by omega)).1, if_neg (by omega)]; exact hs.1.wd (by omega) (by omega)
          have hr3 : rsIs V3 10 (slO wy s.1 s.2.1 (gq s.2.1 g)).1 (s.2.1.map (slF wy (gq s.2.1 g))) := by
            refine hs.2.1.slip hs.2.2.2.2.1.1 hs.2.2.2.2.1.2.1 hwy g0 g1 ho (by rw [hln, ez]) (q2.1 782 (by omega) (by omega) (by omega)) (q2.1 785 (by omega) (by omega) (by omega)) (fun j j0 j1 => ?_)
            rw [← eP, ← ez, q5 j j0 (by omega)]
            by_cases c : j < P
            · rw [if_pos c, if_neg (by omega), (h2a j j0 c).2, (h1 j j0 (by omega)).2, if_pos c]
            · rw [if_neg c]
              by_cases c2 : j < P + (gq s.2.1 g).2.2.2.2.2.length
              · rw [if_pos ⟨by omega, c2⟩, if_pos c2]
              · rw [if_neg (by omega), if_neg c2, (h2b j (by omega) (by omega)).2, (h1 (j - (gq s.2.1 g).2.2.2.2.2.length) (by omega) (by omega)).2, if_neg (by omega)]
          have heq : ∀ j : Int, (gq (s.2.1.map (slF wy (gq s.2.1 g))) j).2.1 = (gq s.2.1 j).2.1 ∧ (gq (s.2.1.map (slF wy (gq s.2.1 g))) j).2.2.2.2 = (gq s.2.1 j).2.2.2.2 := fun j => by
            by_cases c : j.toNat < s.2.1.length
            · rw [gq_map1 c]; exact (slF_f wy (gq s.2.1 g) (gq s.2.1 j)).2
            · rw [gqO (by rw [List.length_map]; omega), gqO (by omega)]; exact ⟨rfl, rfl⟩
          have hoW3 : hoW (s.2.1.map (slF wy (gq s.2.1 g))) := hs.2.2.2.2.1.2.2.1.eqh (List.length_map ..) (fun j => (heq j).1)
          have hgo3 : goI V3 (s.2.1.map (slF wy (gq s.2.1 g))) := fun k k0 k1 => by
            rw [List.length_map] at k1
            rw [q2.1 804 (by omega) (by omega) (by omega), (heq k).2]
            exact hs.2.2.1 k k0 k1
          have g3 : g < ((s.2.1.map (slF wy (gq s.2.1 g))).length : Int) := by rw [List.length_map]; exact g1
          have hwf : wfS ((slO wy s.1 s.2.1 (gq s.2.1 g)).1, awayG (s.2.1.map (slF wy (gq s.2.1 g))) g, s.2.2) := by
            have w1 := (inS_h (m := 1) hwy 1 g.toNat s (by omega) hs.2.2.2.2.1).1
            have e : inS wy 1 1 g.toNat s = if inC wy s ((g.toNat : Nat) : Int) = true then (if tkn (lat s.2.2.1 3 + 1) 1 = 1 then ((slO wy s.1 s.2.1 (gq s.2.1 ((g.toNat : Nat) : Int))).1, awayG (slO wy s.1 s.2.1 (gq s.2.1 ((g.toNat : Nat) : Int))).2 ((g.toNat : Nat) : Int), (tcS 3 1 s).2.2) else tcS 3 1 s) else s := rfl
            rw [e, show ((g.toNat : Nat) : Int) = g by omega, if_pos hic, if_pos (by unfold tkn; rw [if_pos ⟨by omega, by omega⟩]), slO_gs] at w1
            exact w1
          refine gX_aloadn dX12_slips_220 rfl ?_
          refine gX_iloadn dX12_slips_221 rfl ?_
          refine gX_virt (J := iX12_goes) (av := [gi g]) (a := 775) (st := []) dX12_slips_222 lkX12_353 kX12_goes vX12_goes (gFit_m (by decide)) hM.1 rfl rfl (Nat.le_of_ble_eq_true rfl) (Nat.zero_le _) (Nat.zero_le _) rfl ?_
          refine m_goes hM hoW3 hb3 hr3 hgo3 g0 g3 (by unfold lvQ; rw [(heq g).2]; exact (onT_1.mp ho).1) (Or.inl (by rw [(heq g).1]; exact (onT_1.mp ho).2)) (fun V4 b1 b2 b3 b4 => ?_)
          show gX l E _ 225 [some (ga 775), some (gi g), some (gi wy), some (gi (200 + g)), some (gi (V 782 (200 + g))), some (gi ((gq s.2.1 g).2.2.1)), some (gi (lml (gq s.2.1 g))), some (gi P), some (gi i)] [] (K, R, V4) _ _
          refine gX_vret dX12_slips_225 rfl ?_
          refine hQ V4 ?_ (q2.wk.trans b4.wk)
          rw [slO_gs]
          exact ⟨b1, b2, b3, ⟨hs.2.2.2.1.1, hs.2.2.2.1.2.1, fun j j0 j1 => by rw [b4.1 789 (by omega) (by omega) (by omega), b4.1 788 (by omega) (by omega) (by omega), q2.1 789 (by omega) (by omega) (by omega), q2.1 788 (by omega) (by omega) (by omega)]; exact hs.2.2.2.1.2.2 j j0 j1⟩, hwf, (hs.2.2.2.2.2.eqh (List.length_map ..) heq).away hoW3 g0 g3⟩
        · refine gX_aloadn dX12_slips_163 rfl ?_
          refine gX_gR 2 dX12_slips_164 fdX12_13 rfl rfl hM.1 (mR2 hM) ?_
          refine gX_sipush dX12_slips_167 (by decide) ⟨by decide, by decide⟩ ?_
          refine gX_iload dX12_slips_170 rfl ?_
          refine gX_iadd dX12_slips_172 ⟨by omega, by omega⟩ ?_
          refine gX_iload dX12_slips_173 rfl ?_
          refine gX_iadd dX12_slips_175 ⟨by omega, by omega⟩ ?_
          refine gX_aloadn dX12_slips_176 rfl ?_
          refine gX_gR 9 dX12_slips_177 fdX12_34 rfl rfl hM.1 (mR9 hM) ?_
          refine gX_bipush dX12_slips_180 (by decide) ⟨by decide, by decide⟩ ?_
          refine gX_iloadn dX12_slips_182 rfl ?_
          refine gX_imul dX12_slips_183 ⟨by omega, by omega⟩ ?_
          refine gX_iload dX12_slips_184 rfl ?_
          refine gX_iadd dX12_slips_186 ⟨by omega, by omega⟩ ?_
          refine gX_iald dX12_slips_187 (mA9 hM) (by omega) (by omega) ?_
          rw [show V3 784 (8 * (200 + g) + i) = lat (gq s.2.1 g).2.2.2.2.2 i by rw [q2.1 784 (by omega) (by omega) (by omega)]; exact hgl.rw q0 (by omega)]
          refine gX_iast dX12_slips_188 (mA2 hM) (by omega) (by omega) ?_
          refine gX_aloadn dX12_slips_189 rfl ?_
          refine gX_gR 3 dX12_slips_190 fdX12_16 rfl rfl hM.1 (mR3 hM) ?_
          refine gX_sipush dX12_slips_193 (by decide) ⟨by decide, by decide⟩ ?_
          refine gX_iload dX12_slips_196 rfl ?_
          refine gX_iadd dX12_slips_198 ⟨by omega, by omega⟩ ?_
          refine gX_iload dX12_slips_199 rfl ?_
          refine gX_iadd dX12_slips_201 ⟨by omega, by omega⟩ ?_
          refine gX_iloadn dX12_slips_202 rfl ?_
          refine gX_iconst dX12_slips_203 ⟨by decide, by decide⟩ ?_
          refine gX_icmpne (tgt := 212) dX12_slips_204 (by decide) (fun k2 => ?_) (fun k2 => ?_)
          · refine gX_iconst dX12_slips_212 ⟨by decide, by decide⟩ ?_
            refine gX_iast dX12_slips_213 (mA3 hM) (by omega) (by omega) ?_
            refine gX_iinc dX12_slips_214 rfl (show (8 : Nat) < 9 from by decide) ⟨by omega, by omega⟩ (ls2 := [some (ga 775), some (gi g), some (gi wy), some (gi (200 + g)), some (gi (V 782 (200 + g))), some (gi ((gq s.2.1 g).2.2.1)), some (gi (lml (gq s.2.1 g))), some (gi P), some (gi (i + 1))]) rfl ?_
            refine gX_goto (tgt := 152) dX12_slips_217 (by decide) ?_
            refine ih (i + 1) _ _ _ (by omega) (by omega) (by omega) ((q2.u7 (by omega)).u8 (by omega)) ?_ ?_ ?_
            · rw [gup_ne (by omega), gup_ne (by omega)]; exact q3
            · intro j j0 j1
              rw [gup_ne (by omega)]
              by_cases c : j = P + i
              · subst c; rw [if_pos ⟨by omega, by omega⟩, show 400 + (P + i) = 400 + P + i by omega, show P + i - P = i by omega]; exact gup_s
              · rw [gup_c (Or.inr (by omega)), q4 j j0 j1]
                by_cases c2 : P ≤ j ∧ j < P + i
                · rw [if_pos c2, if_pos ⟨c2.1, by omega⟩]
                · rw [if_neg c2, if_neg (by omega)]
            · intro j j0 j1
              by_cases c : j = P + i
              · subst c; rw [if_pos (show P ≤ P + i ∧ P + i < P + (i + 1) by omega), show 400 + (P + i) = 400 + P + i by omega]; refine gup_s.trans ?_; first | rw [if_pos (by omega)] | rw [if_neg (by omega)]
              · rw [gup_c (Or.inr (by omega)), gup_ne (by omega), q5 j j0 j1]
                by_cases c2 : P ≤ j ∧ j < P + i
                · rw [if_pos c2, if_pos (show P ≤ j ∧ j < P + (i + 1) by omega)]
                · rw [if_neg c2, if_neg (show ¬ (P ≤ j ∧ j < P + (i + 1)) by omega)]
          · refine gX_iload dX12_slips_207 rfl ?_
            refine gX_goto (tgt := 213) dX12_slips_209 (by decide) ?_
            refine gX_iast dX12_slips_213 (mA3 hM) (by omega) (by omega) ?_
            refine gX_iinc dX12_slips_214 rfl (show (8 : Nat) < 9 from by decide) ⟨by omega, by omega⟩ (ls2 := [some (ga 775), some (gi g), some (gi wy), some (gi (200 + g)), some (gi (V 782 (200 + g))), some (gi ((gq s.2.1 g).2.2.1)), some (gi (lml (gq s.2.1 g))), some (gi P), some (gi (i + 1))]) rfl ?_
            refine gX_goto (tgt := 152) dX12_slips_217 (by decide) ?_
            refine ih (i + 1) _ _ _ (by omega) (by omega) (by omega) ((q2.u7 (by omega)).u8 (by omega)) ?_ ?_ ?_
            · rw [gup_ne (by omega), gup_ne (by omega)]; exact q3
            · intro j j0 j1
              rw [gup_ne (by omega)]
              by_cases c : j = P + i
              · subst c; rw [if_pos ⟨by omega, by omega⟩, show 400 + (P + i) = 400 + P + i by omega, show P + i - P = i by omega]; exact gup_s
              · rw [gup_c (Or.inr (by omega)), q4 j j0 j1]
                by_cases c2 : P ≤ j ∧ j < P + i
                · rw [if_pos c2, if_pos ⟨c2.1, by omega⟩]
                · rw [if_neg c2, if_neg (by omega)]
            · intro j j0 j1
              by_cases c : j = P + i
              · subst c; rw [if_pos (show P ≤ P + i ∧ P + i < P + (i + 1) by omega), show 400 + (P + i) = 400 + P + i by omega]; refine gup_s.trans ?_; first | rw [if_pos (by omega)] | rw [if_neg (by omega)]
              · rw [gup_c (Or.inr (by omega)), gup_ne (by omega), q5 j j0 j1]
                by_cases c2 : P ≤ j ∧ j < P + i
                · rw [if_pos c2, if_pos (show P ≤ j ∧ j < P + (i + 1) by omega)]
                · rw [if_neg c2, if_neg (show ¬ (P ≤ j ∧ j < P + (i + 1)) by omega)]
    exact lp3 ((gq s.2.1 g).2.2.2.2.2.length + 1) 0 V2 _ _ (by omega) (by omega) (by omega) (hct1.trans hct2) rfl (fun j j0 j1 => by rw [if_neg (by omega)]) (fun j j0 j1 => by rw [if_neg (by omega)])
  have lpw : wy = 2 → True := fun _ => trivial
  have lp : ∀ (jj : Nat) (i : Int) (V1 : Int → Int → Int) (bc bs : Nat), (s.1.length : Int) - lml (gq s.2.1 g) - i < (jj : Int) → wy = 2 → (gq s.2.1 g).2.2.1 ≤ i → i + lml (gq s.2.1 g) ≤ s.1.length → ctF V V1 → V1 776 = V 776 → (∀ j : Int, 0 ≤ j → j < 40 → V1 777 (400 + j) = if (gq s.2.1 g).2.2.1 ≤ j ∧ j < i then V 777 (400 + (j + lml (gq s.2.1 g))) else V 777 (400 + j)) → (∀ j : Int, 0 ≤ j → j < 40 → V1 778 (400 + j) = if (gq s.2.1 g).2.2.1 ≤ j ∧ j < i then V 778 (400 + (j + lml (gq s.2.1 g))) else V 778 (400 + j)) → gX l E (gFm E (d + 4) iX12_slips Q) 66 [some (ga 775), some (gi g), some (gi wy), some (gi (200 + g)), some (gi (V 782 (200 + g))), some (gi ((gq s.2.1 g).2.2.1)), some (gi (lml (gq s.2.1 g))), some (gi ((gq s.2.1 g).2.2.1)), some (gi (400 + i))] [] (K, R, V1) bc bs := by
    intro jj
    induction jj with
    | zero =>
      intro i V1 bc bs hj hw2 q0 q1 q2 q3 q4 q5
      exfalso; omega
    | succ jj ih =>
      intro i V1 bc bs hj hw2 q0 q1 q2 q3 q4 q5
      refine gX_iload dX12_slips_66 rfl ?_
      refine gX_iload dX12_slips_68 rfl ?_
      refine gX_iadd dX12_slips_70 ⟨by omega, by omega⟩ ?_
      refine gX_sipush dX12_slips_71 (by decide) ⟨by decide, by decide⟩ ?_
      refine gX_aloadn dX12_slips_74 rfl ?_
      refine gX_gR 1 dX12_slips_75 fdX12_7 rfl rfl hM.1 (mR1 hM) ?_
      refine gX_bipush dX12_slips_78 (by decide) ⟨by decide, by decide⟩ ?_
      refine gX_iald dX12_slips_80 (mA1 hM) (by omega) (by omega) ?_
      rw [q3, hs.1.1]
      refine gX_iadd dX12_slips_81 ⟨by omega, by omega⟩ ?_
      refine gX_icmpge (tgt := 125) dX12_slips_82 (by decide) (fun c1 => ?_) (fun c1 => ?_)
      · refine gX_aloadn dX12_slips_125 rfl ?_
        refine gX_gR 1 dX12_slips_126 fdX12_7 rfl rfl hM.1 (mR1 hM) ?_
        refine gX_bipush dX12_slips_129 (by decide) ⟨by decide, by decide⟩ ?_
        refine gX_dup2 dX12_slips_131 rfl rfl ?_
        refine gX_iald dX12_slips_132 (mA1 hM) (by omega) (by omega) ?_
        rw [q3, hs.1.1]
        refine gX_iload dX12_slips_133 rfl ?_
        refine gX_isub dX12_slips_135 ⟨by omega, by omega⟩ ?_
        refine gX_iast dX12_slips_136 (mA1 hM) (by omega) (by omega) ?_
        have ei : i = s.1.length - lml (gq s.2.1 g) := by omega
        subst ei
        refine fin (gq s.2.1 g).2.2.1 (lml (gq s.2.1 g)) _ _ _ _ (by unfold slPl; rw [if_neg (by omega)]) (by unfold slZ; rw [if_pos hw2]) q2.u6 gup_s (fun j j0 j1 => ?_)
        rw [gup_ne (by omega), gup_ne (by omega), q4 j j0 (by omega), q5 j j0 (by omega)]
        by_cases c : j < (gq s.2.1 g).2.2.1
        · have c3 : ¬ ((gq s.2.1 g).2.2.1 ≤ j ∧ j < (s.1.length : Int) - lml (gq s.2.1 g)) := by omega
          rw [if_neg c3, if_neg c3, if_pos c, if_pos c]; exact ⟨rfl, rfl⟩
        · have c3 : ((gq s.2.1 g).2.2.1 ≤ j ∧ j < (s.1.length : Int) - lml (gq s.2.1 g)) := by omega
          rw [if_pos c3, if_pos c3, if_neg c, if_neg c]; exact ⟨rfl, rfl⟩
      · refine gX_aloadn dX12_slips_85 rfl ?_
        refine gX_gR 2 dX12_slips_86 fdX12_13 rfl rfl hM.1 (mR2 hM) ?_
        refine gX_iload dX12_slips_89 rfl ?_
        refine gX_aloadn dX12_slips_91 rfl ?_
        refine gX_gR 2 dX12_slips_92 fdX12_13 rfl rfl hM.1 (mR2 hM) ?_
        refine gX_iload dX12_slips_95 rfl ?_
        refine gX_iload dX12_slips_97 rfl ?_
        refine gX_iadd dX12_slips_99 ⟨by omega, by omega⟩ ?_
        refine gX_iald dX12_slips_100 (mA2 hM) (by omega) (by omega) ?_
        refine gX_iast dX12_slips_101 (mA2 hM) (by omega) (by omega) ?_
        refine gX_aloadn dX12_slips_102 rfl ?_
        refine gX_gR 3 dX12_slips_103 fdX12_16 rfl rfl hM.1 (mR3 hM) ?_
        refine gX_iload dX12_slips_106 rfl ?_
        refine gX_aloadn dX12_slips_108 rfl ?_
        refine gX_gR 3 dX12_slips_109 fdX12_16 rfl rfl hM.1 (mR3 hM) ?_
        refine gX_iload dX12_slips_112 rfl ?_
        refine gX_iload dX12_slips_114 rfl ?_
        refine gX_iadd dX12_slips_116 ⟨by omega, by omega⟩ ?_
        refine gX_iald dX12_slips_117 (mA3 hM) (by omega) (by omega) ?_
        refine gX_iast dX12_slips_118 (mA3 hM) (by omega) (by omega) ?_
        refine gX_iinc dX12_slips_119 rfl (show (8 : Nat) < 9 from by decide) ⟨by omega, by omega⟩ (ls2 := [some (ga 775), some (gi g), some (gi wy), some (gi (200 + g)), some (gi (V 782 (200 + g))), some (gi ((gq s.2.1 g).2.2.1)), some (gi (lml (gq s.2.1 g))), some (gi ((gq s.2.1 g).2.2.1)), some (gi ((400 + i) + 1))]) rfl ?_
        refine gX_goto (tgt := 66) dX12_slips_122 (by decide) ?_
        rw [show 400 + i + 1 = 400 + (i + 1) by omega]
        refine ih (i + 1) _ _ _ (by omega) hw2 (by omega) (by omega) ((q2.u7 (by omega)).u8 (by omega)) ?_ ?_ ?_
        · rw [gup_ne (by omega), gup_ne (by omega)]; exact q3
        · intro j j0 j1
          rw [gup_ne (by omega)]
          by_cases c : j = i
          · subst c; rw [if_pos ⟨by omega, by omega⟩]; refine gup_s.trans ?_; rw [show 400 + j + lml (gq s.2.1 g) = 400 + (j + lml (gq s.2.1 g)) by omega, q4 (j + lml (gq s.2.1 g)) (by omega) (by omega), if_neg (by omega)]
          · rw [gup_c (Or.inr (by omega)), q4 j j0 j1]
            by_cases c2 : (gq s.2.1 g).2.2.1 ≤ j ∧ j < i
            · rw [if_pos c2, if_pos ⟨c2.1, by omega⟩]
            · rw [if_neg c2, if_neg (by omega)]
        · intro j j0 j1
          by_cases c : j = i
          · subst c; rw [if_pos ⟨by omega, by omega⟩]; refine gup_s.trans ?_; rw [gup_ne (by omega)]; rw [show 400 + j + lml (gq s.2.1 g) = 400 + (j + lml (gq s.2.1 g)) by omega, q5 (j + lml (gq s.2.1 g)) (by omega) (by omega), if_neg (by omega)]
          · rw [gup_c (Or.inr (by omega)), gup_ne (by omega), q5 j j0 j1]
            by_cases c2 : (gq s.2.1 g).2.2.1 ≤ j ∧ j < i
            · rw [if_pos c2, if_pos ⟨c2.1, by omega⟩]
            · rw [if_neg c2, if_neg (by omega)]
  refine gX_sipush dX12_slips_0 (by decide) ⟨by decide, by decide⟩ ?_
  refine gX_iloadn dX12_slips_3 rfl ?_
  refine gX_iadd dX12_slips_4 ⟨by omega, by omega⟩ ?_
  refine gX_istoren dX12_slips_5 (show (3 : Nat) < 9 from by decide) (ls2 := [some (ga 775), some (gi g), some (gi wy), some (gi (200 + g)), none, none, none, none, none]) rfl ?_
  refine gX_aloadn dX12_slips_6 rfl ?_
  refine gX_gR 7 dX12_slips_7 fdX12_28 rfl rfl hM.1 (mR7 hM) ?_
  refine gX_iloadn dX12_slips_10 rfl ?_
  refine gX_iald dX12_slips_11 (mA7 hM) (by omega) (by omega) ?_
  refine gX_istore dX12_slips_12 (show (4 : Nat) < 9 from by decide) (ls2 := [some (ga 775), some (gi g), some (gi wy), some (gi (200 + g)), some (gi (V 782 (200 + g))), none, none, none, none]) rfl ?_
  refine gX_aloadn dX12_slips_14 rfl ?_
  refine gX_bipush dX12_slips_15 (by decide) ⟨by decide, by decide⟩ ?_
  refine gX_iconst dX12_slips_17 ⟨by decide, by decide⟩ ?_
  refine gX_iload dX12_slips_18 rfl ?_
  refine gX_virt (J := iX12_firstOf) (av := [gi 10, gi (-1), gi (V 782 (200 + g))]) (a := 775) (st := []) dX12_slips_20 lkX12_359 kX12_firstOf vX12_firstOf (gFit_m (by decide)) hM.1 rfl rfl (Nat.le_of_ble_eq_true rfl) (Nat.zero_le _) (Nat.zero_le _) rfl ?_
  refine m_firstOfE hM ⟨by omega, by omega⟩ hs.1 hs.2.1 g0 g1 (hs.spo g0 g1 ho) (onT_1.mp ho).2 ?_
  show gX l E _ 23 [some (ga 775), some (gi g), some (gi wy), some (gi (200 + g)), some (gi (V 782 (200 + g))), none, none, none, none] [gi ((gq s.2.1 g).2.2.1)] (K, R, V) _ _
  refine gX_istore dX12_slips_23 (show (5 : Nat) < 9 from by decide) (ls2 := [some (ga 775), some (gi g), some (gi wy), some (gi (200 + g)), some (gi (V 782 (200 + g))), some (gi ((gq s.2.1 g).2.2.1)), none, none, none]) rfl ?_
  refine gX_aloadn dX12_slips_25 rfl ?_
  refine gX_bipush dX12_slips_26 (by decide) ⟨by decide, by decide⟩ ?_
  refine gX_iconst dX12_slips_28 ⟨by decide, by decide⟩ ?_
  refine gX_iload dX12_slips_29 rfl ?_
  refine gX_virt (J := iX12_lemmaSize) (av := [gi 10, gi (-1), gi (V 782 (200 + g))]) (a := 775) (st := []) dX12_slips_31 lkX12_362 kX12_lemmaSize vX12_lemmaSize (gFit_m (by decide)) hM.1 rfl rfl (Nat.le_of_ble_eq_true rfl) (Nat.zero_le _) (Nat.zero_le _) rfl ?_
  refine m_lemmaSizeE hM ⟨by omega, by omega⟩ hs.1 hs.2.1 g0 g1 (hs.spo g0 g1 ho) (onT_1.mp ho).2 ?_
  show gX l E _ 34 [some (ga 775), some (gi g), some (gi wy), some (gi (200 + g)), some (gi (V 782 (200 + g))), some (gi ((gq s.2.1 g).2.2.1)), none, none, none] [gi (lml (gq s.2.1 g))] (K, R, V) _ _
  refine gX_istore dX12_slips_34 (show (6 : Nat) < 9 from by decide) (ls2 := [some (ga 775), some (gi g), some (gi wy), some (gi (200 + g)), some (gi (V 782 (200 + g))), some (gi ((gq s.2.1 g).2.2.1)), some (gi (lml (gq s.2.1 g))), none, none]) rfl ?_
  refine gX_iloadn dX12_slips_36 rfl ?_
  refine gX_iconst dX12_slips_37 ⟨by decide, by decide⟩ ?_
  refine gX_icmpne (tgt := 49) dX12_slips_38 (by decide) (fun m1 => ?_) (fun m1 => ?_)
  · refine gX_iload dX12_slips_49 rfl ?_
    refine gX_istore dX12_slips_51 (show (7 : Nat) < 9 from by decide) (ls2 := [some (ga 775), some (gi g), some (gi wy), some (gi (200 + g)), some (gi (V 782 (200 + g))), some (gi ((gq s.2.1 g).2.2.1)), some (gi (lml (gq s.2.1 g))), some (gi ((gq s.2.1 g).2.2.1)), none]) rfl ?_
    refine gX_iloadn dX12_slips_53 rfl ?_
    refine gX_iconst dX12_slips_54 ⟨by decide, by decide⟩ ?_
    refine gX_icmpne (tgt := 137) dX12_slips_55 (by decide) (fun m2 => ?_) (fun m2 => ?_)
    · exact fin ((gq s.2.1 g).2.2.1) 0 _ _ _ _ (by unfold slPl; rw [if_neg (by omega)]) (by unfold slZ; rw [if_neg (by omega)]) ctF.rf (by rw [hs.1.1]; omega) (fun j j0 j1 => by rw [show j + 0 = j by omega, ite_self, ite_self]; exact ⟨rfl, rfl⟩)
    · refine gX_sipush dX12_slips_58 (by decide) ⟨by decide, by decide⟩ ?_
      refine gX_iload dX12_slips_61 rfl ?_
      refine gX_iadd dX12_slips_63 ⟨by omega, by omega⟩ ?_
      refine gX_istore dX12_slips_64 (show (8 : Nat) < 9 from by decide) (ls2 := [some (ga 775), some (gi g), some (gi wy), some (gi (200 + g)), some (gi (V 782 (200 + g))), some (gi ((gq s.2.1 g).2.2.1)), some (gi (lml (gq s.2.1 g))), some (gi ((gq s.2.1 g).2.2.1)), some (gi (400 + ((gq s.2.1 g).2.2.1)))]) rfl ?_
      exact lp (s.1.length + 1) ((gq s.2.1 g).2.2.1) V _ _ (by omega) (by omega) (by omega) (by omega) ctF.rf rfl (fun j j0 j1 => by rw [if_neg (by omega)]) (fun j j0 j1 => by rw [if_neg (by omega)])
  · refine gX_iload dX12_slips_41 rfl ?_
    refine gX_iload dX12_slips_43 rfl ?_
    refine gX_iadd dX12_slips_45 ⟨by omega, by omega⟩ ?_
    refine gX_goto (tgt := 51) dX12_slips_46 (by decide) ?_
    refine gX_istore dX12_slips_51 (show (7 : Nat) < 9 from by decide) (ls2 := [some (ga 775), some (gi g), some (gi wy), some (gi (200 + g)), some (gi (V 782 (200 + g))), some (gi ((gq s.2.1 g).2.2.1)), some (gi (lml (gq s.2.1 g))), some (gi (((gq s.2.1 g).2.2.1) + (lml (gq s.2.1 g)))), none]) rfl ?_
    refine gX_iloadn dX12_slips_53 rfl ?_
    refine gX_iconst dX12_slips_54 ⟨by decide, by decide⟩ ?_
    refine gX_icmpne (tgt := 137) dX12_slips_55 (by decide) (fun m3 => ?_) (fun m3 => ?_)
    · exact fin (((gq s.2.1 g).2.2.1) + (lml (gq s.2.1 g))) 0 _ _ _ _ (by unfold slPl; rw [if_pos (by omega)]; omega) (by unfold slZ; rw [if_neg (by omega)]) ctF.rf (by rw [hs.1.1]; omega) (fun j j0 j1 => by rw [show j + 0 = j by omega, ite_self, ite_self]; exact ⟨rfl, rfl⟩)
    · refine gX_sipush dX12_slips_58 (by decide) ⟨by decide, by decide⟩ ?_
      refine gX_iload dX12_slips_61 rfl ?_
      refine gX_iadd dX12_slips_63 ⟨by omega, by omega⟩ ?_
      refine gX_istore dX12_slips_64 (show (8 : Nat) < 9 from by decide) (ls2 := [some (ga 775), some (gi g), some (gi wy), some (gi (200 + g)), some (gi (V 782 (200 + g))), some (gi ((gq s.2.1 g).2.2.1)), some (gi (lml (gq s.2.1 g))), some (gi (((gq s.2.1 g).2.2.1) + (lml (gq s.2.1 g)))), some (gi (400 + ((gq s.2.1 g).2.2.1)))]) rfl ?_
      exfalso
      omega
set_option maxRecDepth 4000 in
theorem m_doInto (hM : mdK K R) (hh : 0 ≤ h ∧ h < 4) (hr : rhA V h q) (hi : hInv q) (hs : wkI V s) (hz : lat s.2.2.1 3 = 0) (hc0 : cBd s.2.2.1 2000) (ht0 : cBd s.2.2.2 2000) (hQ : ∀ V', wkI V' (wr4 q.2.2.2.1 q.2.2.2.2.2 s) → wkF V V' → chK 3 s (wr4 q.2.2.2.1 q.2.2.2.2.2 s) → Q none (K, R, V')) : gC l E (d + 5) iX12_doInto [ga 775, gi h] (K, R, V) Q := by
  refine gC_of kX12_doInto (ls := [some (ga 775), some (gi h), none, none, none, none, none, none]) rfl (Nat.le_of_ble_eq_true rfl) ?_
  have h40 := hs.1.2.1
  have h20 := hs.1.2.2.2.2.1
  have hm := hr.2.2.2.1 3 (by omega) (by omega)
  have hmb := hi.2.2.2.2.1 3
  have hwy0 : 0 < lat q.2.2.2.1 3 → 0 ≤ q.2.2.2.2.2 ∧ q.2.2.2.2.2 ≤ 2 := fun z => ⟨hi.2.2.2.2.2.2.2.1 (by omega), hi.2.2.2.2.2.2.1.2⟩
  have hmw := hr.2.2.2.2.2
  have lp : ∀ (jj : Nat) (i : Int) (j6 : Option gV) (j7 : Option gV) (V1 : Int → Int → Int) (s1 : cS) (bc bs : Nat), (s.2.1.length : Int) - i < (jj : Int) → 0 ≤ i → i ≤ s.2.1.length → wkI V1 s1 → wkF V V1 → s1.2.1.length = s.2.1.length → cBd s1.2.2.1 (2000 + i) → cBd s1.2.2.2 (2000 + i) → chK 3 s s1 → (lat q.2.2.2.1 3 = -1 → s1 = s) → (lat q.2.2.2.1 3 ≠ -1 → inS (q.2.2.2.2.2) (lat q.2.2.2.1 3) s.2.1.length 0 s = inS (q.2.2.2.2.2) (lat q.2.2.2.1 3) (s.2.1.length - i.toNat) i.toNat s1) → gX l E (gFm E (d + 5) iX12_doInto Q) 25 [some (ga 775), some (gi h), some (gi (lat q.2.2.2.1 3)), some (gi q.2.2.2.2.2), some (gi (lat s1.2.2.1 3)), some (gi i), j6, j7] [] (K, R, V1) bc bs := by
    intro jj
    induction jj with
    | zero =>
      intro i j6 j7 V1 s1 bc bs hj q0 q1 q2 q3 q4 q5 q6 q7 q8 q9
      exfalso; omega
    | succ jj ih =>
      intro i j6 j7 V1 s1 bc bs hj q0 q1 q2 q3 q4 q5 q6 q7 q8 q9
      refine gX_iload dX12_doInto_25 rfl ?_
      refine gX_aloadn dX12_doInto_27 rfl ?_
      refine gX_gR 4 dX12_doInto_28 fdX12_19 rfl rfl hM.1 (mR4 hM) ?_
      refine gX_bipush dX12_doInto_31 (by decide) ⟨by decide, by decide⟩ ?_
      refine gX_iald dX12_doInto_33 (mA4 hM) (by omega) (by omega) ?_
      rw [q2.1.2.2.2.1, q4]
      refine gX_icmpge (tgt := 168) dX12_doInto_34 (by decide) (fun b1 => ?_) (fun b1 => ?_)
      · refine gX_vret dX12_doInto_168 rfl ?_
        have ew : wr4 q.2.2.2.1 (q.2.2.2.2.2) s = s1 := by
          unfold wr4
          by_cases z : lat q.2.2.2.1 3 = -1
          · rw [if_pos z, q8 z]
          · rw [if_neg z, q9 z]
            first
            | (rw [show s.2.1.length - i.toNat = 0 by omega]; rfl)
            | (exfalso; omega)
        rw [ew] at hQ
        exact hQ V1 q2 q3 q7
      · refine gX_iloadn dX12_doInto_37 rfl ?_
        refine gX_ifle (tgt := 168) dX12_doInto_38 (by decide) (fun b2 => ?_) (fun b2 => ?_)
        · refine gX_vret dX12_doInto_168 rfl ?_
          have ew : wr4 q.2.2.2.1 (q.2.2.2.2.2) s = s1 := by
            unfold wr4
            by_cases z : lat q.2.2.2.1 3 = -1
            · rw [if_pos z, q8 z]
            · rw [if_neg z, q9 z]
              first
              | (rw [show s.2.1.length - i.toNat = 0 by omega]; rfl)
              | (exfalso; omega)
          rw [ew] at hQ
          exact hQ V1 q2 q3 q7
        · have hwy := hwy0 (by omega)
          have hch := q5.2 3 (by omega) (by omega)
          have hgi := q2.2.2.1 i (by omega) (by omega)
          have hgl := q2.1.gl (g := i) (by omega) (by omega)
          have hrl8 := hgl.2.2.2.1
          have hh9 := q2.2.2.2.2.1.2.2.1.at (g := i) q0 (by omega)
          have hx40 := q2.1.2.1
          refine gX_sipush dX12_doInto_41 (by decide) ⟨by decide, by decide⟩ ?_
          refine gX_iload dX12_doInto_44 rfl ?_
          refine gX_iadd dX12_doInto_46 ⟨by omega, by omega⟩ ?_
          refine gX_istore dX12_doInto_47 (show (6 : Nat) < 8 from by decide) (ls2 := [some (ga 775), some (gi h), some (gi (lat q.2.2.2.1 3)), some (gi q.2.2.2.2.2), some (gi (lat s1.2.2.1 3)), some (gi i), some (gi (200 + i)), j7]) rfl ?_
          refine gX_aloadn dX12_doInto_49 rfl ?_
          refine gX_gR 45 dX12_doInto_50 fdX12_98 rfl rfl hM.1 (mR45 hM) ?_
          refine gX_iload dX12_doInto_53 rfl ?_
          refine gX_zald dX12_doInto_55 (mA45 hM) (by omega) (by omega) ?_
          rw [hgi.1]
          refine gX_ifne (tgt := 162) dX12_doInto_56 (by decide) (fun b3 => ?_) (fun b3 => ?_)
          · refine gX_iinc dX12_doInto_162 rfl (show (5 : Nat) < 8 from by decide) ⟨by omega, by omega⟩ (ls2 := [some (ga 775), some (gi h), some (gi (lat q.2.2.2.1 3)), some (gi q.2.2.2.2.2), some (gi (lat s1.2.2.1 3)), some (gi (i + 1)), some (gi (200 + i)), j7]) rfl ?_
            refine gX_goto (tgt := 25) dX12_doInto_165 (by decide) ?_
            have e6 : inS (q.2.2.2.2.2) (lat q.2.2.2.1 3) (s.2.1.length - i.toNat) i.toNat s1 = if inC (q.2.2.2.2.2) s1 i = true then (if tkn (lat s1.2.2.1 3 + 1) (lat q.2.2.2.1 3) = 1 then inS (q.2.2.2.2.2) (lat q.2.2.2.1 3) (s.2.1.length - (i + 1).toNat) (i + 1).toNat ((slO (q.2.2.2.2.2) s1.1 s1.2.1 (gq s1.2.1 i)).1, awayG (slO (q.2.2.2.2.2) s1.1 s1.2.1 (gq s1.2.1 i)).2 i, (tcS 3 (lat q.2.2.2.1 3) s1).2.2) else inS (q.2.2.2.2.2) (lat q.2.2.2.1 3) (s.2.1.length - (i + 1).toNat) (i + 1).toNat (tcS 3 (lat q.2.2.2.1 3) s1)) else inS (q.2.2.2.2.2) (lat q.2.2.2.1 3) (s.2.1.length - (i + 1).toNat) (i + 1).toNat s1 := by
              rw [show s.2.1.length - i.toNat = (s.2.1.length - (i + 1).toNat) + 1 by omega, show (i + 1).toNat = i.toNat + 1 by omega]
              have en : ((i.toNat : Nat) : Int) = i := by omega
              show (if inC _ s1 ((i.toNat : Nat) : Int) = true then (if _ then inS _ _ _ _ ((slO _ s1.1 s1.2.1 (gq s1.2.1 ((i.toNat : Nat) : Int))).1, awayG (slO _ s1.1 s1.2.1 (gq s1.2.1 ((i.toNat : Nat) : Int))).2 ((i.toNat : Nat) : Int), _) else _) else _) = _
              rw [en]
            rw [e6] at q9
            have ec : ¬ inC (q.2.2.2.2.2) s1 i = true := fun z => by
              obtain ⟨y1, y2, y3⟩ := inC_of z
              have y4 := onT_1.mp y1
              unfold slZ at y3
              first
              | omega
              | (rw [if_pos (by assumption)] at y3; omega)
              | (rw [if_neg (by assumption)] at y3; omega)
            try rw [show lat s1.2.2.1 3 + 0 = lat s1.2.2.1 3 by omega]
            exact ih (i + 1) _ _ _ s1 _ _ (by omega) (by omega) (by omega) q2 q3 q4 (q5.up (by omega)) (q6.up (by omega)) q7 (fun z => by omega) (fun z => by rw [q9 z, if_neg ec])
          · refine gX_aloadn dX12_doInto_59 rfl ?_
            refine gX_gR 6 dX12_doInto_60 fdX12_25 rfl rfl hM.1 (mR6 hM) ?_
            refine gX_iload dX12_doInto_63 rfl ?_
            refine gX_iald dX12_doInto_65 (mA6 hM) (by omega) (by omega) ?_
            rw [show V1 781 (200 + i) = (gq s1.2.1 i).2.1 from hgl.2.1]
            refine gX_ifge (tgt := 162) dX12_doInto_66 (by decide) (fun b4 => ?_) (fun b4 => ?_)
            · refine gX_iinc dX12_doInto_162 rfl (show (5 : Nat) < 8 from by decide) ⟨by omega, by omega⟩ (ls2 := [some (ga 775), some (gi h), some (gi (lat q.2.2.2.1 3)), some (gi q.2.2.2.2.2), some (gi (lat s1.2.2.1 3)), some (gi (i + 1)), some (gi (200 + i)), j7]) rfl ?_
              refine gX_goto (tgt := 25) dX12_doInto_165 (by decide) ?_
              have e6 : inS (q.2.2.2.2.2) (lat q.2.2.2.1 3) (s.2.1.length - i.toNat) i.toNat s1 = if inC (q.2.2.2.2.2) s1 i = true then (if tkn (lat s1.2.2.1 3 + 1) (lat q.2.2.2.1 3) = 1 then inS (q.2.2.2.2.2) (lat q.2.2.2.1 3) (s.2.1.length - (i + 1).toNat) (i + 1).toNat ((slO (q.2.2.2.2.2) s1.1 s1.2.1 (gq s1.2.1 i)).1, awayG (slO (q.2.2.2.2.2) s1.1 s1.2.1 (gq s1.2.1 i)).2 i, (tcS 3 (lat q.2.2.2.1 3) s1).2.2) else inS (q.2.2.2.2.2) (lat q.2.2.2.1 3) (s.2.1.length - (i + 1).toNat) (i + 1).toNat (tcS 3 (lat q.2.2.2.1 3) s1)) else inS (q.2.2.2.2.2) (lat q.2.2.2.1 3) (s.2.1.length - (i + 1).toNat) (i + 1).toNat s1 := by
                rw [show s.2.1.length - i.toNat = (s.2.1.length - (i + 1).toNat) + 1 by omega, show (i + 1).toNat = i.toNat + 1 by omega]
                have en : ((i.toNat : Nat) : Int) = i := by omega
                show (if inC _ s1 ((i.toNat : Nat) : Int) = true then (if _ then inS _ _ _ _ ((slO _ s1.1 s1.2.1 (gq s1.2.1 ((i.toNat : Nat) : Int))).1, awayG (slO _ s1.1 s1.2.1 (gq s1.2.1 ((i.toNat : Nat) : Int))).2 ((i.toNat : Nat) : Int), _) else _) else _) = _
                rw [en]
              rw [e6] at q9
              have ec : ¬ inC (q.2.2.2.2.2) s1 i = true := fun z => by
                obtain ⟨y1, y2, y3⟩ := inC_of z
                have y4 := onT_1.mp y1
                unfold slZ at y3
                first
                | omega
                | (rw [if_pos (by assumption)] at y3; omega)
                | (rw [if_neg (by assumption)] at y3; omega)
              try rw [show lat s1.2.2.1 3 + 0 = lat s1.2.2.1 3 by omega]
              exact ih (i + 1) _ _ _ s1 _ _ (by omega) (by omega) (by omega) q2 q3 q4 (q5.up (by omega)) (q6.up (by omega)) q7 (fun z => by omega) (fun z => by rw [q9 z, if_neg ec])
            · refine gX_aloadn dX12_doInto_69 rfl ?_
              refine gX_gR 5 dX12_doInto_70 fdX12_22 rfl rfl hM.1 (mR5 hM) ?_
              refine gX_iload dX12_doInto_73 rfl ?_
              refine gX_iald dX12_doInto_75 (mA5 hM) (by omega) (by omega) ?_
              rw [show V1 780 (200 + i) = (gq s1.2.1 i).1 from hgl.1]
              refine gX_ifne (tgt := 162) dX12_doInto_76 (by decide) (fun b5 => ?_) (fun b5 => ?_)
              · refine gX_iinc dX12_doInto_162 rfl (show (5 : Nat) < 8 from by decide) ⟨by omega, by omega⟩ (ls2 := [some (ga 775), some (gi h), some (gi (lat q.2.2.2.1 3)), some (gi q.2.2.2.2.2), some (gi (lat s1.2.2.1 3)), some (gi (i + 1)), some (gi (200 + i)), j7]) rfl ?_
                refine gX_goto (tgt := 25) dX12_doInto_165 (by decide) ?_
                have e6 : inS (q.2.2.2.2.2) (lat q.2.2.2.1 3) (s.2.1.length - i.toNat) i.toNat s1 = if inC (q.2.2.2.2.2) s1 i = true then (if tkn (lat s1.2.2.1 3 + 1) (lat q.2.2.2.1 3) = 1 then inS (q.2.2.2.2.2) (lat q.2.2.2.1 3) (s.2.1.length - (i + 1).toNat) (i + 1).toNat ((slO (q.2.2.2.2.2) s1.1 s1.2.1 (gq s1.2.1 i)).1, awayG (slO (q.2.2.2.2.2) s1.1 s1.2.1 (gq s1.2.1 i)).2 i, (tcS 3 (lat q.2.2.2.1 3) s1).2.2) else inS (q.2.2.2.2.2) (lat q.2.2.2.1 3) (s.2.1.length - (i + 1).toNat) (i + 1).toNat (tcS 3 (lat q.2.2.2.1 3) s1)) else inS (q.2.2.2.2.2) (lat q.2.2.2.1 3) (s.2.1.length - (i + 1).toNat) (i + 1).toNat s1 := by
                  rw [show s.2.1.length - i.toNat = (s.2.1.length - (i + 1).toNat) + 1 by omega, show (i + 1).toNat = i.toNat + 1 by omega]
                  have en : ((i.toNat : Nat) : Int) = i := by omega
                  show (if inC _ s1 ((i.toNat : Nat) : Int) = true then (if _ then inS _ _ _ _ ((slO _ s1.1 s1.2.1 (gq s1.2.1 ((i.toNat : Nat) : Int))).1, awayG (slO _ s1.1 s1.2.1 (gq s1.2.1 ((i.toNat : Nat) : Int))).2 ((i.toNat : Nat) : Int), _) else _) else _) = _
                  rw [en]
                rw [e6] at q9
                have ec : ¬ inC (q.2.2.2.2.2) s1 i = true := fun z => by
                  obtain ⟨y1, y2, y3⟩ := inC_of z
                  have y4 := onT_1.mp y1
                  unfold slZ at y3
                  first
                  | omega
                  | (rw [if_pos (by assumption)] at y3; omega)
                  | (rw [if_neg (by assumption)] at y3; omega)
                try rw [show lat s1.2.2.1 3 + 0 = lat s1.2.2.1 3 by omega]
                exact ih (i + 1) _ _ _ s1 _ _ (by omega) (by omega) (by omega) q2 q3 q4 (q5.up (by omega)) (q6.up (by omega)) q7 (fun z => by omega) (fun z => by rw [q9 z, if_neg ec])
              · have ho9 : onT (gq s1.2.1 i) = 1 := onT_1.mpr ⟨by omega, by omega⟩
                have hb9 := q2.2.2.2.2.1.1.1 _ (gqM q0 (by omega)) ho9
                have hlm9 : lml (gq s1.2.1 i) = (gq s1.2.1 i).2.2.2.1 - (gq s1.2.1 i).2.2.1 + 1 := rfl
                refine gX_aloadn dX12_doInto_79 rfl ?_
                refine gX_gR 1 dX12_doInto_80 fdX12_7 rfl rfl hM.1 (mR1 hM) ?_
                refine gX_bipush dX12_doInto_83 (by decide) ⟨by decide, by decide⟩ ?_
                refine gX_iald dX12_doInto_85 (mA1 hM) (by omega) (by omega) ?_
                rw [q2.1.1]
                refine gX_aloadn dX12_doInto_86 rfl ?_
                refine gX_gR 8 dX12_doInto_87 fdX12_31 rfl rfl hM.1 (mR8 hM) ?_
                refine gX_iload dX12_doInto_90 rfl ?_
                refine gX_iald dX12_doInto_92 (mA8 hM) (by omega) (by omega) ?_
                rw [show V1 783 (200 + i) = ((gq s1.2.1 i).2.2.2.2.2.length : Int) from hgl.2.2.1]
                refine gX_iadd dX12_doInto_93 ⟨by omega, by omega⟩ ?_
                refine gX_iloadn dX12_doInto_94 rfl ?_
                refine gX_iconst dX12_doInto_95 ⟨by decide, by decide⟩ ?_
                refine gX_icmpne (tgt := 116) dX12_doInto_96 (by decide) (fun b6 => ?_) (fun b6 => ?_)
                · refine gX_iconst dX12_doInto_116 ⟨by decide, by decide⟩ ?_
                  refine gX_isub dX12_doInto_117 ⟨by omega, by omega⟩ ?_
                  refine gX_istore dX12_doInto_118 (show (7 : Nat) < 8 from by decide) (ls2 := [some (ga 775), some (gi h), some (gi (lat q.2.2.2.1 3)), some (gi q.2.2.2.2.2), some (gi (lat s1.2.2.1 3)), some (gi i), some (gi (200 + i)), some (gi (((s1.1.length : Int) + ((gq s1.2.1 i).2.2.2.2.2.length : Int)) - 0))]) rfl ?_
                  refine gX_iload dX12_doInto_120 rfl ?_
                  refine gX_iload dX12_doInto_122 rfl ?_
                  refine gX_bipush dX12_doInto_124 (by decide) ⟨by decide, by decide⟩ ?_
                  refine gX_icmpgt (tgt := 133) dX12_doInto_126 (by decide) (fun b7 => ?_) (fun b7 => ?_)
                  · refine gX_iconst dX12_doInto_133 ⟨by decide, by decide⟩ ?_
                    refine gX_iadd dX12_doInto_134 ⟨by omega, by omega⟩ ?_
                    refine gX_istore dX12_doInto_135 (show (4 : Nat) < 8 from by decide) (ls2 := [some (ga 775), some (gi h), some (gi (lat q.2.2.2.1 3)), some (gi q.2.2.2.2.2), some (gi ((lat s1.2.2.1 3) + 0)), some (gi i), some (gi (200 + i)), some (gi (((s1.1.length : Int) + ((gq s1.2.1 i).2.2.2.2.2.length : Int)) - 0))]) rfl ?_
                    refine gX_iload dX12_doInto_137 rfl ?_
                    refine gX_bipush dX12_doInto_139 (by decide) ⟨by decide, by decide⟩ ?_
                    refine gX_icmpgt (tgt := 162) dX12_doInto_141 (by decide) (fun b8 => ?_) (fun b8 => ?_)
                    · refine gX_iinc dX12_doInto_162 rfl (show (5 : Nat) < 8 from by decide) ⟨by omega, by omega⟩ (ls2 := [some (ga 775), some (gi h), some (gi (lat q.2.2.2.1 3)), some (gi q.2.2.2.2.2), some (gi ((lat s1.2.2.1 3) + 0)), some (gi (i + 1)), some (gi (200 + i)), some (gi (((s1.1.length : Int) + ((gq s1.2.1 i).2.2.2.2.2.length : Int)) - 0))]) rfl ?_
                      refine gX_goto (tgt := 25) dX12_doInto_165 (by decide) ?_
                      have e6 : inS (q.2.2.2.2.2) (lat q.2.2.2.1 3) (s.2.1.length - i.toNat) i.toNat s1 = if inC (q.2.2.2.2.2) s1 i = true then (if tkn (lat s1.2.2.1 3 + 1) (lat q.2.2.2.1 3) = 1 then inS (q.2.2.2.2.2) (lat q.2.2.2.1 3) (s.2.1.length - (i + 1).toNat) (i + 1).toNat ((slO (q.2.2.2.2.2) s1.1 s1.2.1 (gq s1.2.1 i)).1, awayG (slO (q.2.2.2.2.2) s1.1 s1.2.1 (gq s1.2.1 i)).2 i, (tcS 3 (lat q.2.2.2.1 3) s1).2.2) else inS (q.2.2.2.2.2) (lat q.2.2.2.1 3) (s.2.1.length - (i + 1).toNat) (i + 1).toNat (tcS 3 (lat q.2.2.2.1 3) s1)) else inS (q.2.2.2.2.2) (lat q.2.2.2.1 3) (s.2.1.length - (i + 1).toNat) (i + 1).toNat s1 := by
                        rw [show s.2.1.length - i.toNat = (s.2.1.length - (i + 1).toNat) + 1 by omega, show (i + 1).toNat = i.toNat + 1 by omega]
                        have en : ((i.toNat : Nat) : Int) = i := by omega
                        show (if inC _ s1 ((i.toNat : Nat) : Int) = true then (if _ then inS _ _ _ _ ((slO _ s1.1 s1.2.1 (gq s1.2.1 ((i.toNat : Nat) : Int))).1, awayG (slO _ s1.1 s1.2.1 (gq s1.2.1 ((i.toNat : Nat) : Int))).2 ((i.toNat : Nat) : Int), _) else _) else _) = _
                        rw [en]
                      rw [e6] at q9
                      have ec : ¬ inC (q.2.2.2.2.2) s1 i = true := fun z => by
                        obtain ⟨y1, y2, y3⟩ := inC_of z
                        have y4 := onT_1.mp y1
                        unfold slZ at y3
                        first
                        | omega
                        | (rw [if_pos (by assumption)] at y3; omega)
                        | (rw [if_neg (by assumption)] at y3; omega)
                      try rw [show lat s1.2.2.1 3 + 0 = lat s1.2.2.1 3 by omega]
                      exact ih (i + 1) _ _ _ s1 _ _ (by omega) (by omega) (by omega) q2 q3 q4 (q5.up (by omega)) (q6.up (by omega)) q7 (fun z => by omega) (fun z => by rw [q9 z, if_neg ec])
                    · have hic : inC (q.2.2.2.2.2) s1 i = true := by exfalso; omega
                      refine gX_aloadn dX12_doInto_144 rfl ?_
                      refine gX_iconst dX12_doInto_145 ⟨by decide, by decide⟩ ?_
                      refine gX_iload dX12_doInto_146 rfl ?_
                      refine gX_iloadn dX12_doInto_148 rfl ?_
                      refine gX_virt (J := iX12_isTaken) (av := [gi 3, gi ((lat s1.2.2.1 3) + 0), gi (lat q.2.2.2.1 3)]) (a := 775) (st := []) dX12_doInto_149 lkX12_342 kX12_isTaken vX12_isTaken (gFit_m (by decide)) hM.1 rfl rfl (Nat.le_of_ble_eq_true rfl) (Nat.zero_le _) (Nat.zero_le _) rfl ?_
                      refine m_isTakenW hM q2 (by omega) (by omega) (by omega) (by omega) (q5.up (by omega)) (q6.up (by omega)) (fun V2 hw2 hf2 => ?_)
                      show gX l E _ 152 [some (ga 775), some (gi h), some (gi (lat q.2.2.2.1 3)), some (gi q.2.2.2.2.2), some (gi ((lat s1.2.2.1 3) + 0)), some (gi i), some (gi (200 + i)), some (gi (((s1.1.length : Int) + ((gq s1.2.1 i).2.2.2.2.2.length : Int)) - 0))] [gi (tkn (lat s1.2.2.1 3 + 1) (lat q.2.2.2.1 3))] (K, R, V2) _ _
                      refine gX_ifeq (tgt := 162) dX12_doInto_152 (by decide) (fun b9 => ?_) (fun b9 => ?_)
                      · refine gX_iinc dX12_doInto_162 rfl (show (5 : Nat) < 8 from by decide) ⟨by omega, by omega⟩ (ls2 := [some (ga 775), some (gi h), some (gi (lat q.2.2.2.1 3)), some (gi q.2.2.2.2.2), some (gi ((lat s1.2.2.1 3) + 0)), some (gi (i + 1)), some (gi (200 + i)), some (gi (((s1.1.length : Int) + ((gq s1.2.1 i).2.2.2.2.2.length : Int)) - 0))]) rfl ?_
                        refine gX_goto (tgt := 25) dX12_doInto_165 (by decide) ?_
                        exfalso
                        omega
                      · refine gX_aloadn dX12_doInto_155 rfl ?_
                        refine gX_iload dX12_doInto_156 rfl ?_
                        refine gX_iloadn dX12_doInto_158 rfl ?_
                        refine gX_virt (J := iX12_slips) (av := [gi i, gi q.2.2.2.2.2]) (a := 775) (st := []) dX12_doInto_159 lkX12_368 kX12_slips vX12_slips (gFit_m (by decide)) hM.1 rfl rfl (Nat.le_of_ble_eq_true rfl) (Nat.zero_le _) (Nat.zero_le _) rfl ?_
                        refine m_slips (s := tcS 3 (lat q.2.2.2.1 3) s1) hM hw2 hwy q0 (by show i < (s1.2.1.length : Int); omega) hic (fun V3 hw3 hf3 => ?_)
                        show gX l E _ 162 [some (ga 775), some (gi h), some (gi (lat q.2.2.2.1 3)), some (gi q.2.2.2.2.2), some (gi ((lat s1.2.2.1 3) + 0)), some (gi i), some (gi (200 + i)), some (gi (((s1.1.length : Int) + ((gq s1.2.1 i).2.2.2.2.2.length : Int)) - 0))] [] (K, R, V3) _ _
                        refine gX_iinc dX12_doInto_162 rfl (show (5 : Nat) < 8 from by decide) ⟨by omega, by omega⟩ (ls2 := [some (ga 775), some (gi h), some (gi (lat q.2.2.2.1 3)), some (gi q.2.2.2.2.2), some (gi ((lat s1.2.2.1 3) + 0)), some (gi (i + 1)), some (gi (200 + i)), some (gi (((s1.1.length : Int) + ((gq s1.2.1 i).2.2.2.2.2.length : Int)) - 0))]) rfl ?_
                        refine gX_goto (tgt := 25) dX12_doInto_165 (by decide) ?_
                        exfalso
                        omega
                  · refine gX_iconst dX12_doInto_129 ⟨by decide, by decide⟩ ?_
                    refine gX_goto (tgt := 134) dX12_doInto_130 (by decide) ?_
                    refine gX_iadd dX12_doInto_134 ⟨by omega, by omega⟩ ?_
                    refine gX_istore dX12_doInto_135 (show (4 : Nat) < 8 from by decide) (ls2 := [some (ga 775), some (gi h), some (gi (lat q.2.2.2.1 3)), some (gi q.2.2.2.2.2), some (gi ((lat s1.2.2.1 3) + 1)), some (gi i), some (gi (200 + i)), some (gi (((s1.1.length : Int) + ((gq s1.2.1 i).2.2.2.2.2.length : Int)) - 0))]) rfl ?_
                    refine gX_iload dX12_doInto_137 rfl ?_
                    refine gX_bipush dX12_doInto_139 (by decide) ⟨by decide, by decide⟩ ?_
                    refine gX_icmpgt (tgt := 162) dX12_doInto_141 (by decide) (fun b10 => ?_) (fun b10 => ?_)
                    · refine gX_iinc dX12_doInto_162 rfl (show (5 : Nat) < 8 from by decide) ⟨by omega, by omega⟩ (ls2 := [some (ga 775), some (gi h), some (gi (lat q.2.2.2.1 3)), some (gi q.2.2.2.2.2), some (gi ((lat s1.2.2.1 3) + 1)), some (gi (i + 1)), some (gi (200 + i)), some (gi (((s1.1.length : Int) + ((gq s1.2.1 i).2.2.2.2.2.length : Int)) - 0))]) rfl ?_
                      refine gX_goto (tgt := 25) dX12_doInto_165 (by decide) ?_
                      exfalso
                      omega
                    · have hic : inC (q.2.2.2.2.2) s1 i = true := by
                        unfold inC
                        rw [decide_eq_true (show onT (gq s1.2.1 i) = 1 from onT_1.mpr ⟨by omega, by omega⟩), decide_eq_true (show (gq s1.2.1 i).1 = 0 by assumption), decide_eq_true (show (s1.1.length : Int) - (if q.2.2.2.2.2 = 2 then lml (gq s1.2.1 i) else 0) + (gq s1.2.1 i).2.2.2.2.2.length ≤ 40 by first | (rw [if_pos (by assumption)]; omega) | (rw [if_neg (by assumption)]; omega))]
                        rfl
                      refine gX_aloadn dX12_doInto_144 rfl ?_
                      refine gX_iconst dX12_doInto_145 ⟨by decide, by decide⟩ ?_
                      refine gX_iload dX12_doInto_146 rfl ?_
                      refine gX_iloadn dX12_doInto_148 rfl ?_
                      refine gX_virt (J := iX12_isTaken) (av := [gi 3, gi ((lat s1.2.2.1 3) + 1), gi (lat q.2.2.2.1 3)]) (a := 775) (st := []) dX12_doInto_149 lkX12_342 kX12_isTaken vX12_isTaken (gFit_m (by decide)) hM.1 rfl rfl (Nat.le_of_ble_eq_true rfl) (Nat.zero_le _) (Nat.zero_le _) rfl ?_
                      refine m_isTakenW hM q2 (by omega) (by omega) (by omega) (by omega) (q5.up (by omega)) (q6.up (by omega)) (fun V2 hw2 hf2 => ?_)
                      show gX l E _ 152 [some (ga 775), some (gi h), some (gi (lat q.2.2.2.1 3)), some (gi q.2.2.2.2.2), some (gi ((lat s1.2.2.1 3) + 1)), some (gi i), some (gi (200 + i)), some (gi (((s1.1.length : Int) + ((gq s1.2.1 i).2.2.2.2.2.length : Int)) - 0))] [gi (tkn (lat s1.2.2.1 3 + 1) (lat q.2.2.2.1 3))] (K, R, V2) _ _
                      refine gX_ifeq (tgt := 162) dX12_doInto_152 (by decide) (fun b11 => ?_) (fun b11 => ?_)
                      · refine gX_iinc dX12_doInto_162 rfl (show (5 : Nat) < 8 from by decide) ⟨by omega, by omega⟩ (ls2 := [some (ga 775), some (gi h), some (gi (lat q.2.2.2.1 3)), some (gi q.2.2.2.2.2), some (gi ((lat s1.2.2.1 3) + 1)), some (gi (i + 1)), some (gi (200 + i)), some (gi (((s1.1.length : Int) + ((gq s1.2.1 i).2.2.2.2.2.length : Int)) - 0))]) rfl ?_
                        refine gX_goto (tgt := 25) dX12_doInto_165 (by decide) ?_
                        have e6 : inS (q.2.2.2.2.2) (lat q.2.2.2.1 3) (s.2.1.length - i.toNat) i.toNat s1 = if inC (q.2.2.2.2.2) s1 i = true then (if tkn (lat s1.2.2.1 3 + 1) (lat q.2.2.2.1 3) = 1 then inS (q.2.2.2.2.2) (lat q.2.2.2.1 3) (s.2.1.length - (i + 1).toNat) (i + 1).toNat ((slO (q.2.2.2.2.2) s1.1 s1.2.1 (gq s1.2.1 i)).1, awayG (slO (q.2.2.2.2.2) s1.1 s1.2.1 (gq s1.2.1 i)).2 i, (tcS 3 (lat q.2.2.2.1 3) s1).2.2) else inS (q.2.2.2.2.2) (lat q.2.2.2.1 3) (s.2.1.length - (i + 1).toNat) (i + 1).toNat (tcS 3 (lat q.2.2.2.1 3) s1)) else inS (q.2.2.2.2.2) (lat q.2.2.2.1 3) (s.2.1.length - (i + 1).toNat) (i + 1).toNat s1 := by
                          rw [show s.2.1.length - i.toNat = (s.2.1.length - (i + 1).toNat) + 1 by omega, show (i + 1).toNat = i.toNat + 1 by omega]
                          have en : ((i.toNat : Nat) : Int) = i := by omega
                          show (if inC _ s1 ((i.toNat : Nat) : Int) = true then (if _ then inS _ _ _ _ ((slO _ s1.1 s1.2.1 (gq s1.2.1 ((i.toNat : Nat) : Int))).1, awayG (slO _ s1.1 s1.2.1 (gq s1.2.1 ((i.toNat : Nat) : Int))).2 ((i.toNat : Nat) : Int), _) else _) else _) = _
                          rw [en]
                        rw [e6] at q9
                        rw [if_pos hic] at q9
                        have et := tkn_01 (lat s1.2.2.1 3 + 1) (lat q.2.2.2.1 3)
                        have hc9 : cBd (tcS 3 (lat q.2.2.2.1 3) s1).2.2.1 (2000 + (i + 1)) := (tcS_c q5 (by omega) (by omega)).up (by omega)
                        have ht9 : cBd (tcS 3 (lat q.2.2.2.1 3) s1).2.2.2 (2000 + (i + 1)) := (tcS_t q6 (by omega) (by omega)).up (by omega)
                        have el9 : lat s1.2.2.1 3 + 1 = lat (tcS 3 (lat q.2.2.2.1 3) s1).2.2.1 3 := (bump_at (by omega) (by rw [q2.2.2.2.1.1]; omega)).symm
                        rw [el9]
                        exact ih (i + 1) _ _ _ (tcS 3 (lat q.2.2.2.1 3) s1) _ _ (by omega) (by omega) (by omega) hw2 (q3.trans hf2.wk) q4 hc9 ht9 q7.bmp (fun z => by omega) (fun z => by rw [q9 z, if_neg (by omega)])
                      · refine gX_aloadn dX12_doInto_155 rfl ?_
                        refine gX_iload dX12_doInto_156 rfl ?_
                        refine gX_iloadn dX12_doInto_158 rfl ?_
                        refine gX_virt (J := iX12_slips) (av := [gi i, gi q.2.2.2.2.2]) (a := 775) (st := []) dX12_doInto_159 lkX12_368 kX12_slips vX12_slips (gFit_m (by decide)) hM.1 rfl rfl (Nat.le_of_ble_eq_true rfl) (Nat.zero_le _) (Nat.zero_le _) rfl ?_
                        refine m_slips (s := tcS 3 (lat q.2.2.2.1 3) s1) hM hw2 hwy q0 (by show i < (s1.2.1.length : Int); omega) hic (fun V3 hw3 hf3 => ?_)
                        show gX l E _ 162 [some (ga 775), some (gi h), some (gi (lat q.2.2.2.1 3)), some (gi q.2.2.2.2.2), some (gi ((lat s1.2.2.1 3) + 1)), some (gi i), some (gi (200 + i)), some (gi (((s1.1.length : Int) + ((gq s1.2.1 i).2.2.2.2.2.length : Int)) - 0))] [] (K, R, V3) _ _
                        refine gX_iinc dX12_doInto_162 rfl (show (5 : Nat) < 8 from by decide) ⟨by omega, by omega⟩ (ls2 := [some (ga 775), some (gi h), some (gi (lat q.2.2.2.1 3)), some (gi q.2.2.2.2.2), some (gi ((lat s1.2.2.1 3) + 1)), some (gi (i + 1)), some (gi (200 + i)), some (gi (((s1.1.length : Int) + ((gq s1.2.1 i).2.2.2.2.2.length : Int)) - 0))]) rfl ?_
                        refine gX_goto (tgt := 25) dX12_doInto_165 (by decide) ?_
                        have e6 : inS (q.2.2.2.2.2) (lat q.2.2.2.1 3) (s.2.1.length - i.toNat) i.toNat s1 = if inC (q.2.2.2.2.2) s1 i = true then (if tkn (lat s1.2.2.1 3 + 1) (lat q.2.2.2.1 3) = 1 then inS (q.2.2.2.2.2) (lat q.2.2.2.1 3) (s.2.1.length - (i + 1).toNat) (i + 1).toNat ((slO (q.2.2.2.2.2) s1.1 s1.2.1 (gq s1.2.1 i)).1, awayG (slO (q.2.2.2.2.2) s1.1 s1.2.1 (gq s1.2.1 i)).2 i, (tcS 3 (lat q.2.2.2.1 3) s1).2.2) else inS (q.2.2.2.2.2) (lat q.2.2.2.1 3) (s.2.1.length - (i + 1).toNat) (i + 1).toNat (tcS 3 (lat q.2.2.2.1 3) s1)) else inS (q.2.2.2.2.2) (lat q.2.2.2.1 3) (s.2.1.length - (i + 1).toNat) (i + 1).toNat s1 := by
                          rw [show s.2.1.length - i.toNat = (s.2.1.length - (i + 1).toNat) + 1 by omega, show (i + 1).toNat = i.toNat + 1 by omega]
                          have en : ((i.toNat : Nat) : Int) = i := by omega
                          show (if inC _ s1 ((i.toNat : Nat) : Int) = true then (if _ then inS _ _ _ _ ((slO _ s1.1 s1.2.1 (gq s1.2.1 ((i.toNat : Nat) : Int))).1, awayG (slO _ s1.1 s1.2.1 (gq s1.2.1 ((i.toNat : Nat) : Int))).2 ((i.toNat : Nat) : Int), _) else _) else _) = _
                          rw [en]
                        rw [e6] at q9
                        rw [if_pos hic] at q9
                        have et := tkn_01 (lat s1.2.2.1 3 + 1) (lat q.2.2.2.1 3)
                        have hc9 : cBd (tcS 3 (lat q.2.2.2.1 3) s1).2.2.1 (2000 + (i + 1)) := (tcS_c q5 (by omega) (by omega)).up (by omega)
                        have ht9 : cBd (tcS 3 (lat q.2.2.2.1 3) s1).2.2.2 (2000 + (i + 1)) := (tcS_t q6 (by omega) (by omega)).up (by omega)
                        have el9 : lat s1.2.2.1 3 + 1 = lat (tcS 3 (lat q.2.2.2.1 3) s1).2.2.1 3 := (bump_at (by omega) (by rw [q2.2.2.2.1.1]; omega)).symm
                        rw [el9]
                        have hl9 : (awayG (slO (q.2.2.2.2.2) s1.1 s1.2.1 (gq s1.2.1 i)).2 i).length = s1.2.1.length := by
                          have := (inS_h (m := 1) hwy 1 i.toNat s1 (by omega) q2.2.2.2.2.1).2.1
                          have e : inS (q.2.2.2.2.2) 1 1 i.toNat s1 = if inC (q.2.2.2.2.2) s1 ((i.toNat : Nat) : Int) = true then (if tkn (lat s1.2.2.1 3 + 1) 1 = 1 then ((slO (q.2.2.2.2.2) s1.1 s1.2.1 (gq s1.2.1 ((i.toNat : Nat) : Int))).1, awayG (slO (q.2.2.2.2.2) s1.1 s1.2.1 (gq s1.2.1 ((i.toNat : Nat) : Int))).2 ((i.toNat : Nat) : Int), (tcS 3 1 s1).2.2) else tcS 3 1 s1) else s1 := rfl
                          rw [e, show ((i.toNat : Nat) : Int) = i by omega, if_pos hic, if_pos (by unfold tkn; rw [if_pos ⟨by omega, by omega⟩])] at this
                          exact this
                        exact ih (i + 1) _ _ _ ((slO (q.2.2.2.2.2) s1.1 s1.2.1 (gq s1.2.1 i)).1, awayG (slO (q.2.2.2.2.2) s1.1 s1.2.1 (gq s1.2.1 i)).2 i, (tcS 3 (lat q.2.2.2.1 3) s1).2.2) _ _ (by omega) (by omega) (by omega) hw3 ((q3.trans hf2.wk).trans hf3) (hl9.trans q4) hc9 ht9 q7.bmp (fun z => by omega) (fun z => by rw [q9 z, if_pos (by omega)])
                · refine gX_aloadn dX12_doInto_99 rfl ?_
                  refine gX_bipush dX12_doInto_100 (by decide) ⟨by decide, by decide⟩ ?_
                  refine gX_iconst dX12_doInto_102 ⟨by decide, by decide⟩ ?_
                  refine gX_aloadn dX12_doInto_103 rfl ?_
                  refine gX_gR 7 dX12_doInto_104 fdX12_28 rfl rfl hM.1 (mR7 hM) ?_
                  refine gX_iload dX12_doInto_107 rfl ?_
                  refine gX_iald dX12_doInto_109 (mA7 hM) (by omega) (by omega) ?_
                  refine gX_virt (J := iX12_lemmaSize) (av := [gi 10, gi (-1), gi (V1 782 (200 + i))]) (a := 775) (st := [gi ((s1.1.length : Int) + ((gq s1.2.1 i).2.2.2.2.2.length : Int))]) dX12_doInto_110 lkX12_362 kX12_lemmaSize vX12_lemmaSize (gFit_m (by decide)) hM.1 rfl rfl (Nat.le_of_ble_eq_true rfl) (Nat.zero_le _) (Nat.zero_le _) rfl ?_
                  refine m_lemmaSizeE hM ⟨by omega, by omega⟩ q2.1 q2.2.1 q0 (by omega) (q2.spo q0 (by omega) ho9) (onT_1.mp ho9).2 ?_
                  show gX l E _ 113 [some (ga 775), some (gi h), some (gi (lat q.2.2.2.1 3)), some (gi q.2.2.2.2.2), some (gi (lat s1.2.2.1 3)), some (gi i), some (gi (200 + i)), j7] [gi (lml (gq s1.2.1 i)), gi ((s1.1.length : Int) + ((gq s1.2.1 i).2.2.2.2.2.length : Int))] (K, R, V1) _ _
                  refine gX_goto (tgt := 117) dX12_doInto_113 (by decide) ?_
                  refine gX_isub dX12_doInto_117 ⟨by omega, by omega⟩ ?_
                  refine gX_istore dX12_doInto_118 (show (7 : Nat) < 8 from by decide) (ls2 := [some (ga 775), some (gi h), some (gi (lat q.2.2.2.1 3)), some (gi q.2.2.2.2.2), some (gi (lat s1.2.2.1 3)), some (gi i), some (gi (200 + i)), some (gi (((s1.1.length : Int) + ((gq s1.2.1 i).2.2.2.2.2.length : Int)) - (lml (gq s1.2.1 i))))]) rfl ?_
                  refine gX_iload dX12_doInto_120 rfl ?_
                  refine gX_iload dX12_doInto_122 rfl ?_
                  refine gX_bipush dX12_doInto_124 (by decide) ⟨by decide, by decide⟩ ?_
                  refine gX_icmpgt (tgt := 133) dX12_doInto_126 (by decide) (fun b12 => ?_) (fun b12 => ?_)
                  · refine gX_iconst dX12_doInto_133 ⟨by decide, by decide⟩ ?_
                    refine gX_iadd dX12_doInto_134 ⟨by omega, by omega⟩ ?_
                    refine gX_istore dX12_doInto_135 (show (4 : Nat) < 8 from by decide) (ls2 := [some (ga 775), some (gi h), some (gi (lat q.2.2.2.1 3)), some (gi q.2.2.2.2.2), some (gi ((lat s1.2.2.1 3) + 0)), some (gi i), some (gi (200 + i)), some (gi (((s1.1.length : Int) + ((gq s1.2.1 i).2.2.2.2.2.length : Int)) - (lml (gq s1.2.1 i))))]) rfl ?_
                    refine gX_iload dX12_doInto_137 rfl ?_
                    refine gX_bipush dX12_doInto_139 (by decide) ⟨by decide, by decide⟩ ?_
                    refine gX_icmpgt (tgt := 162) dX12_doInto_141 (by decide) (fun b13 => ?_) (fun b13 => ?_)
                    · refine gX_iinc dX12_doInto_162 rfl (show (5 : Nat) < 8 from by decide) ⟨by omega, by omega⟩ (ls2 := [some (ga 775), some (gi h), some (gi (lat q.2.2.2.1 3)), some (gi q.2.2.2.2.2), some (gi ((lat s1.2.2.1 3) + 0)), some (gi (i + 1)), some (gi (200 + i)), some (gi (((s1.1.length : Int) + ((gq s1.2.1 i).2.2.2.2.2.length : Int)) - (lml (gq s1.2.1 i))))]) rfl ?_
                      refine gX_goto (tgt := 25) dX12_doInto_165 (by decide) ?_
                      have e6 : inS (q.2.2.2.2.2) (lat q.2.2.2.1 3) (s.2.1.length - i.toNat) i.toNat s1 = if inC (q.2.2.2.2.2) s1 i = true then (if tkn (lat s1.2.2.1 3 + 1) (lat q.2.2.2.1 3) = 1 then inS (q.2.2.2.2.2) (lat q.2.2.2.1 3) (s.2.1.length - (i + 1).toNat) (i + 1).toNat ((slO (q.2.2.2.2.2) s1.1 s1.2.1 (gq s1.2.1 i)).1, awayG (slO (q.2.2.2.2.2) s1.1 s1.2.1 (gq s1.2.1 i)).2 i, (tcS 3 (lat q.2.2.2.1 3) s1).2.2) else inS (q.2.2.2.2.2) (lat q.2.2.2.1 3) (s.2.1.length - (i + 1).toNat) (i + 1).toNat (tcS 3 (lat q.2.2.2.1 3) s1)) else inS (q.2.2.2.2.2) (lat q.2.2.2.1 3) (s.2.1.length - (i + 1).toNat) (i + 1).toNat s1 := by
                        rw [show s.2.1.length - i.toNat = (s.2.1.length - (i + 1).toNat) + 1 by omega, show (i + 1).toNat = i.toNat + 1 by omega]
                        have en : ((i.toNat : Nat) : Int) = i := by omega
                        show (if inC _ s1 ((i.toNat : Nat) : Int) = true then (if _ then inS _ _ _ _ ((slO _ s1.1 s1.2.1 (gq s1.2.1 ((i.toNat : Nat) : Int))).1, awayG (slO _ s1.1 s1.2.1 (gq s1.2.1 ((i.toNat : Nat) : Int))).2 ((i.toNat : Nat) : Int), _) else _) else _) = _
                        rw [en]
                      rw [e6] at q9
                      have ec : ¬ inC (q.2.2.2.2.2) s1 i = true := fun z => by
                        obtain ⟨y1, y2, y3⟩ := inC_of z
                        have y4 := onT_1.mp y1
                        unfold slZ at y3
                        first
                        | omega
                        | (rw [if_pos (by assumption)] at y3; omega)
                        | (rw [if_neg (by assumption)] at y3; omega)
                      try rw [show lat s1.2.2.1 3 + 0 = lat s1.2.2.1 3 by omega]
                      exact ih (i + 1) _ _ _ s1 _ _ (by omega) (by omega) (by omega) q2 q3 q4 (q5.up (by omega)) (q6.up (by omega)) q7 (fun z => by omega) (fun z => by rw [q9 z, if_neg ec])
                    · have hic : inC (q.2.2.2.2.2) s1 i = true := by exfalso; omega
                      refine gX_aloadn dX12_doInto_144 rfl ?_
                      refine gX_iconst dX12_doInto_145 ⟨by decide, by decide⟩ ?_
                      refine gX_iload dX12_doInto_146 rfl ?_
                      refine gX_iloadn dX12_doInto_148 rfl ?_
                      refine gX_virt (J := iX12_isTaken) (av := [gi 3, gi ((lat s1.2.2.1 3) + 0), gi (lat q.2.2.2.1 3)]) (a := 775) (st := []) dX12_doInto_149 lkX12_342 kX12_isTaken vX12_isTaken (gFit_m (by decide)) hM.1 rfl rfl (Nat.le_of_ble_eq_true rfl) (Nat.zero_le _) (Nat.zero_le _) rfl ?_
                      refine m_isTakenW hM q2 (by omega) (by omega) (by omega) (by omega) (q5.up (by omega)) (q6.up (by omega)) (fun V2 hw2 hf2 => ?_)
                      show gX l E _ 152 [some (ga 775), some (gi h), some (gi (lat q.2.2.2.1 3)), some (gi q.2.2.2.2.2), some (gi ((lat s1.2.2.1 3) + 0)), some (gi i), some (gi (200 + i)), some (gi (((s1.1.length : Int) + ((gq s1.2.1 i).2.2.2.2.2.length : Int)) - (lml (gq s1.2.1 i))))] [gi (tkn (lat s1.2.2.1 3 + 1) (lat q.2.2.2.1 3))] (K, R, V2) _ _
                      refine gX_ifeq (tgt := 162) dX12_doInto_152 (by decide) (fun b14 => ?_) (fun b14 => ?_)
                      · refine gX_iinc dX12_doInto_162 rfl (show (5 : Nat) < 8 from by decide) ⟨by omega, by omega⟩ (ls2 := [some (ga 775), some (gi h), some (gi (lat q.2.2.2.1 3)), some (gi q.2.2.2.2.2), some (gi ((lat s1.2.2.1 3) + 0)), some (gi (i + 1)), some (gi (200 + i)), some (gi (((s1.1.length : Int) + ((gq s1.2.1 i).2.2.2.2.2.length : Int)) - (lml (gq s1.2.1 i))))]) rfl ?_
                        refine gX_goto (tgt := 25) dX12_doInto_165 (by decide) ?_
                        exfalso
                        omega
                      · refine gX_aloadn dX12_doInto_155 rfl ?_
                        refine gX_iload dX12_doInto_156 rfl ?_
                        refine gX_iloadn dX12_doInto_158 rfl ?_
                        refine gX_virt (J := iX12_slips) (av := [gi i, gi q.2.2.2.2.2]) (a := 775) (st := []) dX12_doInto_159 lkX12_368 kX12_slips vX12_slips (gFit_m (by decide)) hM.1 rfl rfl (Nat.le_of_ble_eq_true rfl) (Nat.zero_le _) (Nat.zero_le _) rfl ?_
                        refine m_slips (s := tcS 3 (lat q.2.2.2.1 3) s1) hM hw2 hwy q0 (by show i < (s1.2.1.length : Int); omega) hic (fun V3 hw3 hf3 => ?_)
                        show gX l E _ 162 [some (ga 775), some (gi h), some (gi (lat q.2.2.2.1 3)), some (gi q.2.2.2.2.2), some (gi ((lat s1.2.2.1 3) + 0)), some (gi i), some (gi (200 + i)), some (gi (((s1.1.length : Int) + ((gq s1.2.1 i).2.2.2.2.2.length : Int)) - (lml (gq s1.2.1 i))))] [] (K, R, V3) _ _
                        refine gX_iinc dX12_doInto_162 rfl (show (5 : Nat) < 8 from by decide) ⟨by omega, by omega⟩ (ls2 := [some (ga 775), some (gi h), some (gi (lat q.2.2.2.1 3)), some (gi q.2.2.2.2.2), some (gi ((lat s1.2.2.1 3) + 0)), some (gi (i + 1)), some (gi (200 + i)), some (gi (((s1.1.length : Int) + ((gq s1.2.1 i).2.2.2.2.2.length : Int)) - (lml (gq s1.2.1 i))))]) rfl ?_
                        refine gX_goto (tgt := 25) dX12_doInto_165 (by decide) ?_
                        exfalso
                        omega
                  · refine gX_iconst dX12_doInto_129 ⟨by decide, by decide⟩ ?_
                    refine gX_goto (tgt := 134) dX12_doInto_130 (by decide) ?_
                    refine gX_iadd dX12_doInto_134 ⟨by omega, by omega⟩ ?_
                    refine gX_istore dX12_doInto_135 (show (4 : Nat) < 8 from by decide) (ls2 := [some (ga 775), some (gi h), some (gi (lat q.2.2.2.1 3)), some (gi q.2.2.2.2.2), some (gi ((lat s1.2.2.1 3) + 1)), some (gi i), some (gi (200 + i)), some (gi (((s1.1.length : Int) + ((gq s1.2.1 i).2.2.2.2.2.length : Int)) - (lml (gq s1.2.1 i))))]) rfl ?_
                    refine gX_iload dX12_doInto_137 rfl ?_
                    refine gX_bipush dX12_doInto_139 (by decide) ⟨by decide, by decide⟩ ?_
                    refine gX_icmpgt (tgt := 162) dX12_doInto_141 (by decide) (fun b15 => ?_) (fun b15 => ?_)
                    · refine gX_iinc dX12_doInto_162 rfl (show (5 : Nat) < 8 from by decide) ⟨by omega, by omega⟩ (ls2 := [some (ga 775), some (gi h), some (gi (lat q.2.2.2.1 3)), some (gi q.2.2.2.2.2), some (gi ((lat s1.2.2.1 3) + 1)), some (gi (i + 1)), some (gi (200 + i)), some (gi (((s1.1.length : Int) + ((gq s1.2.1 i).2.2.2.2.2.length : Int)) - (lml (gq s1.2.1 i))))]) rfl ?_
                      refine gX_goto (tgt := 25) dX12_doInto_165 (by decide) ?_
                      exfalso
                      omega
                    · have hic : inC (q.2.2.2.2.2) s1 i = true := by
                        unfold inC
                        rw [decide_eq_true (show onT (gq s1.2.1 i) = 1 from onT_1.mpr ⟨by omega, by omega⟩), decide_eq_true (show (gq s1.2.1 i).1 = 0 by assumption), decide_eq_true (show (s1.1.length : Int) - (if q.2.2.2.2.2 = 2 then lml (gq s1.2.1 i) else 0) + (gq s1.2.1 i).2.2.2.2.2.length ≤ 40 by first | (rw [if_pos (by assumption)]; omega) | (rw [if_neg (by assumption)]; omega))]
                        rfl
                      refine gX_aloadn dX12_doInto_144 rfl ?_
                      refine gX_iconst dX12_doInto_145 ⟨by decide, by decide⟩ ?_
                      refine gX_iload dX12_doInto_146 rfl ?_
                      refine gX_iloadn dX12_doInto_148 rfl ?_
                      refine gX_virt (J := iX12_isTaken) (av := [gi 3, gi ((lat s1.2.2.1 3) + 1), gi (lat q.2.2.2.1 3)]) (a := 775) (st := []) dX12_doInto_149 lkX12_342 kX12_isTaken vX12_isTaken (gFit_m (by decide)) hM.1 rfl rfl (Nat.le_of_ble_eq_true rfl) (Nat.zero_le _) (Nat.zero_le _) rfl ?_
                      refine m_isTakenW hM q2 (by omega) (by omega) (by omega) (by omega) (q5.up (by omega)) (q6.up (by omega)) (fun V2 hw2 hf2 => ?_)
                      show gX l E _ 152 [some (ga 775), some (gi h), some (gi (lat q.2.2.2.1 3)), some (gi q.2.2.2.2.2), some (gi ((lat s1.2.2.1 3) + 1)), some (gi i), some (gi (200 + i)), some (gi (((s1.1.length : Int) + ((gq s1.2.1 i).2.2.2.2.2.length : Int)) - (lml (gq s1.2.1 i))))] [gi (tkn (lat s1.2.2.1 3 + 1) (lat q.2.2.2.1 3))] (K, R, V2) _ _
                      refine gX_ifeq (tgt := 162) dX12_doInto_152 (by decide) (fun b16 => ?_) (fun b16 => ?_)
                      · refine gX_iinc dX12_doInto_162 rfl (show (5 : Nat) < 8 from by decide) ⟨by omega, by omega⟩ (ls2 := [some (ga 775), some (gi h), some (gi (lat q.2.2.2.1 3)), some (gi q.2.2.2.2.2), some (gi ((lat s1.2.2.1 3) + 1)), some (gi (i + 1)), some (gi (200 + i)), some (gi (((s1.1.length : Int) + ((gq s1.2.1 i).2.2.2.2.2.length : Int)) - (lml (gq s1.2.1 i))))]) rfl ?_
                        refine gX_goto (tgt := 25) dX12_doInto_165 (by decide) ?_
                        have e6 : inS (q.2.2.2.2.2) (lat q.2.2.2.1 3) (s.2.1.length - i.toNat) i.toNat s1 = if inC (q.2.2.2.2.2) s1 i = true then (if tkn (lat s1.2.2.1 3 + 1) (lat q.2.2.2.1 3) = 1 then inS (q.2.2.2.2.2) (lat q.2.2.2.1 3) (s.2.1.length - (i + 1).toNat) (i + 1).toNat ((slO (q.2.2.2.2.2) s1.1 s1.2.1 (gq s1.2.1 i)).1, awayG (slO (q.2.2.2.2.2) s1.1 s1.2.1 (gq s1.2.1 i)).2 i, (tcS 3 (lat q.2.2.2.1 3) s1).2.2) else inS (q.2.2.2.2.2) (lat q.2.2.2.1 3) (s.2.1.length - (i + 1).toNat) (i + 1).toNat (tcS 3 (lat q.2.2.2.1 3) s1)) else inS (q.2.2.2.2.2) (lat q.2.2.2.1 3) (s.2.1.length - (i + 1).toNat) (i + 1).toNat s1 := by
                          rw [show s.2.1.length - i.toNat = (s.2.1.length - (i + 1).toNat) + 1 by omega, show (i + 1).toNat = i.toNat + 1 by omega]
                          have en : ((i.toNat : Nat) : Int) = i := by omega
                          show (if inC _ s1 ((i.toNat : Nat) : Int) = true then (if _ then inS _ _ _ _ ((slO _ s1.1 s1.2.1 (gq s1.2.1 ((i.toNat : Nat) : Int))).1, awayG (slO _ s1.1 s1.2.1 (gq s1.2.1 ((i.toNat : Nat) : Int))).2 ((i.toNat : Nat) : Int), _) else _) else _) = _
                          rw [en]
                        rw [e6] at q9
                        rw [if_pos hic] at q9
                        have et := tkn_01 (lat s1.2.2.1 3 + 1) (lat q.2.2.2.1 3)
                        have hc9 : cBd (tcS 3 (lat q.2.2.2.1 3) s1).2.2.1 (2000 + (i + 1)) := (tcS_c q5 (by omega) (by omega)).up (by omega)
                        have ht9 : cBd (tcS 3 (lat q.2.2.2.1 3) s1).2.2.2 (2000 + (i + 1)) := (tcS_t q6 (by omega) (by omega)).up (by omega)
                        have el9 : lat s1.2.2.1 3 + 1 = lat (tcS 3 (lat q.2.2.2.1 3) s1).2.2.1 3 := (bump_at (by omega) (by rw [q2.2.2.2.1.1]; omega)).symm
                        rw [el9]
                        exact ih (i + 1) _ _ _ (tcS 3 (lat q.2.2.2.1 3) s1) _ _ (by omega) (by omega) (by omega) hw2 (q3.trans hf2.wk) q4 hc9 ht9 q7.bmp (fun z => by omega) (fun z => by rw [q9 z, if_neg (by omega)])
                      · refine gX_aloadn dX12_doInto_155 rfl ?_
                        refine gX_iload dX12_doInto_156 rfl ?_
                        refine gX_iloadn dX12_doInto_158 rfl ?_
                        refine gX_virt (J := iX12_slips) (av := [gi i, gi q.2.2.2.2.2]) (a := 775) (st := []) dX12_doInto_159 lkX12_368 kX12_slips vX12_slips (gFit_m (by decide)) hM.1 rfl rfl (Nat.le_of_ble_eq_true rfl) (Nat.zero_le _) (Nat.zero_le _) rfl ?_
                        refine m_slips (s := tcS 3 (lat q.2.2.2.1 3) s1) hM hw2 hwy q0 (by show i < (s1.2.1.length : Int); omega) hic (fun V3 hw3 hf3 => ?_)
                        show gX l E _ 162 [some (ga 775), some (gi h), some (gi (lat q.2.2.2.1 3)), some (gi q.2.2.2.2.2), some (gi ((lat s1.2.2.1 3) + 1)), some (gi i), some (gi (200 + i)), some (gi (((s1.1.length : Int) + ((gq s1.2.1 i).2.2.2.2.2.length : Int)) - (lml (gq s1.2.1 i))))] [] (K, R, V3) _ _
                        refine gX_iinc dX12_doInto_162 rfl (show (5 : Nat) < 8 from by decide) ⟨by omega, by omega⟩ (ls2 := [some (ga 775), some (gi h), some (gi (lat q.2.2.2.1 3)), some (gi q.2.2.2.2.2), some (gi ((lat s1.2.2.1 3) + 1)), some (gi (i + 1)), some (gi (200 + i)), some (gi (((s1.1.length : Int) + ((gq s1.2.1 i).2.2.2.2.2.length : Int)) - (lml (gq s1.2.1 i))))]) rfl ?_
                        refine gX_goto (tgt := 25) dX12_doInto_165 (by decide) ?_
                        have e6 : inS (q.2.2.2.2.2) (lat q.2.2.2.1 3) (s.2.1.length - i.toNat) i.toNat s1 = if inC (q.2.2.2.2.2) s1 i = true then (if tkn (lat s1.2.2.1 3 + 1) (lat q.2.2.2.1 3) = 1 then inS (q.2.2.2.2.2) (lat q.2.2.2.1 3) (s.2.1.length - (i + 1).toNat) (i + 1).toNat ((slO (q.2.2.2.2.2) s1.1 s1.2.1 (gq s1.2.1 i)).1, awayG (slO (q.2.2.2.2.2) s1.1 s1.2.1 (gq s1.2.1 i)).2 i, (tcS 3 (lat q.2.2.2.1 3) s1).2.2) else inS (q.2.2.2.2.2) (lat q.2.2.2.1 3) (s.2.1.length - (i + 1).toNat) (i + 1).toNat (tcS 3 (lat q.2.2.2.1 3) s1)) else inS (q.2.2.2.2.2) (lat q.2.2.2.1 3) (s.2.1.length - (i + 1).toNat) (i + 1).toNat s1 := by
                          rw [show s.2.1.length - i.toNat = (s.2.1.length - (i + 1).toNat) + 1 by omega, show (i + 1).toNat = i.toNat + 1 by omega]
                          have en : ((i.toNat : Nat) : Int) = i := by omega
                          show (if inC _ s1 ((i.toNat : Nat) : Int) = true then (if _ then inS _ _ _ _ ((slO _ s1.1 s1.2.1 (gq s1.2.1 ((i.toNat : Nat) : Int))).1, awayG (slO _ s1.1 s1.2.1 (gq s1.2.1 ((i.toNat : Nat) : Int))).2 ((i.toNat : Nat) : Int), _) else _) else _) = _
                          rw [en]
                        rw [e6] at q9
                        rw [if_pos hic] at q9
                        have et := tkn_01 (lat s1.2.2.1 3 + 1) (lat q.2.2.2.1 3)
                        have hc9 : cBd (tcS 3 (lat q.2.2.2.1 3) s1).2.2.1 (2000 + (i + 1)) := (tcS_c q5 (by omega) (by omega)).up (by omega)
                        have ht9 : cBd (tcS 3 (lat q.2.2.2.1 3) s1).2.2.2 (2000 + (i + 1)) := (tcS_t q6 (by omega) (by omega)).up (by omega)
                        have el9 : lat s1.2.2.1 3 + 1 = lat (tcS 3 (lat q.2.2.2.1 3) s1).2.2.1 3 := (bump_at (by omega) (by rw [q2.2.2.2.1.1]; omega)).symm
                        rw [el9]
                        have hl9 : (awayG (slO (q.2.2.2.2.2) s1.1 s1.2.1 (gq s1.2.1 i)).2 i).length = s1.2.1.length := by
                          have := (inS_h (m := 1) hwy 1 i.toNat s1 (by omega) q2.2.2.2.2.1).2.1
                          have e : inS (q.2.2.2.2.2) 1 1 i.toNat s1 = if inC (q.2.2.2.2.2) s1 ((i.toNat : Nat) : Int) = true then (if tkn (lat s1.2.2.1 3 + 1) 1 = 1 then ((slO (q.2.2.2.2.2) s1.1 s1.2.1 (gq s1.2.1 ((i.toNat : Nat) : Int))).1, awayG (slO (q.2.2.2.2.2) s1.1 s1.2.1 (gq s1.2.1 ((i.toNat : Nat) : Int))).2 ((i.toNat : Nat) : Int), (tcS 3 1 s1).2.2) else tcS 3 1 s1) else s1 := rfl
                          rw [e, show ((i.toNat : Nat) : Int) = i by omega, if_pos hic, if_pos (by unfold tkn; rw [if_pos ⟨by omega, by omega⟩])] at this
                          exact this
                        exact ih (i + 1) _ _ _ ((slO (q.2.2.2.2.2) s1.1 s1.2.1 (gq s1.2.1 i)).1, awayG (slO (q.2.2.2.2.2) s1.1 s1.2.1 (gq s1.2.1 i)).2 i, (tcS 3 (lat q.2.2.2.1 3) s1).2.2) _ _ (by omega) (by omega) (by omega) hw3 ((q3.trans hf2.wk).trans hf3) (hl9.trans q4) hc9 ht9 q7.bmp (fun z => by omega) (fun z => by rw [q9 z, if_pos (by omega)])
  refine gX_aloadn dX12_doInto_0 rfl ?_
  refine gX_gR 33 dX12_doInto_1 fdX12_77 rfl rfl hM.1 (mR33 hM) ?_
  refine gX_bipush dX12_doInto_4 (by decide) ⟨by decide, by decide⟩ ?_
  refine gX_iloadn dX12_doInto_6 rfl ?_
  refine gX_imul dX12_doInto_7 ⟨by omega, by omega⟩ ?_
  refine gX_iconst dX12_doInto_8 ⟨by decide, by decide⟩ ?_
  refine gX_iadd dX12_doInto_9 ⟨by omega, by omega⟩ ?_
  refine gX_iald dX12_doInto_10 (mA33 hM) (by omega) (by omega) ?_
  rw [hm]
  refine gX_istoren dX12_doInto_11 (show (2 : Nat) < 8 from by decide) (ls2 := [some (ga 775), some (gi h), some (gi (lat q.2.2.2.1 3)), none, none, none, none, none]) rfl ?_
  refine gX_aloadn dX12_doInto_12 rfl ?_
  refine gX_gR 35 dX12_doInto_13 fdX12_83 rfl rfl hM.1 (mR35 hM) ?_
  refine gX_iloadn dX12_doInto_16 rfl ?_
  refine gX_iald dX12_doInto_17 (mA35 hM) (by omega) (by omega) ?_
  rw [hmw]
  refine gX_istoren dX12_doInto_18 (show (3 : Nat) < 8 from by decide) (ls2 := [some (ga 775), some (gi h), some (gi (lat q.2.2.2.1 3)), some (gi q.2.2.2.2.2), none, none, none, none]) rfl ?_
  refine gX_iconst dX12_doInto_19 ⟨by decide, by decide⟩ ?_
  refine gX_istore dX12_doInto_20 (show (4 : Nat) < 8 from by decide) (ls2 := [some (ga 775), some (gi h), some (gi (lat q.2.2.2.1 3)), some (gi q.2.2.2.2.2), some (gi 0), none, none, none]) rfl ?_
  refine gX_iconst dX12_doInto_22 ⟨by decide, by decide⟩ ?_
  refine gX_istore dX12_doInto_23 (show (5 : Nat) < 8 from by decide) (ls2 := [some (ga 775), some (gi h), some (gi (lat q.2.2.2.1 3)), some (gi q.2.2.2.2.2), some (gi 0), some (gi 0), none, none]) rfl ?_
  have z9 := fun bc bs => lp (s.2.1.length + 1) 0 none none V s bc bs (by omega) (by omega) (by omega) hs wkF.rf rfl (hc0.up (by omega)) (ht0.up (by omega)) (chK.rf 3 s) (fun _ => rfl) (fun _ => rfl)
  rw [hz] at z9
  exact z9 _ _
end MD28
