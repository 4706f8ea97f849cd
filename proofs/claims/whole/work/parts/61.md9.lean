/-! The reference: spans, glosses. Written by wip/whole/tools/mk_md9.py. -/
def spOk (tx : List Int) (gs : List gG) (g : Int) : Prop := lvQ (gq gs g) ∧ hoK gs (gq gs g).2.1 ∧ 0 ≤ (gq gs g).2.2.1 ∧ (gq gs g).2.2.1 ≤ (gq gs g).2.2.2.1 ∧ (gq gs g).2.2.2.1 < (rwL tx gs (gq gs g).2.1).length
/-- a book as it stands between the calls -/
def bkOk (tx : List Int) (gs : List gG) : Prop := (∀ q ∈ gs, lvQ q) ∧ lsW tx gs ∧ hoW gs ∧ wdW tx gs ∧ (∀ g : Int, 0 ≤ g → g < gs.length → dpt gs 5 g ≤ 4) ∧ rwW gs
theorem gq_in {gs : List gG} {g : Int} (h0 : 0 ≤ g) (h1 : g < gs.length) : gs[g.toNat]? = some (gq gs g) := by
  have h := gq_nat (gs := gs) (g := g.toNat) (by omega)
  rw [Int.toNat_of_nonneg h0] at h
  exact h
theorem gqM {gs : List gG} {g : Int} (h0 : 0 ≤ g) (h1 : g < gs.length) : gq gs g ∈ gs := List.mem_of_getElem? (gq_in h0 h1)
theorem hoW.at {gs : List gG} (h : hoW gs) {g : Int} (h0 : 0 ≤ g) (h1 : g < gs.length) : -1 ≤ (gq gs g).2.1 ∧ (gq gs g).2.1 < g := by
  have := h _ _ (gq_in h0 h1)
  omega
theorem bkOk.sp {tx : List Int} {gs : List gG} (h : bkOk tx gs) {g : Int} (h0 : 0 ≤ g) (h1 : g < gs.length) : spOk tx gs g := by
  have hm := gqM h0 h1
  have hl := h.2.1 _ hm
  have hh := h.2.2.1.at h0 h1
  refine ⟨h.1 _ hm, ?_, hl.1, hl.2.1, hl.2.2⟩
  by_cases e : (gq gs g).2.1 = -1
  · exact Or.inl e
  · exact Or.inr ⟨by omega, by omega, h.1 _ (gqM (by omega) (by omega))⟩
theorem rbIs.gl {V : Int → Int → Int} {b g : Int} {tx : List Int} {gs : List gG} (h : rbIs V b tx gs) (h0 : 0 ≤ g) (h1 : g < gs.length) : rgIs V (20 * b + g) (gq gs g) := by
  have h2 := h.2.2.2.2.2 g.toNat _ (gq_in h0 h1)
  rw [Int.toNat_of_nonneg h0] at h2
  exact h2
theorem rwL_p {tx : List Int} {gs : List gG} {x : Int} (h : 0 ≤ x ∧ x < gs.length) : rwL tx gs x = (gq gs x).2.2.2.2.2 := if_pos h
theorem rwL_n {tx : List Int} {gs : List gG} : rwL tx gs (-1) = tx := if_neg (by omega)
theorem rbIs.hs {V : Int → Int → Int} {b x : Int} {tx : List Int} {gs : List gG} (h : rbIs V b tx gs) (hx : -1 ≤ x ∧ x < gs.length) : hsA V b x = (rwL tx gs x).length ∧ (rwL tx gs x).length ≤ 40 ∧ (0 ≤ x → (rwL tx gs x).length ≤ 8) := by
  by_cases e : x = -1
  · subst e
    rw [rwL_n]
    exact ⟨(if_pos (by omega)).trans h.1, h.2.1, fun z => by omega⟩
  · have hg := h.gl (g := x) (by omega) hx.2
    rw [rwL_p ⟨by omega, hx.2⟩]
    exact ⟨(if_neg (by omega)).trans hg.2.2.1, by have := hg.2.2.2.1; omega, fun _ => hg.2.2.2.1⟩
theorem rgIs.rw {V : Int → Int → Int} {a i : Int} {q : gG} (h : rgIs V a q) (h0 : 0 ≤ i) (h1 : i < q.2.2.2.2.2.length) : V 784 (8 * a + i) = lat q.2.2.2.2.2 i := by
  have h2 := h.2.2.2.2 i.toNat q.2.2.2.2.2[i.toNat] (List.getElem?_eq_getElem (by omega))
  rw [Int.toNat_of_nonneg h0] at h2
  rw [h2, lat_in h0 (by omega)]
theorem rbIs.wa {V : Int → Int → Int} {b x i : Int} {tx : List Int} {gs : List gG} (h : rbIs V b tx gs) (hx : -1 ≤ x ∧ x < gs.length) (h0 : 0 ≤ i) (h1 : i < (rwL tx gs x).length) : wdA V b x i = lat (rwL tx gs x) i := by
  by_cases e : x = -1
  · subst e
    rw [rwL_n] at h1 ⊢
    exact (if_pos (by omega)).trans (h.wd h0 h1)
  · rw [rwL_p ⟨by omega, hx.2⟩] at h1 ⊢
    exact (if_neg (by omega)).trans ((h.gl (g := x) (by omega) hx.2).rw h0 h1)
theorem hoK.rg {gs : List gG} {x : Int} (h : hoK gs x) : -1 ≤ x ∧ x < gs.length := by
  rcases h with h | h <;> omega
/-- the spans of two are the same where they stand on the same words -/
theorem rsIs.eq {V : Int → Int → Int} {b : Int} {tx : List Int} {gs : List gG} (h : rsIs V b tx gs) {k g : Int} (k0 : 0 ≤ k) (k1 : k < gs.length) (g0 : 0 ≤ g) (g1 : g < gs.length) (hk : spOk tx gs k) (hg : spOk tx gs g) : V 782 (20 * b + k) = V 782 (20 * b + g) ↔ shr (gq gs k) (gq gs g) = 1 := by
  obtain ⟨lk, ok, fk, ek, zk⟩ := hk
  obtain ⟨lg, og, fg, eg, zg⟩ := hg
  have a1 := (h.1 k k0 k1 lk).2 _ (gq gs k).2.2.1 ok fk (by omega)
  have a2 := (h.1 g g0 g1 lg).2 _ (gq gs g).2.2.1 og fg (by omega)
  have b1 := (h.1 g g0 g1 lg).2 _ (gq gs k).2.2.1 ok fk (by omega)
  have b2 := (h.1 k k0 k1 lk).2 _ (gq gs g).2.2.1 og fg (by omega)
  have c1 := a1.mpr ⟨rfl, Int.le_refl _, ek⟩
  have c2 := a2.mpr ⟨rfl, Int.le_refl _, eg⟩
  unfold shr
  constructor
  · intro z
    have d1 := b1.mp (c1.trans z)
    have d2 := b2.mp (c2.trans z.symm)
    unfold cvQ at d1 d2
    exact if_pos ⟨by omega, by omega⟩
  · intro z
    have z2 : (gq gs k).2.1 = (gq gs g).2.1 ∧ (gq gs k).2.2.1 = (gq gs g).2.2.1 := Decidable.byContradiction fun y => by rw [if_neg y] at z; omega
    have d1 := b1.mpr ⟨z2.1, by omega, by omega⟩
    exact c1.symm.trans d1
-- depth
theorem dpt_st {gs : List gG} (h : hoW gs) : ∀ (n f : Nat) (g : Int), g < n → n ≤ f → dpt gs f g = dpt gs n g
  | 0, f, g, h0, h1 => by
    cases f with
    | zero => rfl
    | succ f =>
      show (if 0 ≤ g ∧ g < gs.length then _ else 0) = 0
      exact if_neg (by omega)
  | n + 1, f, g, h0, h1 => by
    cases f with
    | zero => omega
    | succ f =>
      show (if 0 ≤ g ∧ g < gs.length then 1 + dpt gs f (gq gs g).2.1 else 0) = (if 0 ≤ g ∧ g < gs.length then 1 + dpt gs n (gq gs g).2.1 else 0)
      by_cases c : 0 ≤ g ∧ g < gs.length
      · rw [if_pos c, if_pos c]
        have := h.at c.1 c.2
        rw [dpt_st h n f _ (by omega) (by omega)]
      · rw [if_neg c, if_neg c]
theorem dpt_nn {gs : List gG} : ∀ (f : Nat) (g : Int), 0 ≤ dpt gs f g ∧ dpt gs f g ≤ f
  | 0, _ => ⟨Int.le_refl _, Int.le_refl _⟩
  | f + 1, g => by
    have := dpt_nn (gs := gs) f (gq gs g).2.1
    show 0 ≤ (if 0 ≤ g ∧ g < gs.length then 1 + dpt gs f (gq gs g).2.1 else 0) ∧ (if 0 ≤ g ∧ g < gs.length then 1 + dpt gs f (gq gs g).2.1 else 0) ≤ _
    split <;> omega
theorem dpt_up {gs : List gG} : ∀ (f : Nat) (g : Int), dpt gs f g < f → dpt gs (f + 1) g = dpt gs f g
  | 0, g, h => absurd h (by have := (dpt_nn (gs := gs) 0 g).1; omega)
  | f + 1, g, h => by
    have e1 : dpt gs (f + 1) g = if 0 ≤ g ∧ g < gs.length then 1 + dpt gs f (gq gs g).2.1 else 0 := rfl
    have e2 : dpt gs (f + 1 + 1) g = if 0 ≤ g ∧ g < gs.length then 1 + dpt gs (f + 1) (gq gs g).2.1 else 0 := rfl
    rw [e2, e1]
    rw [e1] at h
    by_cases c : 0 ≤ g ∧ g < gs.length
    · rw [if_pos c] at h ⊢
      rw [if_pos c, dpt_up f _ (by omega)]
    · rw [if_neg c, if_neg c]
theorem dpt_5 {gs : List gG} {g : Int} (h : dpt gs 5 g ≤ 4) : ∀ k : Nat, dpt gs (5 + k) g = dpt gs 5 g
  | 0 => rfl
  | k + 1 => by
    have e := dpt_5 h k
    rw [show 5 + (k + 1) = (5 + k) + 1 by omega, dpt_up (5 + k) g (by omega), e]
/-- the depth, with as much fuel as there are glosses -/
theorem dpt_21 {gs : List gG} {g : Int} (h : dpt gs 5 g ≤ 4) : dpt gs 21 g = dpt gs 5 g := dpt_5 h 16
theorem dpt_h {gs : List gG} (h : hoW gs) (hl : gs.length ≤ 20) {g : Int} (h0 : 0 ≤ g) (h1 : g < gs.length) : dpt gs 21 g = 1 + dpt gs 21 (gq gs g).2.1 := by
  have e : dpt gs 21 g = if 0 ≤ g ∧ g < gs.length then 1 + dpt gs 20 (gq gs g).2.1 else 0 := rfl
  have := h.at h0 h1
  rw [e, if_pos ⟨h0, h1⟩, dpt_st h 20 21 _ (by omega) (by omega)]
theorem dpt_m {gs : List gG} : dpt gs 21 (-1) = 0 := if_neg (by omega)
section MD9
variable {l : Launch} {E : gE} {d : Nat} {K : List gK} {R V : Int → Int → Int} {a b i w g : Int} {Q : gQ} {S : gbS} {tx : List Int} {gs : List gG}
set_option maxRecDepth 4000 in
theorem m_firstOf (hM : mdK K R) (hb : 0 ≤ b ∧ b ≤ 10) (hk : rbIs V b tx gs) (hs : rsIs V b tx gs) (h0 : 0 ≤ g) (h1 : g < gs.length) (ho : spOk tx gs g) (hQ : Q (some (gi (gq gs g).2.2.1)) (K, R, V)) : gC l E (d + 2) iX12_firstOf [ga 775, gi b, gi ((gq gs g).2.1), gi (V 782 (20 * b + g))] (K, R, V) Q := by
  refine gC_of kX12_firstOf (ls := [some (ga 775), some (gi b), some (gi ((gq gs g).2.1)), some (gi (V 782 (20 * b + g))), none]) rfl (Nat.le_of_ble_eq_true rfl) ?_
  obtain ⟨lv, hh, hf, he, hz⟩ := ho
  have hrg := hh.rg
  obtain ⟨x1, x2, x3⟩ := hk.hs hrg
  have h20 := hk.2.2.2.2.1
  have lp : ∀ (jj : Nat) (i : Int) (bc bs : Nat), (gq gs g).2.2.1 - i < (jj : Int) → 0 ≤ i → i ≤ (gq gs g).2.2.1 → gX l E (gFm E (d + 2) iX12_firstOf Q) 3 [some (ga 775), some (gi b), some (gi ((gq gs g).2.1)), some (gi (V 782 (20 * b + g))), some (gi i)] [] (K, R, V) bc bs := by
    intro jj
    induction jj with
    | zero =>
      intro i bc bs hj q0 q1
      exfalso; omega
    | succ jj ih =>
      intro i bc bs hj q0 q1
      refine gX_aloadn dX12_firstOf_3 rfl ?_
      refine gX_iloadn dX12_firstOf_4 rfl ?_
      refine gX_iloadn dX12_firstOf_5 rfl ?_
      refine gX_iload dX12_firstOf_6 rfl ?_
      refine gX_virt (J := iX12_spanAt) (av := [gi b, gi ((gq gs g).2.1), gi i]) (a := 775) (st := []) dX12_firstOf_8 lkX12_308 kX12_spanAt vX12_spanAt (gFit_m (by decide)) hM.1 rfl rfl (Nat.le_of_ble_eq_true rfl) (Nat.zero_le _) (Nat.zero_le _) rfl ?_
      refine m_spanAt hM hb (by omega) ⟨by omega, by omega⟩ (fun z => by have := x3 z; omega) ?_
      show gX l E _ 11 [some (ga 775), some (gi b), some (gi ((gq gs g).2.1)), some (gi (V 782 (20 * b + g))), some (gi i)] [gi (spA V b (gq gs g).2.1 i)] (K, R, V) _ _
      have hsp := (hs.1 g h0 h1 lv).2 (gq gs g).2.1 i hh (by omega) (by omega)
      refine gX_iloadn dX12_firstOf_11 rfl ?_
      refine gX_icmpeq (tgt := 21) dX12_firstOf_12 (by decide) (fun w1 => ?_) (fun w1 => ?_)
      · refine gX_iload dX12_firstOf_21 rfl ?_
        refine gX_iret dX12_firstOf_23 (Or.inl rfl) ?_
        have hc := hsp.mp (by assumption)
        unfold cvQ at hc
        rw [show i = (gq gs g).2.2.1 by omega]
        exact hQ
      · refine gX_iinc dX12_firstOf_15 rfl (show (4 : Nat) < 5 from by decide) ⟨by omega, by omega⟩ (ls2 := [some (ga 775), some (gi b), some (gi ((gq gs g).2.1)), some (gi (V 782 (20 * b + g))), some (gi (i + 1))]) rfl ?_
        refine gX_goto (tgt := 3) dX12_firstOf_18 (by decide) ?_
        have hne : ¬ i = (gq gs g).2.2.1 := fun z => absurd (hsp.mpr ⟨rfl, by omega, by omega⟩) (by assumption)
        exact ih (i + 1) _ _ (by omega) (by omega) (by omega)
  refine gX_iconst dX12_firstOf_0 ⟨by decide, by decide⟩ ?_
  refine gX_istore dX12_firstOf_1 (show (4 : Nat) < 5 from by decide) (ls2 := [some (ga 775), some (gi b), some (gi ((gq gs g).2.1)), some (gi (V 782 (20 * b + g))), some (gi 0)]) rfl ?_
  exact lp ((gq gs g).2.2.1.toNat + 1) 0 _ _ (by omega) (by omega) (by omega)
set_option maxRecDepth 4000 in
theorem m_lemmaSize (hM : mdK K R) (hb : 0 ≤ b ∧ b ≤ 10) (hk : rbIs V b tx gs) (hs : rsIs V b tx gs) (h0 : 0 ≤ g) (h1 : g < gs.length) (ho : spOk tx gs g) (hQ : Q (some (gi (lml (gq gs g)))) (K, R, V)) : gC l E (d + 2) iX12_lemmaSize [ga 775, gi b, gi ((gq gs g).2.1), gi (V 782 (20 * b + g))] (K, R, V) Q := by
  refine gC_of kX12_lemmaSize (ls := [some (ga 775), some (gi b), some (gi ((gq gs g).2.1)), some (gi (V 782 (20 * b + g))), none, none]) rfl (Nat.le_of_ble_eq_true rfl) ?_
  obtain ⟨lv, hh, hf, he, hz⟩ := ho
  have hrg := hh.rg
  obtain ⟨x1, x2, x3⟩ := hk.hs hrg
  have h20 := hk.2.2.2.2.1
  have lp : ∀ (jj : Nat) (i : Int) (n : Int) (bc bs : Nat), ((rwL tx gs (gq gs g).2.1).length : Int) - i < (jj : Int) → 0 ≤ i → i ≤ ((rwL tx gs (gq gs g).2.1).length : Int) → n = max 0 (min i ((gq gs g).2.2.2.1 + 1) - (gq gs g).2.2.1) → gX l E (gFm E (d + 2) iX12_lemmaSize Q) 6 [some (ga 775), some (gi b), some (gi ((gq gs g).2.1)), some (gi (V 782 (20 * b + g))), some (gi n), some (gi i)] [] (K, R, V) bc bs := by
    intro jj
    induction jj with
    | zero =>
      intro i n bc bs hj q0 q1 q2
      exfalso; omega
    | succ jj ih =>
      intro i n bc bs hj q0 q1 q2
      refine gX_iload dX12_lemmaSize_6 rfl ?_
      refine gX_aloadn dX12_lemmaSize_8 rfl ?_
      refine gX_iloadn dX12_lemmaSize_9 rfl ?_
      refine gX_iloadn dX12_lemmaSize_10 rfl ?_
      refine gX_virt (J := iX12_hostSize) (av := [gi b, gi ((gq gs g).2.1)]) (a := 775) (st := [gi i]) dX12_lemmaSize_11 lkX12_194 kX12_hostSize vX12_hostSize (gFit_m (by decide)) hM.1 rfl rfl (Nat.le_of_ble_eq_true rfl) (Nat.zero_le _) (Nat.zero_le _) rfl ?_
      refine m_hostSize hM hb (by omega) ?_
      show gX l E _ 14 [some (ga 775), some (gi b), some (gi ((gq gs g).2.1)), some (gi (V 782 (20 * b + g))), some (gi n), some (gi i)] [gi (hsA V b (gq gs g).2.1), gi i] (K, R, V) _ _
      rw [x1]
      refine gX_icmpge (tgt := 45) dX12_lemmaSize_14 (by decide) (fun w1 => ?_) (fun w1 => ?_)
      · refine gX_iload dX12_lemmaSize_45 rfl ?_
        refine gX_iret dX12_lemmaSize_47 (Or.inl rfl) ?_
        have en : n = lml (gq gs g) := by unfold lml; omega
        rw [en]
        exact hQ
      · refine gX_iload dX12_lemmaSize_17 rfl ?_
        refine gX_aloadn dX12_lemmaSize_19 rfl ?_
        refine gX_iloadn dX12_lemmaSize_20 rfl ?_
        refine gX_iloadn dX12_lemmaSize_21 rfl ?_
        refine gX_iload dX12_lemmaSize_22 rfl ?_
        refine gX_virt (J := iX12_spanAt) (av := [gi b, gi ((gq gs g).2.1), gi i]) (a := 775) (st := [gi n]) dX12_lemmaSize_24 lkX12_308 kX12_spanAt vX12_spanAt (gFit_m (by decide)) hM.1 rfl rfl (Nat.le_of_ble_eq_true rfl) (Nat.zero_le _) (Nat.zero_le _) rfl ?_
        refine m_spanAt hM hb (by omega) ⟨by omega, by omega⟩ (fun z => by have := x3 z; omega) ?_
        show gX l E _ 27 [some (ga 775), some (gi b), some (gi ((gq gs g).2.1)), some (gi (V 782 (20 * b + g))), some (gi n), some (gi i)] [gi (spA V b (gq gs g).2.1 i), gi n] (K, R, V) _ _
        have hsp := (hs.1 g h0 h1 lv).2 (gq gs g).2.1 i hh (by omega) (by omega)
        refine gX_iloadn dX12_lemmaSize_27 rfl ?_
        refine gX_icmpne (tgt := 35) dX12_lemmaSize_28 (by decide) (fun w2 => ?_) (fun w2 => ?_)
        · refine gX_iconst dX12_lemmaSize_35 ⟨by decide, by decide⟩ ?_
          refine gX_iadd dX12_lemmaSize_36 ⟨by omega, by omega⟩ ?_
          refine gX_istore dX12_lemmaSize_37 (show (4 : Nat) < 6 from by decide) (ls2 := [some (ga 775), some (gi b), some (gi ((gq gs g).2.1)), some (gi (V 782 (20 * b + g))), some (gi (n + 0)), some (gi i)]) rfl ?_
          refine gX_iinc dX12_lemmaSize_39 rfl (show (5 : Nat) < 6 from by decide) ⟨by omega, by omega⟩ (ls2 := [some (ga 775), some (gi b), some (gi ((gq gs g).2.1)), some (gi (V 782 (20 * b + g))), some (gi (n + 0)), some (gi (i + 1))]) rfl ?_
          refine gX_goto (tgt := 6) dX12_lemmaSize_42 (by decide) ?_
          have hc : ¬ ((gq gs g).2.2.1 ≤ i ∧ i ≤ (gq gs g).2.2.2.1) := fun z => absurd (hsp.mpr ⟨rfl, z.1, z.2⟩) (by assumption)
          exact ih (i + 1) _ _ _ (by omega) (by omega) (by omega) (by omega)
        · refine gX_iconst dX12_lemmaSize_31 ⟨by decide, by decide⟩ ?_
          refine gX_goto (tgt := 36) dX12_lemmaSize_32 (by decide) ?_
          refine gX_iadd dX12_lemmaSize_36 ⟨by omega, by omega⟩ ?_
          refine gX_istore dX12_lemmaSize_37 (show (4 : Nat) < 6 from by decide) (ls2 := [some (ga 775), some (gi b), some (gi ((gq gs g).2.1)), some (gi (V 782 (20 * b + g))), some (gi (n + 1)), some (gi i)]) rfl ?_
          refine gX_iinc dX12_lemmaSize_39 rfl (show (5 : Nat) < 6 from by decide) ⟨by omega, by omega⟩ (ls2 := [some (ga 775), some (gi b), some (gi ((gq gs g).2.1)), some (gi (V 782 (20 * b + g))), some (gi (n + 1)), some (gi (i + 1))]) rfl ?_
          refine gX_goto (tgt := 6) dX12_lemmaSize_42 (by decide) ?_
          have hc := hsp.mp (by assumption)
          unfold cvQ at hc
          exact ih (i + 1) _ _ _ (by omega) (by omega) (by omega) (by omega)
  refine gX_iconst dX12_lemmaSize_0 ⟨by decide, by decide⟩ ?_
  refine gX_istore dX12_lemmaSize_1 (show (4 : Nat) < 6 from by decide) (ls2 := [some (ga 775), some (gi b), some (gi ((gq gs g).2.1)), some (gi (V 782 (20 * b + g))), some (gi 0), none]) rfl ?_
  refine gX_iconst dX12_lemmaSize_3 ⟨by decide, by decide⟩ ?_
  refine gX_istore dX12_lemmaSize_4 (show (5 : Nat) < 6 from by decide) (ls2 := [some (ga 775), some (gi b), some (gi ((gq gs g).2.1)), some (gi (V 782 (20 * b + g))), some (gi 0), some (gi 0)]) rfl ?_
  exact lp ((rwL tx gs (gq gs g).2.1).length + 1) 0 0 _ _ (by omega) (by omega) (by omega) (by omega)
set_option maxRecDepth 4000 in
theorem m_depth (hM : mdK K R) (hb : 0 ≤ b ∧ b ≤ 10) (hk : rbIs V b tx gs) (h0 : 0 ≤ g) (h1 : g < gs.length) (hw : hoW gs) (hd5 : dpt gs 5 g ≤ 4) (hQ : Q (some (gi (dpt gs 5 g))) (K, R, V)) : gC l E (d + 1) iX12_depth [ga 775, gi b, gi g] (K, R, V) Q := by
  refine gC_of kX12_depth (ls := [some (ga 775), some (gi b), some (gi g), none, none]) rfl (Nat.le_of_ble_eq_true rfl) ?_
  have h20 := hk.2.2.2.2.1
  have hgl0 := hk.gl h0 h1
  have hwa0 := hw.at h0 h1
  have hdh0 := dpt_h hw h20 h0 h1
  have lp : ∀ (jj : Nat) (h : Int) (n : Int) (bc bs : Nat), h + 1 < (jj : Int) → -1 ≤ h → h < gs.length → 1 ≤ n → n + dpt gs 21 h = dpt gs 21 g → gX l E (gFm E (d + 1) iX12_depth Q) 15 [some (ga 775), some (gi b), some (gi g), some (gi n), some (gi h)] [] (K, R, V) bc bs := by
    intro jj
    induction jj with
    | zero =>
      intro h n bc bs hj q0 q1 q2 q3
      exfalso; omega
    | succ jj ih =>
      intro h n bc bs hj q0 q1 q2 q3
      refine gX_iload dX12_depth_15 rfl ?_
      have hdn := dpt_nn (gs := gs) 21 h
      have hdg := dpt_nn (gs := gs) 21 g
      refine gX_iflt (tgt := 40) dX12_depth_17 (by decide) (fun w1 => ?_) (fun w1 => ?_)
      · refine gX_iloadn dX12_depth_40 rfl ?_
        refine gX_iret dX12_depth_41 (Or.inl rfl) ?_
        have eh : h = -1 := by omega
        subst eh
        rw [dpt_m] at q3
        rw [show n = dpt gs 5 g by rw [← dpt_21 hd5]; omega]
        exact hQ
      · have hgl := hk.gl (g := h) (by omega) (by omega)
        have hdh := dpt_h hw h20 (g := h) (by omega) (by omega)
        have hwa := hw.at (g := h) (by omega) (by omega)
        have hdn2 := dpt_nn (gs := gs) 21 (gq gs h).2.1
        refine gX_iinc dX12_depth_20 rfl (show (3 : Nat) < 5 from by decide) ⟨by omega, by omega⟩ (ls2 := [some (ga 775), some (gi b), some (gi g), some (gi (n + 1)), some (gi h)]) rfl ?_
        refine gX_aloadn dX12_depth_23 rfl ?_
        refine gX_gR 6 dX12_depth_24 fdX12_25 rfl rfl hM.1 (mR6 hM) ?_
        refine gX_bipush dX12_depth_27 (by decide) ⟨by decide, by decide⟩ ?_
        refine gX_iloadn dX12_depth_29 rfl ?_
        refine gX_imul dX12_depth_30 ⟨by omega, by omega⟩ ?_
        refine gX_iload dX12_depth_31 rfl ?_
        refine gX_iadd dX12_depth_33 ⟨by omega, by omega⟩ ?_
        refine gX_iald dX12_depth_34 (mA6 hM) (by omega) (by omega) ?_
        rw [hgl.2.1]
        refine gX_istore dX12_depth_35 (show (4 : Nat) < 5 from by decide) (ls2 := [some (ga 775), some (gi b), some (gi g), some (gi (n + 1)), some (gi ((gq gs h).2.1))]) rfl ?_
        refine gX_goto (tgt := 15) dX12_depth_37 (by decide) ?_
        exact ih (gq gs h).2.1 _ _ _ (by omega) (by omega) (by omega) (by omega) (by omega)
  refine gX_iconst dX12_depth_0 ⟨by decide, by decide⟩ ?_
  refine gX_istoren dX12_depth_1 (show (3 : Nat) < 5 from by decide) (ls2 := [some (ga 775), some (gi b), some (gi g), some (gi 1), none]) rfl ?_
  refine gX_aloadn dX12_depth_2 rfl ?_
  refine gX_gR 6 dX12_depth_3 fdX12_25 rfl rfl hM.1 (mR6 hM) ?_
  refine gX_bipush dX12_depth_6 (by decide) ⟨by decide, by decide⟩ ?_
  refine gX_iloadn dX12_depth_8 rfl ?_
  refine gX_imul dX12_depth_9 ⟨by omega, by omega⟩ ?_
  refine gX_iloadn dX12_depth_10 rfl ?_
  refine gX_iadd dX12_depth_11 ⟨by omega, by omega⟩ ?_
  refine gX_iald dX12_depth_12 (mA6 hM) (by omega) (by omega) ?_
  rw [hgl0.2.1]
  refine gX_istore dX12_depth_13 (show (4 : Nat) < 5 from by decide) (ls2 := [some (ga 775), some (gi b), some (gi g), some (gi 1), some (gi ((gq gs g).2.1))]) rfl ?_
  exact lp 22 (gq gs g).2.1 1 _ _ (by omega) (by omega) (by omega) (by omega) (by omega)
set_option maxRecDepth 4000 in
theorem m_placeIn (hM : mdK K R) (hb : 0 ≤ b ∧ b ≤ 10) (hk : rbIs V b tx gs) (hs : rsIs V b tx gs) (h0 : 0 ≤ g) (h1 : g < gs.length) (ho : ∀ g : Int, 0 ≤ g → g < gs.length → spOk tx gs g) (hQ : Q (some (gi (ordS gs g))) (K, R, V)) : gC l E (d + 1) iX12_placeIn [ga 775, gi b, gi g] (K, R, V) Q := by
  refine gC_of kX12_placeIn (ls := [some (ga 775), some (gi b), some (gi g), none, none]) rfl (Nat.le_of_ble_eq_true rfl) ?_
  have h20 := hk.2.2.2.2.1
  have lp : ∀ (jj : Nat) (k : Int) (n : Int) (bc bs : Nat), g - k < (jj : Int) → 0 ≤ k → k ≤ g → n = cntB (fun h => decide (shr (gq gs h) (gq gs g) = 1)) k.toNat → gX l E (gFm E (d + 1) iX12_placeIn Q) 5 [some (ga 775), some (gi b), some (gi g), some (gi n), some (gi k)] [] (K, R, V) bc bs := by
    intro jj
    induction jj with
    | zero =>
      intro k n bc bs hj q0 q1 q2
      exfalso; omega
    | succ jj ih =>
      intro k n bc bs hj q0 q1 q2
      refine gX_iload dX12_placeIn_5 rfl ?_
      refine gX_iloadn dX12_placeIn_7 rfl ?_
      refine gX_icmpge (tgt := 51) dX12_placeIn_8 (by decide) (fun w1 => ?_) (fun w1 => ?_)
      · refine gX_iloadn dX12_placeIn_51 rfl ?_
        refine gX_iret dX12_placeIn_52 (Or.inl rfl) ?_
        have en : n = ordS gs g := by unfold ordS; rw [q2, show k = g by omega]
        rw [en]
        exact hQ
      · have heq := hs.eq (k := k) (g := g) (by omega) (by omega) h0 h1 (ho k (by omega) (by omega)) (ho g h0 h1)
        have hcb := cntB_bd (fun h => decide (shr (gq gs h) (gq gs g) = 1)) k.toNat
        refine gX_iloadn dX12_placeIn_11 rfl ?_
        refine gX_aloadn dX12_placeIn_12 rfl ?_
        refine gX_gR 7 dX12_placeIn_13 fdX12_28 rfl rfl hM.1 (mR7 hM) ?_
        refine gX_bipush dX12_placeIn_16 (by decide) ⟨by decide, by decide⟩ ?_
        refine gX_iloadn dX12_placeIn_18 rfl ?_
        refine gX_imul dX12_placeIn_19 ⟨by omega, by omega⟩ ?_
        refine gX_iload dX12_placeIn_20 rfl ?_
        refine gX_iadd dX12_placeIn_22 ⟨by omega, by omega⟩ ?_
        refine gX_iald dX12_placeIn_23 (mA7 hM) (by omega) (by omega) ?_
        refine gX_aloadn dX12_placeIn_24 rfl ?_
        refine gX_gR 7 dX12_placeIn_25 fdX12_28 rfl rfl hM.1 (mR7 hM) ?_
        refine gX_bipush dX12_placeIn_28 (by decide) ⟨by decide, by decide⟩ ?_
        refine gX_iloadn dX12_placeIn_30 rfl ?_
        refine gX_imul dX12_placeIn_31 ⟨by omega, by omega⟩ ?_
        refine gX_iloadn dX12_placeIn_32 rfl ?_
        refine gX_iadd dX12_placeIn_33 ⟨by omega, by omega⟩ ?_
        refine gX_iald dX12_placeIn_34 (mA7 hM) (by omega) (by omega) ?_
        refine gX_icmpne (tgt := 42) dX12_placeIn_35 (by decide) (fun w2 => ?_) (fun w2 => ?_)
        · refine gX_iconst dX12_placeIn_42 ⟨by decide, by decide⟩ ?_
          refine gX_iadd dX12_placeIn_43 ⟨by omega, by omega⟩ ?_
          refine gX_istoren dX12_placeIn_44 (show (3 : Nat) < 5 from by decide) (ls2 := [some (ga 775), some (gi b), some (gi g), some (gi (n + 0)), some (gi k)]) rfl ?_
          refine gX_iinc dX12_placeIn_45 rfl (show (4 : Nat) < 5 from by decide) ⟨by omega, by omega⟩ (ls2 := [some (ga 775), some (gi b), some (gi g), some (gi (n + 0)), some (gi (k + 1))]) rfl ?_
          refine gX_goto (tgt := 5) dX12_placeIn_48 (by decide) ?_
          have eb : (k + 1).toNat = k.toNat + 1 := by omega
          have en : ((k.toNat : Nat) : Int) = k := by omega
          refine ih (k + 1) _ _ _ (by omega) (by omega) (by omega) ?_
          rw [eb, cntB_s, ← q2]
          show _ = n + (if decide (shr (gq gs ((k.toNat : Nat) : Int)) (gq gs g) = 1) = true then 1 else 0)
          rw [en]
          rw [if_neg (by rw [decide_eq_true_eq]; intro z; exact absurd (heq.mpr z) (by assumption))]
        · refine gX_iconst dX12_placeIn_38 ⟨by decide, by decide⟩ ?_
          refine gX_goto (tgt := 43) dX12_placeIn_39 (by decide) ?_
          refine gX_iadd dX12_placeIn_43 ⟨by omega, by omega⟩ ?_
          refine gX_istoren dX12_placeIn_44 (show (3 : Nat) < 5 from by decide) (ls2 := [some (ga 775), some (gi b), some (gi g), some (gi (n + 1)), some (gi k)]) rfl ?_
          refine gX_iinc dX12_placeIn_45 rfl (show (4 : Nat) < 5 from by decide) ⟨by omega, by omega⟩ (ls2 := [some (ga 775), some (gi b), some (gi g), some (gi (n + 1)), some (gi (k + 1))]) rfl ?_
          refine gX_goto (tgt := 5) dX12_placeIn_48 (by decide) ?_
          have eb : (k + 1).toNat = k.toNat + 1 := by omega
          have en : ((k.toNat : Nat) : Int) = k := by omega
          refine ih (k + 1) _ _ _ (by omega) (by omega) (by omega) ?_
          rw [eb, cntB_s, ← q2]
          show _ = n + (if decide (shr (gq gs ((k.toNat : Nat) : Int)) (gq gs g) = 1) = true then 1 else 0)
          rw [en]
          rw [if_pos (decide_eq_true (heq.mp (by assumption)))]
  refine gX_iconst dX12_placeIn_0 ⟨by decide, by decide⟩ ?_
  refine gX_istoren dX12_placeIn_1 (show (3 : Nat) < 5 from by decide) (ls2 := [some (ga 775), some (gi b), some (gi g), some (gi 0), none]) rfl ?_
  refine gX_iconst dX12_placeIn_2 ⟨by decide, by decide⟩ ?_
  refine gX_istore dX12_placeIn_3 (show (4 : Nat) < 5 from by decide) (ls2 := [some (ga 775), some (gi b), some (gi g), some (gi 0), some (gi 0)]) rfl ?_
  exact lp 21 0 0 _ _ (by omega) (by omega) (by omega) rfl
set_option maxRecDepth 4000 in
theorem m_isGloss (hM : mdK K R) (hb : 0 ≤ b ∧ b ≤ 10) (hk : rbIs V b tx gs) (hQ : Q (some (gi (b2i (inR g 0 ((gs.length : Int) - 1))))) (K, R, V)) : gC l E (d + 2) iX12_isGloss [ga 775, gi b, gi g] (K, R, V) Q := by
  refine gC_of kX12_isGloss (ls := [some (ga 775), some (gi b), some (gi g)]) rfl (Nat.le_of_ble_eq_true rfl) ?_
  have h20 := hk.2.2.2.2.1
  refine gX_iloadn dX12_isGloss_0 rfl ?_
  refine gX_i2l dX12_isGloss_1 ?_
  refine gX_lconst (x := 0) dX12_isGloss_2 (by decide) ⟨by decide, by decide⟩ ?_
  refine gX_aloadn dX12_isGloss_3 rfl ?_
  refine gX_gR 4 dX12_isGloss_4 fdX12_19 rfl rfl hM.1 (mR4 hM) ?_
  refine gX_iloadn dX12_isGloss_7 rfl ?_
  refine gX_iald dX12_isGloss_8 (mA4 hM) (by omega) (by omega) ?_
  rw [hk.2.2.2.1]
  refine gX_iconst dX12_isGloss_9 ⟨by decide, by decide⟩ ?_
  refine gX_isub dX12_isGloss_10 ⟨by omega, by omega⟩ ?_
  refine gX_i2l dX12_isGloss_11 ?_
  refine gX_stat (J := iX12_in) (av := [gl g, gl 0, gl ((gs.length : Int) - 1)]) (st := []) dX12_isGloss_12 lkX12_154 kX12_in sX12_in (gFit_m (by decide)) rfl (Nat.le_of_ble_eq_true rfl) (Nat.zero_le _) (Nat.zero_le _) rfl ?_
  refine m_in ?_
  show gX l E _ 15 [some (ga 775), some (gi b), some (gi g)] [gi (b2i (inR g 0 ((gs.length : Int) - 1)))] (K, R, V) _ _
  refine gX_iret dX12_isGloss_15 (Or.inr ⟨rfl, b2i_01 _⟩) ?_
  exact hQ
set_option maxRecDepth 4000 in
theorem m_gloss (hM : mdK K R) (hS : mdIs V S) (hO : ∀ b : Int, 0 ≤ b → b < S.1.length → bkOk (gbq S b).1 (gbq S b).2.1) (hQ : ∀ V', qFr V V' → Q (some (gi (aGloss S b g w))) (K, R, V')) : gC l E (d + 4) iX12_gloss [ga 775, gi b, gi g, gi w] (K, R, V) Q := by
  refine gC_of kX12_gloss (ls := [some (ga 775), some (gi b), some (gi g), some (gi w), none, none]) rfl (Nat.le_of_ble_eq_true rfl) ?_
  have hn0 := hS.1
  have hn1 := hS.2.1
  refine gX_aloadn dX12_gloss_0 rfl ?_
  refine gX_iloadn dX12_gloss_1 rfl ?_
  refine gX_virt (J := iX12_isBook) (av := [gi b]) (a := 775) (st := []) dX12_gloss_2 lkX12_371 kX12_isBook vX12_isBook (gFit_m (by decide)) hM.1 rfl rfl (Nat.le_of_ble_eq_true rfl) (Nat.zero_le _) (Nat.zero_le _) rfl ?_
  refine m_isBook hM hS.1 hS.2.1 ?_
  show gX l E _ 5 [some (ga 775), some (gi b), some (gi g), some (gi w), none, none] [gi (b2i (inR b 0 ((S.1.length : Int) - 1)))] (K, R, V) _ _
  refine gX_ifeq (tgt := 17) dX12_gloss_5 (by decide) (fun w1 => ?_) (fun w1 => ?_)
  · have w1 := inR_0 w1
    refine gX_sipush dX12_gloss_17 (by decide) ⟨by decide, by decide⟩ ?_
    by_cases hr9 : 0 ≤ b ∧ b < S.1.length
    · refine gX_iret dX12_gloss_20 (Or.inl rfl) ?_
      have ea : aGloss S b g w = -1001 := by
        unfold aGloss
        rw [if_pos hr9, if_neg (fun z => ?_)]
        first
        | omega
        | (have e9 : q = gbq S b := by assumption
           rw [← e9] at z
           omega)
      rw [ea] at hQ
      exact hQ V qFr.rf
    · refine gX_iret dX12_gloss_20 (Or.inl rfl) ?_
      have ea : aGloss S b g w = -1001 := by
        unfold aGloss
        rw [if_neg hr9]
      rw [ea] at hQ
      exact hQ V qFr.rf
  · have w1 := inR_1 w1
    have hr : 0 ≤ b ∧ b < S.1.length := ⟨by omega, by omega⟩
    obtain ⟨q, eq⟩ : ∃ q, q = gbq S b := ⟨_, rfl⟩
    have hk := hS.2.2.2.1 b hr.1 hr.2
    have hok := hO b hr.1 hr.2
    rw [← eq] at hk hok
    have hb : 0 ≤ b ∧ b ≤ 10 := ⟨by omega, by omega⟩
    have h20 := hk.1.2.2.2.2.1
    have h40 := hk.1.2.1
    refine gX_aloadn dX12_gloss_8 rfl ?_
    refine gX_iloadn dX12_gloss_9 rfl ?_
    refine gX_iloadn dX12_gloss_10 rfl ?_
    refine gX_virt (J := iX12_isGloss) (av := [gi b, gi g]) (a := 775) (st := []) dX12_gloss_11 lkX12_401 kX12_isGloss vX12_isGloss (gFit_m (by decide)) hM.1 rfl rfl (Nat.le_of_ble_eq_true rfl) (Nat.zero_le _) (Nat.zero_le _) rfl ?_
    refine m_isGloss hM hb hk.1 ?_
    show gX l E _ 14 [some (ga 775), some (gi b), some (gi g), some (gi w), none, none] [gi (b2i (inR g 0 ((q.2.1.length : Int) - 1)))] (K, R, V) _ _
    refine gX_ifne (tgt := 21) dX12_gloss_14 (by decide) (fun w2 => ?_) (fun w2 => ?_)
    · have w2 := inR_1 w2
      have hg : 0 ≤ g ∧ g < q.2.1.length := ⟨by omega, by omega⟩
      have hgl := hk.1.gl hg.1 hg.2
      have hso := hok.sp hg.1 hg.2
      have hr8 := hgl.2.2.2.1
      have hx9 := hk.1.hs hso.2.1.rg
      have hb0 := hso.2.2.1
      have hb1 := hso.2.2.2.1
      have hb2 := hso.2.2.2.2
      refine gX_bipush dX12_gloss_21 (by decide) ⟨by decide, by decide⟩ ?_
      refine gX_iloadn dX12_gloss_23 rfl ?_
      refine gX_imul dX12_gloss_24 ⟨by omega, by omega⟩ ?_
      refine gX_iloadn dX12_gloss_25 rfl ?_
      refine gX_iadd dX12_gloss_26 ⟨by omega, by omega⟩ ?_
      refine gX_istore dX12_gloss_27 (show (4 : Nat) < 6 from by decide) (ls2 := [some (ga 775), some (gi b), some (gi g), some (gi w), some (gi ((20 * b) + g)), none]) rfl ?_
      refine gX_aloadn dX12_gloss_29 rfl ?_
      refine gX_iloadn dX12_gloss_30 rfl ?_
      refine gX_aloadn dX12_gloss_31 rfl ?_
      refine gX_gR 6 dX12_gloss_32 fdX12_25 rfl rfl hM.1 (mR6 hM) ?_
      refine gX_iload dX12_gloss_35 rfl ?_
      refine gX_iald dX12_gloss_37 (mA6 hM) (by omega) (by omega) ?_
      rw [hgl.2.1]
      refine gX_aloadn dX12_gloss_38 rfl ?_
      refine gX_gR 7 dX12_gloss_39 fdX12_28 rfl rfl hM.1 (mR7 hM) ?_
      refine gX_iload dX12_gloss_42 rfl ?_
      refine gX_iald dX12_gloss_44 (mA7 hM) (by omega) (by omega) ?_
      refine gX_virt (J := iX12_firstOf) (av := [gi b, gi ((gq q.2.1 g).2.1), gi (V 782 ((20 * b) + g))]) (a := 775) (st := []) dX12_gloss_45 lkX12_359 kX12_firstOf vX12_firstOf (gFit_m (by decide)) hM.1 rfl rfl (Nat.le_of_ble_eq_true rfl) (Nat.zero_le _) (Nat.zero_le _) rfl ?_
      refine m_firstOf hM hb hk.1 hk.2.1 hg.1 hg.2 hso ?_
      show gX l E _ 48 [some (ga 775), some (gi b), some (gi g), some (gi w), some (gi ((20 * b) + g)), none] [gi ((gq q.2.1 g).2.2.1)] (K, R, V) _ _
      refine gX_istore dX12_gloss_48 (show (5 : Nat) < 6 from by decide) (ls2 := [some (ga 775), some (gi b), some (gi g), some (gi w), some (gi ((20 * b) + g)), some (gi ((gq q.2.1 g).2.2.1))]) rfl ?_
      refine gX_iloadn dX12_gloss_50 rfl ?_
      refine gX_tab (dt := 158) [92, 100, 108, 111, 136, 144, 151] dX12_gloss_51 (by decide) (by decide) (by decide) (fun w3 => ?_) (fun i9 t9 ht9 w3 => ?_)
      · refine gX_iloadn dX12_gloss_158 rfl ?_
        refine gX_i2l dX12_gloss_159 ?_
        refine gX_ldc2 (x := 7) dX12_gloss_160 clX12_411 (by decide) ⟨by decide, by decide⟩ ?_
        refine gX_ldc2 (x := 14) dX12_gloss_163 clX12_413 (by decide) ⟨by decide, by decide⟩ ?_
        refine gX_stat (J := iX12_in) (av := [gl w, gl 7, gl 14]) (st := []) dX12_gloss_166 lkX12_154 kX12_in sX12_in (gFit_m (by decide)) rfl (Nat.le_of_ble_eq_true rfl) (Nat.zero_le _) (Nat.zero_le _) rfl ?_
        refine m_in ?_
        show gX l E _ 169 [some (ga 775), some (gi b), some (gi g), some (gi w), some (gi ((20 * b) + g)), some (gi ((gq q.2.1 g).2.2.1))] [gi (b2i (inR w 7 14))] (K, R, V) _ _
        refine gX_ifne (tgt := 178) dX12_gloss_169 (by decide) (fun w4 => ?_) (fun w4 => ?_)
        · have w4 := inR_1 w4
          refine gX_iloadn dX12_gloss_178 rfl ?_
          refine gX_bipush dX12_gloss_179 (by decide) ⟨by decide, by decide⟩ ?_
          refine gX_isub dX12_gloss_181 ⟨by omega, by omega⟩ ?_
          refine gX_aloadn dX12_gloss_182 rfl ?_
          refine gX_gR 8 dX12_gloss_183 fdX12_31 rfl rfl hM.1 (mR8 hM) ?_
          refine gX_iload dX12_gloss_186 rfl ?_
          refine gX_iald dX12_gloss_188 (mA8 hM) (by omega) (by omega) ?_
          rw [hgl.2.2.1]
          refine gX_icmpge (tgt := 210) dX12_gloss_189 (by decide) (fun w5 => ?_) (fun w5 => ?_)
          · refine gX_iconst dX12_gloss_210 ⟨by decide, by decide⟩ ?_
            refine gX_iret dX12_gloss_211 (Or.inl rfl) ?_
            have ea : aGloss S b g w = -1 := by
              unfold aGloss
              rw [if_pos hr, ← eq, if_pos hg, if_neg (by omega), if_neg (by omega), if_neg (by omega), if_neg (by omega), if_neg (by omega), if_neg (by omega), if_neg (by omega), if_pos (by omega)]
              exact lat_out (by omega)
            rw [ea] at hQ
            exact hQ V qFr.rf
          · refine gX_aloadn dX12_gloss_192 rfl ?_
            refine gX_gR 9 dX12_gloss_193 fdX12_34 rfl rfl hM.1 (mR9 hM) ?_
            refine gX_bipush dX12_gloss_196 (by decide) ⟨by decide, by decide⟩ ?_
            refine gX_iload dX12_gloss_198 rfl ?_
            refine gX_imul dX12_gloss_200 ⟨by omega, by omega⟩ ?_
            refine gX_iloadn dX12_gloss_201 rfl ?_
            refine gX_iadd dX12_gloss_202 ⟨by omega, by omega⟩ ?_
            refine gX_bipush dX12_gloss_203 (by decide) ⟨by decide, by decide⟩ ?_
            refine gX_isub dX12_gloss_205 ⟨by omega, by omega⟩ ?_
            refine gX_iald dX12_gloss_206 (mA9 hM) (by omega) (by omega) ?_
            rw [show 8 * (20 * b + g) + w - 7 = 8 * (20 * b + g) + (w - 7) by omega, hgl.rw (by omega) (by omega)]
            refine gX_goto (tgt := 211) dX12_gloss_207 (by decide) ?_
            refine gX_iret dX12_gloss_211 (Or.inl rfl) ?_
            have ea : aGloss S b g w = lat (gq q.2.1 g).2.2.2.2.2 (w - 7) := by
              unfold aGloss
              rw [if_pos hr, ← eq, if_pos hg, if_neg (by omega), if_neg (by omega), if_neg (by omega), if_neg (by omega), if_neg (by omega), if_neg (by omega), if_neg (by omega), if_pos (by omega)]
            rw [ea] at hQ
            exact hQ V qFr.rf
        · have w4 := inR_0 w4
          refine gX_sipush dX12_gloss_172 (by decide) ⟨by decide, by decide⟩ ?_
          refine gX_goto (tgt := 211) dX12_gloss_175 (by decide) ?_
          refine gX_iret dX12_gloss_211 (Or.inl rfl) ?_
          have ea : aGloss S b g w = -1002 := by
            unfold aGloss
            rw [if_pos hr, ← eq, if_pos hg, if_neg (by omega), if_neg (by omega), if_neg (by omega), if_neg (by omega), if_neg (by omega), if_neg (by omega), if_neg (by omega), if_neg (by omega)]
          rw [ea] at hQ
          exact hQ V qFr.rf
      · match i9, ht9 with
        | 0, ht9 =>
          cases ht9
          refine gX_aloadn dX12_gloss_92 rfl ?_
          refine gX_gR 5 dX12_gloss_93 fdX12_22 rfl rfl hM.1 (mR5 hM) ?_
          refine gX_iload dX12_gloss_96 rfl ?_
          refine gX_iald dX12_gloss_98 (mA5 hM) (by omega) (by omega) ?_
          rw [hgl.1]
          refine gX_iret dX12_gloss_99 (Or.inl rfl) ?_
          have ea : aGloss S b g w = (gq q.2.1 g).1 := by
            unfold aGloss
            rw [if_pos hr, ← eq, if_pos hg, if_pos (by omega)]
          rw [ea] at hQ
          exact hQ V qFr.rf
        | 1, ht9 =>
          cases ht9
          refine gX_aloadn dX12_gloss_100 rfl ?_
          refine gX_gR 6 dX12_gloss_101 fdX12_25 rfl rfl hM.1 (mR6 hM) ?_
          refine gX_iload dX12_gloss_104 rfl ?_
          refine gX_iald dX12_gloss_106 (mA6 hM) (by omega) (by omega) ?_
          rw [hgl.2.1]
          refine gX_iret dX12_gloss_107 (Or.inl rfl) ?_
          have ea : aGloss S b g w = (gq q.2.1 g).2.1 := by
            unfold aGloss
            rw [if_pos hr, ← eq, if_pos hg, if_neg (by omega), if_pos (by omega)]
          rw [ea] at hQ
          exact hQ V qFr.rf
        | 2, ht9 =>
          cases ht9
          refine gX_iload dX12_gloss_108 rfl ?_
          refine gX_iret dX12_gloss_110 (Or.inl rfl) ?_
          have ea : aGloss S b g w = (gq q.2.1 g).2.2.1 := by
            unfold aGloss
            rw [if_pos hr, ← eq, if_pos hg, if_neg (by omega), if_neg (by omega), if_pos (by omega)]
          rw [ea] at hQ
          exact hQ V qFr.rf
        | 3, ht9 =>
          cases ht9
          refine gX_iload dX12_gloss_111 rfl ?_
          refine gX_aloadn dX12_gloss_113 rfl ?_
          refine gX_iloadn dX12_gloss_114 rfl ?_
          refine gX_aloadn dX12_gloss_115 rfl ?_
          refine gX_gR 6 dX12_gloss_116 fdX12_25 rfl rfl hM.1 (mR6 hM) ?_
          refine gX_iload dX12_gloss_119 rfl ?_
          refine gX_iald dX12_gloss_121 (mA6 hM) (by omega) (by omega) ?_
          rw [hgl.2.1]
          refine gX_aloadn dX12_gloss_122 rfl ?_
          refine gX_gR 7 dX12_gloss_123 fdX12_28 rfl rfl hM.1 (mR7 hM) ?_
          refine gX_iload dX12_gloss_126 rfl ?_
          refine gX_iald dX12_gloss_128 (mA7 hM) (by omega) (by omega) ?_
          refine gX_virt (J := iX12_lemmaSize) (av := [gi b, gi ((gq q.2.1 g).2.1), gi (V 782 ((20 * b) + g))]) (a := 775) (st := [gi ((gq q.2.1 g).2.2.1)]) dX12_gloss_129 lkX12_362 kX12_lemmaSize vX12_lemmaSize (gFit_m (by decide)) hM.1 rfl rfl (Nat.le_of_ble_eq_true rfl) (Nat.zero_le _) (Nat.zero_le _) rfl ?_
          refine m_lemmaSize hM hb hk.1 hk.2.1 hg.1 hg.2 hso ?_
          show gX l E _ 132 [some (ga 775), some (gi b), some (gi g), some (gi w), some (gi ((20 * b) + g)), some (gi ((gq q.2.1 g).2.2.1))] [gi (lml (gq q.2.1 g)), gi ((gq q.2.1 g).2.2.1)] (K, R, V) _ _
          have hlm : lml (gq q.2.1 g) = (gq q.2.1 g).2.2.2.1 - (gq q.2.1 g).2.2.1 + 1 := rfl
          refine gX_iadd dX12_gloss_132 ⟨by omega, by omega⟩ ?_
          refine gX_iconst dX12_gloss_133 ⟨by decide, by decide⟩ ?_
          refine gX_isub dX12_gloss_134 ⟨by omega, by omega⟩ ?_
          refine gX_iret dX12_gloss_135 (Or.inl rfl) ?_
          have ea : aGloss S b g w = (((gq q.2.1 g).2.2.1) + (lml (gq q.2.1 g))) - 1 := by
            unfold aGloss
            rw [if_pos hr, ← eq, if_pos hg, if_neg (by omega), if_neg (by omega), if_neg (by omega), if_pos (by omega)]
            unfold lml; omega
          rw [ea] at hQ
          exact hQ V qFr.rf
        | 4, ht9 =>
          cases ht9
          refine gX_aloadn dX12_gloss_136 rfl ?_
          refine gX_gR 8 dX12_gloss_137 fdX12_31 rfl rfl hM.1 (mR8 hM) ?_
          refine gX_iload dX12_gloss_140 rfl ?_
          refine gX_iald dX12_gloss_142 (mA8 hM) (by omega) (by omega) ?_
          rw [hgl.2.2.1]
          refine gX_iret dX12_gloss_143 (Or.inl rfl) ?_
          have ea : aGloss S b g w = ((gq q.2.1 g).2.2.2.2.2.length : Int) := by
            unfold aGloss
            rw [if_pos hr, ← eq, if_pos hg, if_neg (by omega), if_neg (by omega), if_neg (by omega), if_neg (by omega), if_pos (by omega)]
          rw [ea] at hQ
          exact hQ V qFr.rf
        | 5, ht9 =>
          cases ht9
          refine gX_aloadn dX12_gloss_144 rfl ?_
          refine gX_iloadn dX12_gloss_145 rfl ?_
          refine gX_iloadn dX12_gloss_146 rfl ?_
          refine gX_virt (J := iX12_depth) (av := [gi b, gi g]) (a := 775) (st := []) dX12_gloss_147 lkX12_405 kX12_depth vX12_depth (gFit_m (by decide)) hM.1 rfl rfl (Nat.le_of_ble_eq_true rfl) (Nat.zero_le _) (Nat.zero_le _) rfl ?_
          refine m_depth hM hb hk.1 hg.1 hg.2 hok.2.2.1 (hok.2.2.2.2.1 g hg.1 hg.2) ?_
          show gX l E _ 150 [some (ga 775), some (gi b), some (gi g), some (gi w), some (gi ((20 * b) + g)), some (gi ((gq q.2.1 g).2.2.1))] [gi (dpt q.2.1 5 g)] (K, R, V) _ _
          refine gX_iret dX12_gloss_150 (Or.inl rfl) ?_
          have ea : aGloss S b g w = dpt q.2.1 5 g := by
            unfold aGloss
            rw [if_pos hr, ← eq, if_pos hg, if_neg (by omega), if_neg (by omega), if_neg (by omega), if_neg (by omega), if_neg (by omega), if_pos (by omega)]
          rw [ea] at hQ
          exact hQ V qFr.rf
        | 6, ht9 =>
          cases ht9
          refine gX_aloadn dX12_gloss_151 rfl ?_
          refine gX_iloadn dX12_gloss_152 rfl ?_
          refine gX_iloadn dX12_gloss_153 rfl ?_
          refine gX_virt (J := iX12_placeIn) (av := [gi b, gi g]) (a := 775) (st := []) dX12_gloss_154 lkX12_408 kX12_placeIn vX12_placeIn (gFit_m (by decide)) hM.1 rfl rfl (Nat.le_of_ble_eq_true rfl) (Nat.zero_le _) (Nat.zero_le _) rfl ?_
          refine m_placeIn hM hb hk.1 hk.2.1 hg.1 hg.2 (fun k z0 z1 => hok.sp z0 z1) ?_
          show gX l E _ 157 [some (ga 775), some (gi b), some (gi g), some (gi w), some (gi ((20 * b) + g)), some (gi ((gq q.2.1 g).2.2.1))] [gi (ordS q.2.1 g)] (K, R, V) _ _
          refine gX_iret dX12_gloss_157 (Or.inl rfl) ?_
          have ea : aGloss S b g w = ordS q.2.1 g := by
            unfold aGloss
            rw [if_pos hr, ← eq, if_pos hg, if_neg (by omega), if_neg (by omega), if_neg (by omega), if_neg (by omega), if_neg (by omega), if_neg (by omega), if_pos (by omega)]
          rw [ea] at hQ
          exact hQ V qFr.rf
        | k9 + 7, ht9 => exact absurd (List.getElem?_eq_some_iff.mp ht9).1 (by simp)
    · have w2 := inR_0 w2
      refine gX_sipush dX12_gloss_17 (by decide) ⟨by decide, by decide⟩ ?_
      by_cases hr9 : 0 ≤ b ∧ b < S.1.length
      · refine gX_iret dX12_gloss_20 (Or.inl rfl) ?_
        have ea : aGloss S b g w = -1001 := by
          unfold aGloss
          rw [if_pos hr9, if_neg (fun z => ?_)]
          first
          | omega
          | (have e9 : q = gbq S b := by assumption
             rw [← e9] at z
             omega)
        rw [ea] at hQ
        exact hQ V qFr.rf
      · refine gX_iret dX12_gloss_20 (Or.inl rfl) ?_
        have ea : aGloss S b g w = -1001 := by
          unfold aGloss
          rw [if_neg hr9]
        rw [ea] at hQ
        exact hQ V qFr.rf
set_option maxRecDepth 4000 in
theorem m_about (hM : mdK K R) (hS : mdIs V S) (hO : ∀ b : Int, 0 ≤ b → b < S.1.length → bkOk (gbq S b).1 (gbq S b).2.1) (hQ : ∀ V', qFr V V' → Q (some (gi (aAbout S b w))) (K, R, V')) : gC l E (d + 3) iX12_about [ga 775, gi b, gi w] (K, R, V) Q := by
  refine gC_of kX12_about (ls := [some (ga 775), some (gi b), some (gi w), none, none, none, none, none, none]) rfl (Nat.le_of_ble_eq_true rfl) ?_
  have hn0 := hS.1
  have hn1 := hS.2.1
  refine gX_aloadn dX12_about_0 rfl ?_
  refine gX_iloadn dX12_about_1 rfl ?_
  refine gX_virt (J := iX12_isBook) (av := [gi b]) (a := 775) (st := []) dX12_about_2 lkX12_371 kX12_isBook vX12_isBook (gFit_m (by decide)) hM.1 rfl rfl (Nat.le_of_ble_eq_true rfl) (Nat.zero_le _) (Nat.zero_le _) rfl ?_
  refine m_isBook hM hS.1 hS.2.1 ?_
  show gX l E _ 5 [some (ga 775), some (gi b), some (gi w), none, none, none, none, none, none] [gi (b2i (inR b 0 ((S.1.length : Int) - 1)))] (K, R, V) _ _
  refine gX_ifne (tgt := 12) dX12_about_5 (by decide) (fun m1 => ?_) (fun m1 => ?_)
  · have m1 := inR_1 m1
    have hr : 0 ≤ b ∧ b < S.1.length := ⟨by omega, by omega⟩
    obtain ⟨q, eq⟩ : ∃ q, q = gbq S b := ⟨_, rfl⟩
    have hk := hS.2.2.2.1 b hr.1 hr.2
    have hok := hO b hr.1 hr.2
    rw [← eq] at hk hok
    have hb : 0 ≤ b ∧ b ≤ 10 := ⟨by omega, by omega⟩
    have h20 := hk.1.2.2.2.2.1
    have h40 := hk.1.2.1
    refine gX_iconst dX12_about_12 ⟨by decide, by decide⟩ ?_
    refine gX_istoren dX12_about_13 (show (3 : Nat) < 9 from by decide) (ls2 := [some (ga 775), some (gi b), some (gi w), some (gi 0), none, none, none, none, none]) rfl ?_
    refine gX_iconst dX12_about_14 ⟨by decide, by decide⟩ ?_
    refine gX_istore dX12_about_15 (show (4 : Nat) < 9 from by decide) (ls2 := [some (ga 775), some (gi b), some (gi w), some (gi 0), some (gi 0), none, none, none, none]) rfl ?_
    refine gX_iconst dX12_about_17 ⟨by decide, by decide⟩ ?_
    refine gX_istore dX12_about_18 (show (5 : Nat) < 9 from by decide) (ls2 := [some (ga 775), some (gi b), some (gi w), some (gi 0), some (gi 0), some (gi 0), none, none, none]) rfl ?_
    refine gX_iconst dX12_about_20 ⟨by decide, by decide⟩ ?_
    refine gX_istore dX12_about_21 (show (6 : Nat) < 9 from by decide) (ls2 := [some (ga 775), some (gi b), some (gi w), some (gi 0), some (gi 0), some (gi 0), some (gi 0), none, none]) rfl ?_
    refine gX_iconst dX12_about_23 ⟨by decide, by decide⟩ ?_
    refine gX_istore dX12_about_24 (show (7 : Nat) < 9 from by decide) (ls2 := [some (ga 775), some (gi b), some (gi w), some (gi 0), some (gi 0), some (gi 0), some (gi 0), some (gi 0), none]) rfl ?_
    have lp : ∀ (jj : Nat) (g : Int) (dm : Int) (sm : Int) (am : Int) (wm : Int) (j8 : Option gV) (bc bs : Nat), (q.2.1.length : Int) - g < (jj : Int) → 0 ≤ g → g ≤ q.2.1.length → dm = maxB (fun g => dpt q.2.1 5 ((g : Nat) : Int)) g.toNat → sm = cntB (fun g => decide (ordS q.2.1 ((g : Nat) : Int) = 0)) g.toNat → am = cntB (fun g => decide ((gq q.2.1 ((g : Nat) : Int)).1 = 0)) g.toNat → wm = sumB (fun g => ((gq q.2.1 ((g : Nat) : Int)).2.2.2.2.2.length : Int)) g.toNat → 0 ≤ dm ∧ dm ≤ 5 → 0 ≤ wm ∧ wm ≤ 8 * g → gX l E (gFm E (d + 3) iX12_about Q) 26 [some (ga 775), some (gi b), some (gi w), some (gi dm), some (gi sm), some (gi am), some (gi wm), some (gi g), j8] [] (K, R, V) bc bs := by
      intro jj
      induction jj with
      | zero =>
        intro g dm sm am wm j8 bc bs hj q0 q1 q2 q3 q4 q5 q6 q7
        exfalso; omega
      | succ jj ih =>
        intro g dm sm am wm j8 bc bs hj q0 q1 q2 q3 q4 q5 q6 q7
        refine gX_iload dX12_about_26 rfl ?_
        refine gX_aloadn dX12_about_28 rfl ?_
        refine gX_gR 4 dX12_about_29 fdX12_19 rfl rfl hM.1 (mR4 hM) ?_
        refine gX_iloadn dX12_about_32 rfl ?_
        refine gX_iald dX12_about_33 (mA4 hM) (by omega) (by omega) ?_
        rw [hk.1.2.2.2.1]
        refine gX_icmpge (tgt := 127) dX12_about_34 (by decide) (fun b1 => ?_) (fun b1 => ?_)
        · refine gX_iloadn dX12_about_127 rfl ?_
          refine gX_tab (dt := 215) [176, 183, 190, 192, 199, 206, 209, 212] dX12_about_128 (by decide) (by decide) (by decide) (fun b2 => ?_) (fun i9 t9 ht9 b2 => ?_)
          · refine gX_sipush dX12_about_215 (by decide) ⟨by decide, by decide⟩ ?_
            refine gX_iret dX12_about_218 (Or.inl rfl) ?_
            have ea : aAbout S b w = -1002 := by
              unfold aAbout
              rw [if_pos hr, if_neg (by omega), if_neg (by omega), if_neg (by omega), if_neg (by omega), if_neg (by omega), if_neg (by omega), if_neg (by omega), if_neg (by omega)]
            rw [ea] at hQ
            exact hQ V qFr.rf
          · match i9, ht9 with
            | 0, ht9 =>
              cases ht9
              refine gX_aloadn dX12_about_176 rfl ?_
              refine gX_gR 1 dX12_about_177 fdX12_7 rfl rfl hM.1 (mR1 hM) ?_
              refine gX_iloadn dX12_about_180 rfl ?_
              refine gX_iald dX12_about_181 (mA1 hM) (by omega) (by omega) ?_
              rw [hk.1.1]
              refine gX_iret dX12_about_182 (Or.inl rfl) ?_
              have ea : aAbout S b w = (q.1.length : Int) := by
                unfold aAbout
                rw [if_pos hr, ← eq, if_pos (by omega)]
              rw [ea] at hQ
              exact hQ V qFr.rf
            | 1, ht9 =>
              cases ht9
              refine gX_aloadn dX12_about_183 rfl ?_
              refine gX_gR 4 dX12_about_184 fdX12_19 rfl rfl hM.1 (mR4 hM) ?_
              refine gX_iloadn dX12_about_187 rfl ?_
              refine gX_iald dX12_about_188 (mA4 hM) (by omega) (by omega) ?_
              rw [hk.1.2.2.2.1]
              refine gX_iret dX12_about_189 (Or.inl rfl) ?_
              have ea : aAbout S b w = (q.2.1.length : Int) := by
                unfold aAbout
                rw [if_pos hr, ← eq, if_neg (by omega), if_pos (by omega)]
              rw [ea] at hQ
              exact hQ V qFr.rf
            | 2, ht9 =>
              cases ht9
              refine gX_iloadn dX12_about_190 rfl ?_
              refine gX_iret dX12_about_191 (Or.inl rfl) ?_
              have ea : aAbout S b w = dm := by
                unfold aAbout
                rw [if_pos hr, ← eq, if_neg (by omega), if_neg (by omega), if_pos (by omega)]
                unfold dptM
                rw [q2, show g.toNat = q.2.1.length by omega]
              rw [ea] at hQ
              exact hQ V qFr.rf
            | 3, ht9 =>
              cases ht9
              refine gX_aloadn dX12_about_192 rfl ?_
              refine gX_gR 11 dX12_about_193 fdX12_40 rfl rfl hM.1 (mR11 hM) ?_
              refine gX_iloadn dX12_about_196 rfl ?_
              refine gX_iald dX12_about_197 (mA11 hM) (by omega) (by omega) ?_
              rw [hk.2.2.1]
              refine gX_iret dX12_about_198 (Or.inl rfl) ?_
              have ea : aAbout S b w = q.2.2.1 := by
                unfold aAbout
                rw [if_pos hr, ← eq, if_neg (by omega), if_neg (by omega), if_neg (by omega), if_pos (by omega)]
              rw [ea] at hQ
              exact hQ V qFr.rf
            | 4, ht9 =>
              cases ht9
              refine gX_aloadn dX12_about_199 rfl ?_
              refine gX_gR 12 dX12_about_200 fdX12_43 rfl rfl hM.1 (mR12 hM) ?_
              refine gX_iloadn dX12_about_203 rfl ?_
              refine gX_iald dX12_about_204 (mA12 hM) (by omega) (by omega) ?_
              rw [hk.2.2.2.1]
              refine gX_iret dX12_about_205 (Or.inl rfl) ?_
              have ea : aAbout S b w = q.2.2.2.1 := by
                unfold aAbout
                rw [if_pos hr, ← eq, if_neg (by omega), if_neg (by omega), if_neg (by omega), if_neg (by omega), if_pos (by omega)]
              rw [ea] at hQ
              exact hQ V qFr.rf
            | 5, ht9 =>
              cases ht9
              refine gX_iload dX12_about_206 rfl ?_
              refine gX_iret dX12_about_208 (Or.inl rfl) ?_
              have ea : aAbout S b w = sm := by
                unfold aAbout
                rw [if_pos hr, ← eq, if_neg (by omega), if_neg (by omega), if_neg (by omega), if_neg (by omega), if_neg (by omega), if_pos (by omega)]
                unfold spnC
                rw [q3, show g.toNat = q.2.1.length by omega]
              rw [ea] at hQ
              exact hQ V qFr.rf
            | 6, ht9 =>
              cases ht9
              refine gX_iload dX12_about_209 rfl ?_
              refine gX_iret dX12_about_211 (Or.inl rfl) ?_
              have ea : aAbout S b w = am := by
                unfold aAbout
                rw [if_pos hr, ← eq, if_neg (by omega), if_neg (by omega), if_neg (by omega), if_neg (by omega), if_neg (by omega), if_neg (by omega), if_pos (by omega)]
                unfold abvC
                rw [q4, show g.toNat = q.2.1.length by omega]
              rw [ea] at hQ
              exact hQ V qFr.rf
            | 7, ht9 =>
              cases ht9
              refine gX_iload dX12_about_212 rfl ?_
              refine gX_iret dX12_about_214 (Or.inl rfl) ?_
              have ea : aAbout S b w = wm := by
                unfold aAbout
                rw [if_pos hr, ← eq, if_neg (by omega), if_neg (by omega), if_neg (by omega), if_neg (by omega), if_neg (by omega), if_neg (by omega), if_neg (by omega), if_pos (by omega)]
                unfold rwsC
                rw [q5, show g.toNat = q.2.1.length by omega]
              rw [ea] at hQ
              exact hQ V qFr.rf
            | k9 + 8, ht9 => exact absurd (List.getElem?_eq_some_iff.mp ht9).1 (by simp)
        · have hgl := hk.1.gl (g := g) (by omega) (by omega)
          have hr8 := hgl.2.2.2.1
          have hdn := dpt_nn (gs := q.2.1) 5 g
          have hc1 := cntB_bd (fun g => decide (ordS q.2.1 ((g : Nat) : Int) = 0)) g.toNat
          have hc2 := cntB_bd (fun g => decide ((gq q.2.1 ((g : Nat) : Int)).1 = 0)) g.toNat
          refine gX_aloadn dX12_about_37 rfl ?_
          refine gX_iloadn dX12_about_38 rfl ?_
          refine gX_iload dX12_about_39 rfl ?_
          refine gX_virt (J := iX12_depth) (av := [gi b, gi g]) (a := 775) (st := []) dX12_about_41 lkX12_405 kX12_depth vX12_depth (gFit_m (by decide)) hM.1 rfl rfl (Nat.le_of_ble_eq_true rfl) (Nat.zero_le _) (Nat.zero_le _) rfl ?_
          refine m_depth hM hb hk.1 (by omega) (by omega) hok.2.2.1 (hok.2.2.2.2.1 g (by omega) (by omega)) ?_
          show gX l E _ 44 [some (ga 775), some (gi b), some (gi w), some (gi dm), some (gi sm), some (gi am), some (gi wm), some (gi g), j8] [gi (dpt q.2.1 5 g)] (K, R, V) _ _
          refine gX_istore dX12_about_44 (show (8 : Nat) < 9 from by decide) (ls2 := [some (ga 775), some (gi b), some (gi w), some (gi dm), some (gi sm), some (gi am), some (gi wm), some (gi g), some (gi (dpt q.2.1 5 g))]) rfl ?_
          refine gX_iload dX12_about_46 rfl ?_
          refine gX_iloadn dX12_about_48 rfl ?_
          refine gX_icmple (tgt := 57) dX12_about_49 (by decide) (fun b3 => ?_) (fun b3 => ?_)
          · refine gX_iloadn dX12_about_57 rfl ?_
            refine gX_istoren dX12_about_58 (show (3 : Nat) < 9 from by decide) (ls2 := [some (ga 775), some (gi b), some (gi w), some (gi dm), some (gi sm), some (gi am), some (gi wm), some (gi g), some (gi (dpt q.2.1 5 g))]) rfl ?_
            refine gX_iload dX12_about_59 rfl ?_
            refine gX_aloadn dX12_about_61 rfl ?_
            refine gX_iloadn dX12_about_62 rfl ?_
            refine gX_iload dX12_about_63 rfl ?_
            refine gX_virt (J := iX12_placeIn) (av := [gi b, gi g]) (a := 775) (st := [gi sm]) dX12_about_65 lkX12_408 kX12_placeIn vX12_placeIn (gFit_m (by decide)) hM.1 rfl rfl (Nat.le_of_ble_eq_true rfl) (Nat.zero_le _) (Nat.zero_le _) rfl ?_
            refine m_placeIn hM hb hk.1 hk.2.1 (by omega) (by omega) (fun k z0 z1 => hok.sp z0 z1) ?_
            show gX l E _ 68 [some (ga 775), some (gi b), some (gi w), some (gi dm), some (gi sm), some (gi am), some (gi wm), some (gi g), some (gi (dpt q.2.1 5 g))] [gi (ordS q.2.1 g), gi sm] (K, R, V) _ _
            refine gX_ifne (tgt := 75) dX12_about_68 (by decide) (fun b4 => ?_) (fun b4 => ?_)
            · refine gX_iconst dX12_about_75 ⟨by decide, by decide⟩ ?_
              refine gX_iadd dX12_about_76 ⟨by omega, by omega⟩ ?_
              refine gX_istore dX12_about_77 (show (4 : Nat) < 9 from by decide) (ls2 := [some (ga 775), some (gi b), some (gi w), some (gi dm), some (gi (sm + 0)), some (gi am), some (gi wm), some (gi g), some (gi (dpt q.2.1 5 g))]) rfl ?_
              refine gX_iload dX12_about_79 rfl ?_
              refine gX_aloadn dX12_about_81 rfl ?_
              refine gX_gR 5 dX12_about_82 fdX12_22 rfl rfl hM.1 (mR5 hM) ?_
              refine gX_bipush dX12_about_85 (by decide) ⟨by decide, by decide⟩ ?_
              refine gX_iloadn dX12_about_87 rfl ?_
              refine gX_imul dX12_about_88 ⟨by omega, by omega⟩ ?_
              refine gX_iload dX12_about_89 rfl ?_
              refine gX_iadd dX12_about_91 ⟨by omega, by omega⟩ ?_
              refine gX_iald dX12_about_92 (mA5 hM) (by omega) (by omega) ?_
              rw [hgl.1]
              refine gX_ifne (tgt := 100) dX12_about_93 (by decide) (fun b5 => ?_) (fun b5 => ?_)
              · refine gX_iconst dX12_about_100 ⟨by decide, by decide⟩ ?_
                refine gX_iadd dX12_about_101 ⟨by omega, by omega⟩ ?_
                refine gX_istore dX12_about_102 (show (5 : Nat) < 9 from by decide) (ls2 := [some (ga 775), some (gi b), some (gi w), some (gi dm), some (gi (sm + 0)), some (gi (am + 0)), some (gi wm), some (gi g), some (gi (dpt q.2.1 5 g))]) rfl ?_
                refine gX_iload dX12_about_104 rfl ?_
                refine gX_aloadn dX12_about_106 rfl ?_
                refine gX_gR 8 dX12_about_107 fdX12_31 rfl rfl hM.1 (mR8 hM) ?_
                refine gX_bipush dX12_about_110 (by decide) ⟨by decide, by decide⟩ ?_
                refine gX_iloadn dX12_about_112 rfl ?_
                refine gX_imul dX12_about_113 ⟨by omega, by omega⟩ ?_
                refine gX_iload dX12_about_114 rfl ?_
                refine gX_iadd dX12_about_116 ⟨by omega, by omega⟩ ?_
                refine gX_iald dX12_about_117 (mA8 hM) (by omega) (by omega) ?_
                rw [hgl.2.2.1]
                refine gX_iadd dX12_about_118 ⟨by omega, by omega⟩ ?_
                refine gX_istore dX12_about_119 (show (6 : Nat) < 9 from by decide) (ls2 := [some (ga 775), some (gi b), some (gi w), some (gi dm), some (gi (sm + 0)), some (gi (am + 0)), some (gi (wm + ((gq q.2.1 g).2.2.2.2.2.length : Int))), some (gi g), some (gi (dpt q.2.1 5 g))]) rfl ?_
                refine gX_iinc dX12_about_121 rfl (show (7 : Nat) < 9 from by decide) ⟨by omega, by omega⟩ (ls2 := [some (ga 775), some (gi b), some (gi w), some (gi dm), some (gi (sm + 0)), some (gi (am + 0)), some (gi (wm + ((gq q.2.1 g).2.2.2.2.2.length : Int))), some (gi (g + 1)), some (gi (dpt q.2.1 5 g))]) rfl ?_
                refine gX_goto (tgt := 26) dX12_about_124 (by decide) ?_
                have eb : (g + 1).toNat = g.toNat + 1 := by omega
                have en : ((g.toNat : Nat) : Int) = g := by omega
                refine ih (g + 1) _ _ _ _ _ _ _ (by omega) (by omega) (by omega) ?_ ?_ ?_ ?_ (by omega) (by omega)
                · rw [eb, maxB_s, ← q2]
                  show _ = max dm (dpt q.2.1 5 ((g.toNat : Nat) : Int))
                  rw [en]
                  omega
                · rw [eb, cntB_s, ← q3]
                  show _ = sm + (if decide (ordS q.2.1 ((g.toNat : Nat) : Int) = 0) = true then 1 else 0)
                  rw [en]
                  rw [if_neg (by rw [decide_eq_true_eq]; assumption)]
                · rw [eb, cntB_s, ← q4]
                  show _ = am + (if decide ((gq q.2.1 ((g.toNat : Nat) : Int)).1 = 0) = true then 1 else 0)
                  rw [en]
                  rw [if_neg (by rw [decide_eq_true_eq]; assumption)]
                · rw [eb, sumB_s, ← q5]
                  show _ = wm + ((gq q.2.1 ((g.toNat : Nat) : Int)).2.2.2.2.2.length : Int)
                  rw [en]
              · refine gX_iconst dX12_about_96 ⟨by decide, by decide⟩ ?_
                refine gX_goto (tgt := 101) dX12_about_97 (by decide) ?_
                refine gX_iadd dX12_about_101 ⟨by omega, by omega⟩ ?_
                refine gX_istore dX12_about_102 (show (5 : Nat) < 9 from by decide) (ls2 := [some (ga 775), some (gi b), some (gi w), some (gi dm), some (gi (sm + 0)), some (gi (am + 1)), some (gi wm), some (gi g), some (gi (dpt q.2.1 5 g))]) rfl ?_
                refine gX_iload dX12_about_104 rfl ?_
                refine gX_aloadn dX12_about_106 rfl ?_
                refine gX_gR 8 dX12_about_107 fdX12_31 rfl rfl hM.1 (mR8 hM) ?_
                refine gX_bipush dX12_about_110 (by decide) ⟨by decide, by decide⟩ ?_
                refine gX_iloadn dX12_about_112 rfl ?_
                refine gX_imul dX12_about_113 ⟨by omega, by omega⟩ ?_
                refine gX_iload dX12_about_114 rfl ?_
                refine gX_iadd dX12_about_116 ⟨by omega, by omega⟩ ?_
                refine gX_iald dX12_about_117 (mA8 hM) (by omega) (by omega) ?_
                rw [hgl.2.2.1]
                refine gX_iadd dX12_about_118 ⟨by omega, by omega⟩ ?_
                refine gX_istore dX12_about_119 (show (6 : Nat) < 9 from by decide) (ls2 := [some (ga 775), some (gi b), some (gi w), some (gi dm), some (gi (sm + 0)), some (gi (am + 1)), some (gi (wm + ((gq q.2.1 g).2.2.2.2.2.length : Int))), some (gi g), some (gi (dpt q.2.1 5 g))]) rfl ?_
                refine gX_iinc dX12_about_121 rfl (show (7 : Nat) < 9 from by decide) ⟨by omega, by omega⟩ (ls2 := [some (ga 775), some (gi b), some (gi w), some (gi dm), some (gi (sm + 0)), some (gi (am + 1)), some (gi (wm + ((gq q.2.1 g).2.2.2.2.2.length : Int))), some (gi (g + 1)), some (gi (dpt q.2.1 5 g))]) rfl ?_
                refine gX_goto (tgt := 26) dX12_about_124 (by decide) ?_
                have eb : (g + 1).toNat = g.toNat + 1 := by omega
                have en : ((g.toNat : Nat) : Int) = g := by omega
                refine ih (g + 1) _ _ _ _ _ _ _ (by omega) (by omega) (by omega) ?_ ?_ ?_ ?_ (by omega) (by omega)
                · rw [eb, maxB_s, ← q2]
                  show _ = max dm (dpt q.2.1 5 ((g.toNat : Nat) : Int))
                  rw [en]
                  omega
                · rw [eb, cntB_s, ← q3]
                  show _ = sm + (if decide (ordS q.2.1 ((g.toNat : Nat) : Int) = 0) = true then 1 else 0)
                  rw [en]
                  rw [if_neg (by rw [decide_eq_true_eq]; assumption)]
                · rw [eb, cntB_s, ← q4]
                  show _ = am + (if decide ((gq q.2.1 ((g.toNat : Nat) : Int)).1 = 0) = true then 1 else 0)
                  rw [en]
                  rw [if_pos (decide_eq_true (by assumption))]
                · rw [eb, sumB_s, ← q5]
                  show _ = wm + ((gq q.2.1 ((g.toNat : Nat) : Int)).2.2.2.2.2.length : Int)
                  rw [en]
            · refine gX_iconst dX12_about_71 ⟨by decide, by decide⟩ ?_
              refine gX_goto (tgt := 76) dX12_about_72 (by decide) ?_
              refine gX_iadd dX12_about_76 ⟨by omega, by omega⟩ ?_
              refine gX_istore dX12_about_77 (show (4 : Nat) < 9 from by decide) (ls2 := [some (ga 775), some (gi b), some (gi w), some (gi dm), some (gi (sm + 1)), some (gi am), some (gi wm), some (gi g), some (gi (dpt q.2.1 5 g))]) rfl ?_
              refine gX_iload dX12_about_79 rfl ?_
              refine gX_aloadn dX12_about_81 rfl ?_
              refine gX_gR 5 dX12_about_82 fdX12_22 rfl rfl hM.1 (mR5 hM) ?_
              refine gX_bipush dX12_about_85 (by decide) ⟨by decide, by decide⟩ ?_
              refine gX_iloadn dX12_about_87 rfl ?_
              refine gX_imul dX12_about_88 ⟨by omega, by omega⟩ ?_
              refine gX_iload dX12_about_89 rfl ?_
              refine gX_iadd dX12_about_91 ⟨by omega, by omega⟩ ?_
              refine gX_iald dX12_about_92 (mA5 hM) (by omega) (by omega) ?_
              rw [hgl.1]
              refine gX_ifne (tgt := 100) dX12_about_93 (by decide) (fun b6 => ?_) (fun b6 => ?_)
              · refine gX_iconst dX12_about_100 ⟨by decide, by decide⟩ ?_
                refine gX_iadd dX12_about_101 ⟨by omega, by omega⟩ ?_
                refine gX_istore dX12_about_102 (show (5 : Nat) < 9 from by decide) (ls2 := [some (ga 775), some (gi b), some (gi w), some (gi dm), some (gi (sm + 1)), some (gi (am + 0)), some (gi wm), some (gi g), some (gi (dpt q.2.1 5 g))]) rfl ?_
                refine gX_iload dX12_about_104 rfl ?_
                refine gX_aloadn dX12_about_106 rfl ?_
                refine gX_gR 8 dX12_about_107 fdX12_31 rfl rfl hM.1 (mR8 hM) ?_
                refine gX_bipush dX12_about_110 (by decide) ⟨by decide, by decide⟩ ?_
                refine gX_iloadn dX12_about_112 rfl ?_
                refine gX_imul dX12_about_113 ⟨by omega, by omega⟩ ?_
                refine gX_iload dX12_about_114 rfl ?_
                refine gX_iadd dX12_about_116 ⟨by omega, by omega⟩ ?_
                refine gX_iald dX12_about_117 (mA8 hM) (by omega) (by omega) ?_
                rw [hgl.2.2.1]
                refine gX_iadd dX12_about_118 ⟨by omega, by omega⟩ ?_
                refine gX_istore dX12_about_119 (show (6 : Nat) < 9 from by decide) (ls2 := [some (ga 775), some (gi b), some (gi w), some (gi dm), some (gi (sm + 1)), some (gi (am + 0)), some (gi (wm + ((gq q.2.1 g).2.2.2.2.2.length : Int))), some (gi g), some (gi (dpt q.2.1 5 g))]) rfl ?_
                refine gX_iinc dX12_about_121 rfl (show (7 : Nat) < 9 from by decide) ⟨by omega, by omega⟩ (ls2 := [some (ga 775), some (gi b), some (gi w), some (gi dm), some (gi (sm + 1)), some (gi (am + 0)), some (gi (wm + ((gq q.2.1 g).2.2.2.2.2.length : Int))), some (gi (g + 1)), some (gi (dpt q.2.1 5 g))]) rfl ?_
                refine gX_goto (tgt := 26) dX12_about_124 (by decide) ?_
                have eb : (g + 1).toNat = g.toNat + 1 := by omega
                have en : ((g.toNat : Nat) : Int) = g := by omega
                refine ih (g + 1) _ _ _ _ _ _ _ (by omega) (by omega) (by omega) ?_ ?_ ?_ ?_ (by omega) (by omega)
                · rw [eb, maxB_s, ← q2]
                  show _ = max dm (dpt q.2.1 5 ((g.toNat : Nat) : Int))
                  rw [en]
                  omega
                · rw [eb, cntB_s, ← q3]
                  show _ = sm + (if decide (ordS q.2.1 ((g.toNat : Nat) : Int) = 0) = true then 1 else 0)
                  rw [en]
                  rw [if_pos (decide_eq_true (by assumption))]
                · rw [eb, cntB_s, ← q4]
                  show _ = am + (if decide ((gq q.2.1 ((g.toNat : Nat) : Int)).1 = 0) = true then 1 else 0)
                  rw [en]
                  rw [if_neg (by rw [decide_eq_true_eq]; assumption)]
                · rw [eb, sumB_s, ← q5]
                  show _ = wm + ((gq q.2.1 ((g.toNat : Nat) : Int)).2.2.2.2.2.length : Int)
                  rw [en]
              · refine gX_iconst dX12_about_96 ⟨by decide, by decide⟩ ?_
                refine gX_goto (tgt := 101) dX12_about_97 (by decide) ?_
                refine gX_iadd dX12_about_101 ⟨by omega, by omega⟩ ?_
                refine gX_istore dX12_about_102 (show (5 : Nat) < 9 from by decide) (ls2 := [some (ga 775), some (gi b), some (gi w), some (gi dm), some (gi (sm + 1)), some (gi (am + 1)), some (gi wm), some (gi g), some (gi (dpt q.2.1 5 g))]) rfl ?_
                refine gX_iload dX12_about_104 rfl ?_
                refine gX_aloadn dX12_about_106 rfl ?_
                refine gX_gR 8 dX12_about_107 fdX12_31 rfl rfl hM.1 (mR8 hM) ?_
                refine gX_bipush dX12_about_110 (by decide) ⟨by decide, by decide⟩ ?_
                refine gX_iloadn dX12_about_112 rfl ?_
                refine gX_imul dX12_about_113 ⟨by omega, by omega⟩ ?_
                refine gX_iload dX12_about_114 rfl ?_
                refine gX_iadd dX12_about_116 ⟨by omega, by omega⟩ ?_
                refine gX_iald dX12_about_117 (mA8 hM) (by omega) (by omega) ?_
                rw [hgl.2.2.1]
                refine gX_iadd dX12_about_118 ⟨by omega, by omega⟩ ?_
                refine gX_istore dX12_about_119 (show (6 : Nat) < 9 from by decide) (ls2 := [some (ga 775), some (gi b), some (gi w), some (gi dm), some (gi (sm + 1)), some (gi (am + 1)), some (gi (wm + ((gq q.2.1 g).2.2.2.2.2.length : Int))), some (gi g), some (gi (dpt q.2.1 5 g))]) rfl ?_
                refine gX_iinc dX12_about_121 rfl (show (7 : Nat) < 9 from by decide) ⟨by omega, by omega⟩ (ls2 := [some (ga 775), some (gi b), some (gi w), some (gi dm), some (gi (sm + 1)), some (gi (am + 1)), some (gi (wm + ((gq q.2.1 g).2.2.2.2.2.length : Int))), some (gi (g + 1)), some (gi (dpt q.2.1 5 g))]) rfl ?_
                refine gX_goto (tgt := 26) dX12_about_124 (by decide) ?_
                have eb : (g + 1).toNat = g.toNat + 1 := by omega
                have en : ((g.toNat : Nat) : Int) = g := by omega
                refine ih (g + 1) _ _ _ _ _ _ _ (by omega) (by omega) (by omega) ?_ ?_ ?_ ?_ (by omega) (by omega)
                · rw [eb, maxB_s, ← q2]
                  show _ = max dm (dpt q.2.1 5 ((g.toNat : Nat) : Int))
                  rw [en]
                  omega
                · rw [eb, cntB_s, ← q3]
                  show _ = sm + (if decide (ordS q.2.1 ((g.toNat : Nat) : Int) = 0) = true then 1 else 0)
                  rw [en]
                  rw [if_pos (decide_eq_true (by assumption))]
                · rw [eb, cntB_s, ← q4]
                  show _ = am + (if decide ((gq q.2.1 ((g.toNat : Nat) : Int)).1 = 0) = true then 1 else 0)
                  rw [en]
                  rw [if_pos (decide_eq_true (by assumption))]
                · rw [eb, sumB_s, ← q5]
                  show _ = wm + ((gq q.2.1 ((g.toNat : Nat) : Int)).2.2.2.2.2.length : Int)
                  rw [en]
          · refine gX_iload dX12_about_52 rfl ?_
            refine gX_goto (tgt := 58) dX12_about_54 (by decide) ?_
            refine gX_istoren dX12_about_58 (show (3 : Nat) < 9 from by decide) (ls2 := [some (ga 775), some (gi b), some (gi w), some (gi (dpt q.2.1 5 g)), some (gi sm), some (gi am), some (gi wm), some (gi g), some (gi (dpt q.2.1 5 g))]) rfl ?_
            refine gX_iload dX12_about_59 rfl ?_
            refine gX_aloadn dX12_about_61 rfl ?_
            refine gX_iloadn dX12_about_62 rfl ?_
            refine gX_iload dX12_about_63 rfl ?_
            refine gX_virt (J := iX12_placeIn) (av := [gi b, gi g]) (a := 775) (st := [gi sm]) dX12_about_65 lkX12_408 kX12_placeIn vX12_placeIn (gFit_m (by decide)) hM.1 rfl rfl (Nat.le_of_ble_eq_true rfl) (Nat.zero_le _) (Nat.zero_le _) rfl ?_
            refine m_placeIn hM hb hk.1 hk.2.1 (by omega) (by omega) (fun k z0 z1 => hok.sp z0 z1) ?_
            show gX l E _ 68 [some (ga 775), some (gi b), some (gi w), some (gi (dpt q.2.1 5 g)), some (gi sm), some (gi am), some (gi wm), some (gi g), some (gi (dpt q.2.1 5 g))] [gi (ordS q.2.1 g), gi sm] (K, R, V) _ _
            refine gX_ifne (tgt := 75) dX12_about_68 (by decide) (fun b7 => ?_) (fun b7 => ?_)
            · refine gX_iconst dX12_about_75 ⟨by decide, by decide⟩ ?_
              refine gX_iadd dX12_about_76 ⟨by omega, by omega⟩ ?_
              refine gX_istore dX12_about_77 (show (4 : Nat) < 9 from by decide) (ls2 := [some (ga 775), some (gi b), some (gi w), some (gi (dpt q.2.1 5 g)), some (gi (sm + 0)), some (gi am), some (gi wm), some (gi g), some (gi (dpt q.2.1 5 g))]) rfl ?_
              refine gX_iload dX12_about_79 rfl ?_
              refine gX_aloadn dX12_about_81 rfl ?_
              refine gX_gR 5 dX12_about_82 fdX12_22 rfl rfl hM.1 (mR5 hM) ?_
              refine gX_bipush dX12_about_85 (by decide) ⟨by decide, by decide⟩ ?_
              refine gX_iloadn dX12_about_87 rfl ?_
              refine gX_imul dX12_about_88 ⟨by omega, by omega⟩ ?_
              refine gX_iload dX12_about_89 rfl ?_
              refine gX_iadd dX12_about_91 ⟨by omega, by omega⟩ ?_
              refine gX_iald dX12_about_92 (mA5 hM) (by omega) (by omega) ?_
              rw [hgl.1]
              refine gX_ifne (tgt := 100) dX12_about_93 (by decide) (fun b8 => ?_) (fun b8 => ?_)
              · refine gX_iconst dX12_about_100 ⟨by decide, by decide⟩ ?_
                refine gX_iadd dX12_about_101 ⟨by omega, by omega⟩ ?_
                refine gX_istore dX12_about_102 (show (5 : Nat) < 9 from by decide) (ls2 := [some (ga 775), some (gi b), some (gi w), some (gi (dpt q.2.1 5 g)), some (gi (sm + 0)), some (gi (am + 0)), some (gi wm), some (gi g), some (gi (dpt q.2.1 5 g))]) rfl ?_
                refine gX_iload dX12_about_104 rfl ?_
                refine gX_aloadn dX12_about_106 rfl ?_
                refine gX_gR 8 dX12_about_107 fdX12_31 rfl rfl hM.1 (mR8 hM) ?_
                refine gX_bipush dX12_about_110 (by decide) ⟨by decide, by decide⟩ ?_
                refine gX_iloadn dX12_about_112 rfl ?_
                refine gX_imul dX12_about_113 ⟨by omega, by omega⟩ ?_
                refine gX_iload dX12_about_114 rfl ?_
                refine gX_iadd dX12_about_116 ⟨by omega, by omega⟩ ?_
                refine gX_iald dX12_about_117 (mA8 hM) (by omega) (by omega) ?_
                rw [hgl.2.2.1]
                refine gX_iadd dX12_about_118 ⟨by omega, by omega⟩ ?_
                refine gX_istore dX12_about_119 (show (6 : Nat) < 9 from by decide) (ls2 := [some (ga 775), some (gi b), some (gi w), some (gi (dpt q.2.1 5 g)), some (gi (sm + 0)), some (gi (am + 0)), some (gi (wm + ((gq q.2.1 g).2.2.2.2.2.length : Int))), some (gi g), some (gi (dpt q.2.1 5 g))]) rfl ?_
                refine gX_iinc dX12_about_121 rfl (show (7 : Nat) < 9 from by decide) ⟨by omega, by omega⟩ (ls2 := [some (ga 775), some (gi b), some (gi w), some (gi (dpt q.2.1 5 g)), some (gi (sm + 0)), some (gi (am + 0)), some (gi (wm + ((gq q.2.1 g).2.2.2.2.2.length : Int))), some (gi (g + 1)), some (gi (dpt q.2.1 5 g))]) rfl ?_
                refine gX_goto (tgt := 26) dX12_about_124 (by decide) ?_
                have eb : (g + 1).toNat = g.toNat + 1 := by omega
                have en : ((g.toNat : Nat) : Int) = g := by omega
                refine ih (g + 1) _ _ _ _ _ _ _ (by omega) (by omega) (by omega) ?_ ?_ ?_ ?_ (by omega) (by omega)
                · rw [eb, maxB_s, ← q2]
                  show _ = max dm (dpt q.2.1 5 ((g.toNat : Nat) : Int))
                  rw [en]
                  omega
                · rw [eb, cntB_s, ← q3]
                  show _ = sm + (if decide (ordS q.2.1 ((g.toNat : Nat) : Int) = 0) = true then 1 else 0)
                  rw [en]
                  rw [if_neg (by rw [decide_eq_true_eq]; assumption)]
                · rw [eb, cntB_s, ← q4]
                  show _ = am + (if decide ((gq q.2.1 ((g.toNat : Nat) : Int)).1 = 0) = true then 1 else 0)
                  rw [en]
                  rw [if_neg (by rw [decide_eq_true_eq]; assumption)]
                · rw [eb, sumB_s, ← q5]
                  show _ = wm + ((gq q.2.1 ((g.toNat : Nat) : Int)).2.2.2.2.2.length : Int)
                  rw [en]
              · refine gX_iconst dX12_about_96 ⟨by decide, by decide⟩ ?_
                refine gX_goto (tgt := 101) dX12_about_97 (by decide) ?_
                refine gX_iadd dX12_about_101 ⟨by omega, by omega⟩ ?_
                refine gX_istore dX12_about_102 (show (5 : Nat) < 9 from by decide) (ls2 := [some (ga 775), some (gi b), some (gi w), some (gi (dpt q.2.1 5 g)), some (gi (sm + 0)), some (gi (am + 1)), some (gi wm), some (gi g), some (gi (dpt q.2.1 5 g))]) rfl ?_
                refine gX_iload dX12_about_104 rfl ?_
                refine gX_aloadn dX12_about_106 rfl ?_
                refine gX_gR 8 dX12_about_107 fdX12_31 rfl rfl hM.1 (mR8 hM) ?_
                refine gX_bipush dX12_about_110 (by decide) ⟨by decide, by decide⟩ ?_
                refine gX_iloadn dX12_about_112 rfl ?_
                refine gX_imul dX12_about_113 ⟨by omega, by omega⟩ ?_
                refine gX_iload dX12_about_114 rfl ?_
                refine gX_iadd dX12_about_116 ⟨by omega, by omega⟩ ?_
                refine gX_iald dX12_about_117 (mA8 hM) (by omega) (by omega) ?_
                rw [hgl.2.2.1]
                refine gX_iadd dX12_about_118 ⟨by omega, by omega⟩ ?_
                refine gX_istore dX12_about_119 (show (6 : Nat) < 9 from by decide) (ls2 := [some (ga 775), some (gi b), some (gi w), some (gi (dpt q.2.1 5 g)), some (gi (sm + 0)), some (gi (am + 1)), some (gi (wm + ((gq q.2.1 g).2.2.2.2.2.length : Int))), some (gi g), some (gi (dpt q.2.1 5 g))]) rfl ?_
                refine gX_iinc dX12_about_121 rfl (show (7 : Nat) < 9 from by decide) ⟨by omega, by omega⟩ (ls2 := [some (ga 775), some (gi b), some (gi w), some (gi (dpt q.2.1 5 g)), some (gi (sm + 0)), some (gi (am + 1)), some (gi (wm + ((gq q.2.1 g).2.2.2.2.2.length : Int))), some (gi (g + 1)), some (gi (dpt q.2.1 5 g))]) rfl ?_
                refine gX_goto (tgt := 26) dX12_about_124 (by decide) ?_
                have eb : (g + 1).toNat = g.toNat + 1 := by omega
                have en : ((g.toNat : Nat) : Int) = g := by omega
                refine ih (g + 1) _ _ _ _ _ _ _ (by omega) (by omega) (by omega) ?_ ?_ ?_ ?_ (by omega) (by omega)
                · rw [eb, maxB_s, ← q2]
                  show _ = max dm (dpt q.2.1 5 ((g.toNat : Nat) : Int))
                  rw [en]
                  omega
                · rw [eb, cntB_s, ← q3]
                  show _ = sm + (if decide (ordS q.2.1 ((g.toNat : Nat) : Int) = 0) = true then 1 else 0)
                  rw [en]
                  rw [if_neg (by rw [decide_eq_true_eq]; assumption)]
                · rw [eb, cntB_s, ← q4]
                  show _ = am + (if decide ((gq q.2.1 ((g.toNat : Nat) : Int)).1 = 0) = true then 1 else 0)
                  rw [en]
                  rw [if_pos (decide_eq_true (by assumption))]
                · rw [eb, sumB_s, ← q5]
                  show _ = wm + ((gq q.2.1 ((g.toNat : Nat) : Int)).2.2.2.2.2.length : Int)
                  rw [en]
            · refine gX_iconst dX12_about_71 ⟨by decide, by decide⟩ ?_
              refine gX_goto (tgt := 76) dX12_about_72 (by decide) ?_
              refine gX_iadd dX12_about_76 ⟨by omega, by omega⟩ ?_
              refine gX_istore dX12_about_77 (show (4 : Nat) < 9 from by decide) (ls2 := [some (ga 775), some (gi b), some (gi w), some (gi (dpt q.2.1 5 g)), some (gi (sm + 1)), some (gi am), some (gi wm), some (gi g), some (gi (dpt q.2.1 5 g))]) rfl ?_
              refine gX_iload dX12_about_79 rfl ?_
              refine gX_aloadn dX12_about_81 rfl ?_
              refine gX_gR 5 dX12_about_82 fdX12_22 rfl rfl hM.1 (mR5 hM) ?_
              refine gX_bipush dX12_about_85 (by decide) ⟨by decide, by decide⟩ ?_
              refine gX_iloadn dX12_about_87 rfl ?_
              refine gX_imul dX12_about_88 ⟨by omega, by omega⟩ ?_
              refine gX_iload dX12_about_89 rfl ?_
              refine gX_iadd dX12_about_91 ⟨by omega, by omega⟩ ?_
              refine gX_iald dX12_about_92 (mA5 hM) (by omega) (by omega) ?_
              rw [hgl.1]
              refine gX_ifne (tgt := 100) dX12_about_93 (by decide) (fun b9 => ?_) (fun b9 => ?_)
              · refine gX_iconst dX12_about_100 ⟨by decide, by decide⟩ ?_
                refine gX_iadd dX12_about_101 ⟨by omega, by omega⟩ ?_
                refine gX_istore dX12_about_102 (show (5 : Nat) < 9 from by decide) (ls2 := [some (ga 775), some (gi b), some (gi w), some (gi (dpt q.2.1 5 g)), some (gi (sm + 1)), some (gi (am + 0)), some (gi wm), some (gi g), some (gi (dpt q.2.1 5 g))]) rfl ?_
                refine gX_iload dX12_about_104 rfl ?_
                refine gX_aloadn dX12_about_106 rfl ?_
                refine gX_gR 8 dX12_about_107 fdX12_31 rfl rfl hM.1 (mR8 hM) ?_
                refine gX_bipush dX12_about_110 (by decide) ⟨by decide, by decide⟩ ?_
                refine gX_iloadn dX12_about_112 rfl ?_
                refine gX_imul dX12_about_113 ⟨by omega, by omega⟩ ?_
                refine gX_iload dX12_about_114 rfl ?_
                refine gX_iadd dX12_about_116 ⟨by omega, by omega⟩ ?_
                refine gX_iald dX12_about_117 (mA8 hM) (by omega) (by omega) ?_
                rw [hgl.2.2.1]
                refine gX_iadd dX12_about_118 ⟨by omega, by omega⟩ ?_
                refine gX_istore dX12_about_119 (show (6 : Nat) < 9 from by decide) (ls2 := [some (ga 775), some (gi b), some (gi w), some (gi (dpt q.2.1 5 g)), some (gi (sm + 1)), some (gi (am + 0)), some (gi (wm + ((gq q.2.1 g).2.2.2.2.2.length : Int))), some (gi g), some (gi (dpt q.2.1 5 g))]) rfl ?_
                refine gX_iinc dX12_about_121 rfl (show (7 : Nat) < 9 from by decide) ⟨by omega, by omega⟩ (ls2 := [some (ga 775), some (gi b), some (gi w), some (gi (dpt q.2.1 5 g)), some (gi (sm + 1)), some (gi (am + 0)), some (gi (wm + ((gq q.2.1 g).2.2.2.2.2.length : Int))), some (gi (g + 1)), some (gi (dpt q.2.1 5 g))]) rfl ?_
                refine gX_goto (tgt := 26) dX12_about_124 (by decide) ?_
                have eb : (g + 1).toNat = g.toNat + 1 := by omega
                have en : ((g.toNat : Nat) : Int) = g := by omega
                refine ih (g + 1) _ _ _ _ _ _ _ (by omega) (by omega) (by omega) ?_ ?_ ?_ ?_ (by omega) (by omega)
                · rw [eb, maxB_s, ← q2]
                  show _ = max dm (dpt q.2.1 5 ((g.toNat : Nat) : Int))
                  rw [en]
                  omega
                · rw [eb, cntB_s, ← q3]
                  show _ = sm + (if decide (ordS q.2.1 ((g.toNat : Nat) : Int) = 0) = true then 1 else 0)
                  rw [en]
                  rw [if_pos (decide_eq_true (by assumption))]
                · rw [eb, cntB_s, ← q4]
                  show _ = am + (if decide ((gq q.2.1 ((g.toNat : Nat) : Int)).1 = 0) = true then 1 else 0)
                  rw [en]
                  rw [if_neg (by rw [decide_eq_true_eq]; assumption)]
                · rw [eb, sumB_s, ← q5]
                  show _ = wm + ((gq q.2.1 ((g.toNat : Nat) : Int)).2.2.2.2.2.length : Int)
                  rw [en]
              · refine gX_iconst dX12_about_96 ⟨by decide, by decide⟩ ?_
                refine gX_goto (tgt := 101) dX12_about_97 (by decide) ?_
                refine gX_iadd dX12_about_101 ⟨by omega, by omega⟩ ?_
                refine gX_istore dX12_about_102 (show (5 : Nat) < 9 from by decide) (ls2 := [some (ga 775), some (gi b), some (gi w), some (gi (dpt q.2.1 5 g)), some (gi (sm + 1)), some (gi (am + 1)), some (gi wm), some (gi g), some (gi (dpt q.2.1 5 g))]) rfl ?_
                refine gX_iload dX12_about_104 rfl ?_
                refine gX_aloadn dX12_about_106 rfl ?_
                refine gX_gR 8 dX12_about_107 fdX12_31 rfl rfl hM.1 (mR8 hM) ?_
                refine gX_bipush dX12_about_110 (by decide) ⟨by decide, by decide⟩ ?_
                refine gX_iloadn dX12_about_112 rfl ?_
                refine gX_imul dX12_about_113 ⟨by omega, by omega⟩ ?_
                refine gX_iload dX12_about_114 rfl ?_
                refine gX_iadd dX12_about_116 ⟨by omega, by omega⟩ ?_
                refine gX_iald dX12_about_117 (mA8 hM) (by omega) (by omega) ?_
                rw [hgl.2.2.1]
                refine gX_iadd dX12_about_118 ⟨by omega, by omega⟩ ?_
                refine gX_istore dX12_about_119 (show (6 : Nat) < 9 from by decide) (ls2 := [some (ga 775), some (gi b), some (gi w), some (gi (dpt q.2.1 5 g)), some (gi (sm + 1)), some (gi (am + 1)), some (gi (wm + ((gq q.2.1 g).2.2.2.2.2.length : Int))), some (gi g), some (gi (dpt q.2.1 5 g))]) rfl ?_
                refine gX_iinc dX12_about_121 rfl (show (7 : Nat) < 9 from by decide) ⟨by omega, by omega⟩ (ls2 := [some (ga 775), some (gi b), some (gi w), some (gi (dpt q.2.1 5 g)), some (gi (sm + 1)), some (gi (am + 1)), some (gi (wm + ((gq q.2.1 g).2.2.2.2.2.length : Int))), some (gi (g + 1)), some (gi (dpt q.2.1 5 g))]) rfl ?_
                refine gX_goto (tgt := 26) dX12_about_124 (by decide) ?_
                have eb : (g + 1).toNat = g.toNat + 1 := by omega
                have en : ((g.toNat : Nat) : Int) = g := by omega
                refine ih (g + 1) _ _ _ _ _ _ _ (by omega) (by omega) (by omega) ?_ ?_ ?_ ?_ (by omega) (by omega)
                · rw [eb, maxB_s, ← q2]
                  show _ = max dm (dpt q.2.1 5 ((g.toNat : Nat) : Int))
                  rw [en]
                  omega
                · rw [eb, cntB_s, ← q3]
                  show _ = sm + (if decide (ordS q.2.1 ((g.toNat : Nat) : Int) = 0) = true then 1 else 0)
                  rw [en]
                  rw [if_pos (decide_eq_true (by assumption))]
                · rw [eb, cntB_s, ← q4]
                  show _ = am + (if decide ((gq q.2.1 ((g.toNat : Nat) : Int)).1 = 0) = true then 1 else 0)
                  rw [en]
                  rw [if_pos (decide_eq_true (by assumption))]
                · rw [eb, sumB_s, ← q5]
                  show _ = wm + ((gq q.2.1 ((g.toNat : Nat) : Int)).2.2.2.2.2.length : Int)
                  rw [en]
    exact lp 21 0 0 0 0 0 none _ _ (by omega) (by omega) (by omega) rfl rfl rfl rfl (by omega) (by omega)
  · have m1 := inR_0 m1
    refine gX_sipush dX12_about_8 (by decide) ⟨by decide, by decide⟩ ?_
    refine gX_iret dX12_about_11 (Or.inl rfl) ?_
    have ea : aAbout S b w = -1001 := by
      unfold aAbout
      rw [if_neg (by omega)]
    rw [ea] at hQ
    exact hQ V qFr.rf
end MD9
