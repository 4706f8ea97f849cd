/-! The reference: words put for others, in the whole book. Written by wip/whole/tools/mk_md24.py. -/
/-- the book at work -/
def wkI (V : Int → Int → Int) (s : cS) : Prop := rbIs V 10 s.1 s.2.1 ∧ rsIs V 10 s.1 s.2.1 ∧ goI V s.2.1 ∧ tcI V s.2.2.1 s.2.2.2 ∧ wfS s ∧ hlW s.2.1
def wkF (V V' : Int → Int → Int) : Prop := ∀ a k, ¬ (inSl 10 a k ∧ a ≠ 786 ∧ a ≠ 787) → a ≠ 804 → a ≠ 812 → V' a k = V a k
theorem wkF.rf {V : Int → Int → Int} : wkF V V := fun _ _ _ _ _ => rfl
theorem wkF.trans {V V1 V2 : Int → Int → Int} (h : wkF V V1) (h2 : wkF V1 V2) : wkF V V2 := fun a k h3 h4 h5 => (h2 a k h3 h4 h5).trans (h a k h3 h4 h5)
theorem wkF.o {V V' : Int → Int → Int} (h : wkF V V') {a : Int} (ha : a < 776 ∨ 789 < a) (h4 : a ≠ 804) (h8 : a ≠ 812) : V' a = V a := funext fun k => h a k (by unfold inSl; omega) h4 h8
theorem wkF.up {V V1 : Int → Int → Int} (h : wkF V V1) {a k x : Int} (hk : inSl 10 a k) (ha : a ≠ 786 ∧ a ≠ 787 := by omega) : wkF V (gup V1 a k x) := fun a' k' h3 h4 h5 => by
  rw [gup_c (Decidable.byContradiction fun z => h3 (by have : a' = a ∧ k' = k := by omega
                                                       rw [this.1, this.2]; exact ⟨hk, ha⟩))]
  exact h a' k' h3 h4 h5
theorem goF.wk {V V' : Int → Int → Int} (h : goF V V') : wkF V V' := fun a k h3 h4 h5 => by
  by_cases c : a = 778
  · subst c; exact h.2.1 k (fun z => h3 (by unfold inSl; omega))
  · by_cases c2 : a = 785
    · subst c2; exact h.2.2 k (fun z => h3 (by unfold inSl; omega))
    · rw [h.1 a c c2 h4]
theorem tcO.wk {V V' : Int → Int → Int} (h : tcO V V') : wkF V V' := fun a k h3 h4 h5 => by
  by_cases c : a = 788
  · subst c; exact (h.2 k (fun z => h3 (by unfold inSl; omega))).1
  · by_cases c2 : a = 789
    · subst c2; exact (h.2 k (fun z => h3 (by unfold inSl; omega))).2
    · rw [h.1 a c c2]
theorem chO.wk {V V' : Int → Int → Int} (h : chO V V') : wkF V V' := fun a k h3 h4 h5 => by
  by_cases c : a = 788
  · subst c; exact (h.2 k (fun z => h3 (by unfold inSl; omega))).1
  · by_cases c2 : a = 789
    · subst c2; exact (h.2 k (fun z => h3 (by unfold inSl; omega))).2
    · rw [h.1 a c c2 h5]
theorem rhA.wk {V V' : Int → Int → Int} {h : Int} {q : gbH} (hr : rhA V h q) (hf : wkF V V') : rhA V' h q := by
  unfold rhA
  rw [hf.o (a := 793) (by omega) (by omega) (by omega), hf.o (a := 794) (by omega) (by omega) (by omega), hf.o (a := 795) (by omega) (by omega) (by omega), hf.o (a := 796) (by omega) (by omega) (by omega), hf.o (a := 797) (by omega) (by omega) (by omega), hf.o (a := 798) (by omega) (by omega) (by omega), hf.o (a := 799) (by omega) (by omega) (by omega)]
  exact hr
/-- all but words, counts, chances, takes is as it was -/
def dfF (V V' : Int → Int → Int) : Prop := ∀ a, a ≠ 777 → a ≠ 784 → a ≠ 788 → a ≠ 789 → a ≠ 812 → V' a = V a
theorem chO.df {V V' : Int → Int → Int} (h : chO V V') : dfF V V' := fun a _ _ h3 h4 h5 => h.1 a h3 h4 h5
theorem dfF.trans {V V1 V2 : Int → Int → Int} (h : dfF V V1) (h2 : dfF V1 V2) : dfF V V2 := fun a a1 a2 a3 a4 a5 => (h2 a a1 a2 a3 a4 a5).trans (h a a1 a2 a3 a4 a5)
theorem rbIs.ch {V V' : Int → Int → Int} {tx : List Int} {gs : List gG} (h : rbIs V 10 tx gs) (hf : chO V V') : rbIs V' 10 tx gs := by
  unfold rbIs rgIs
  rw [hf.1 776 (by omega) (by omega) (by omega), hf.1 777 (by omega) (by omega) (by omega), hf.1 779 (by omega) (by omega) (by omega), hf.1 780 (by omega) (by omega) (by omega), hf.1 781 (by omega) (by omega) (by omega), hf.1 783 (by omega) (by omega) (by omega), hf.1 784 (by omega) (by omega) (by omega)]
  exact h
theorem rbIs.putw {V : Int → Int → Int} {tx : List Int} {gs : List gG} {b i x : Int} (h : rbIs V b tx gs) (i0 : 0 ≤ i) (i1 : i < tx.length) : rbIs (gup V 777 (40 * b + i) x) b (lput tx i x) gs := by
  have hl : (lput tx i x).length = tx.length := lpL ..
  refine ⟨by rw [gup_ne (by omega), hl]; exact h.1, by rw [hl]; exact h.2.1, fun j y hj => ?_, by rw [gup_ne (by omega)]; exact h.2.2.2.1, h.2.2.2.2.1, fun k q hk => ?_⟩
  · rw [lput_at i0 i1] at hj
    by_cases e : (j : Int) = i
    · rw [if_pos e] at hj
      cases hj
      rw [show 40 * b + (j : Int) = 40 * b + i by omega]
      exact gup_s
    · rw [if_neg e] at hj
      rw [gup_c (by omega)]
      exact h.2.2.1 j y hj
  · have := h.2.2.2.2.2 k q hk
    unfold rgIs at this ⊢
    rw [gup_ne (by omega), gup_ne (by omega), gup_ne (by omega), gup_ne (by omega)]
    exact this
theorem rbIs.putr {V : Int → Int → Int} {tx : List Int} {gs : List gG} {b g i x : Int} (h : rbIs V b tx gs) (g0 : 0 ≤ g) (g1 : g < gs.length) (i0 : 0 ≤ i) (i1 : i < (gq gs g).2.2.2.2.2.length) : rbIs (gup V 784 (8 * (20 * b + g) + i) x) b tx (gs.set g.toNat (rwG (gq gs g) (lput (gq gs g).2.2.2.2.2 i x))) := by
  have h8 := (h.gl g0 g1).2.2.2.1
  refine ⟨by rw [gup_ne (by omega)]; exact h.1, h.2.1, fun j y hj => by rw [gup_ne (by omega)]; exact h.2.2.1 j y hj, by rw [gup_ne (by omega), List.length_set]; exact h.2.2.2.1, by rw [List.length_set]; exact h.2.2.2.2.1, fun k q hk => ?_⟩
  by_cases e : g.toNat = k
  · subst e
    rw [List.getElem?_set_self (by omega)] at hk
    cases hk
    have hq := h.gl g0 g1
    rw [Int.toNat_of_nonneg g0]
    unfold rgIs at hq ⊢
    have hl : (lput (gq gs g).2.2.2.2.2 i x).length = (gq gs g).2.2.2.2.2.length := lpL ..
    show _ ∧ _ ∧ _ ∧ (lput (gq gs g).2.2.2.2.2 i x).length ≤ 8 ∧ ∀ (j : Nat) (y : Int), (lput (gq gs g).2.2.2.2.2 i x)[j]? = some y → _
    refine ⟨by rw [gup_ne (by omega)]; exact hq.1, by rw [gup_ne (by omega)]; exact hq.2.1, ?_, by rw [hl]; exact h8, fun j y hj => ?_⟩
    · rw [gup_ne (by omega)]
      show _ = ((lput (gq gs g).2.2.2.2.2 i x).length : Int)
      rw [hl]; exact hq.2.2.1
    · rw [lput_at i0 i1] at hj
      by_cases e : (j : Int) = i
      · rw [if_pos e] at hj
        cases hj
        rw [show (j : Int) = i by omega]
        exact gup_s
      · rw [if_neg e] at hj
        rw [gup_c (by omega)]
        exact hq.2.2.2.2 j y hj
  · rw [List.getElem?_set_ne e] at hk
    have hq := h.2.2.2.2.2 k q hk
    unfold rgIs at hq ⊢
    refine ⟨by rw [gup_ne (by omega)]; exact hq.1, by rw [gup_ne (by omega)]; exact hq.2.1, by rw [gup_ne (by omega)]; exact hq.2.2.1, hq.2.2.2.1, fun j y hj => ?_⟩
    have hj2 := (List.getElem?_eq_some_iff.mp hj).1
    have hk2 := hq.2.2.2.1
    rw [gup_c (by omega)]
    exact hq.2.2.2.2 j y hj
theorem lk.gq {gs gs' : List gG} (h : lk gs gs') (k : Int) : skQ (gq gs' k) = skQ (gq gs k) := by
  have hl := h.len
  by_cases c : k.toNat < gs.length
  · have e1 : gs'[k.toNat]? = some (Jvm.Pilot.CGlossedBooksLaw_law_r9784_8fc8ff.gq gs' k) := by
      unfold Jvm.Pilot.CGlossedBooksLaw_law_r9784_8fc8ff.gq
      rw [List.getD_eq_getElem?_getD, List.getElem?_eq_getElem (by omega)]; rfl
    obtain ⟨p, hp, e⟩ := h.at e1
    have e2 : Jvm.Pilot.CGlossedBooksLaw_law_r9784_8fc8ff.gq gs k = p := by
      unfold Jvm.Pilot.CGlossedBooksLaw_law_r9784_8fc8ff.gq
      rw [List.getD_eq_getElem?_getD, hp]; rfl
    rw [e2]; exact e
  · unfold Jvm.Pilot.CGlossedBooksLaw_law_r9784_8fc8ff.gq
    rw [List.getD_eq_getElem?_getD, List.getD_eq_getElem?_getD, List.getElem?_eq_none (by omega), List.getElem?_eq_none (by omega)]
theorem lk.rw {tx tx' : List Int} {gs gs' : List gG} (h : lk gs gs') (hl : tx'.length = tx.length) (x : Int) : (rwL tx' gs' x).length = (rwL tx gs x).length := by
  unfold rwL
  rw [h.len]
  by_cases c : 0 ≤ x ∧ x < gs.length
  · rw [if_pos c, if_pos c]; exact (skQ_of (h.gq x)).2.2.2.2.2
  · rw [if_neg c, if_neg c]; exact hl
theorem lk.lv {gs gs' : List gG} (h : lk gs gs') (k : Int) : lvQ (Jvm.Pilot.CGlossedBooksLaw_law_r9784_8fc8ff.gq gs' k) ↔ lvQ (Jvm.Pilot.CGlossedBooksLaw_law_r9784_8fc8ff.gq gs k) := by unfold lvQ; rw [(skQ_of (h.gq k)).2.2.2.2.1]
theorem lk.ho {gs gs' : List gG} (h : lk gs gs') (k : Int) : hoK gs' k ↔ hoK gs k := by unfold hoK; rw [h.len, h.lv]
theorem lk.cv {gs gs' : List gG} (h : lk gs gs') (k x i : Int) : cvQ (Jvm.Pilot.CGlossedBooksLaw_law_r9784_8fc8ff.gq gs' k) x i ↔ cvQ (Jvm.Pilot.CGlossedBooksLaw_law_r9784_8fc8ff.gq gs k) x i := by
  obtain ⟨-, e2, e3, e4, -, -⟩ := skQ_of (h.gq k)
  unfold cvQ; rw [e2, e3, e4]
theorem lk.rs {V V' : Int → Int → Int} {b : Int} {tx tx' : List Int} {gs gs' : List gG} (h : lk gs gs') (hl : tx'.length = tx.length) (hs : rsIs V b tx gs) (h778 : V' 778 = V 778) (h785 : V' 785 = V 785) (h782 : V' 782 = V 782) : rsIs V' b tx' gs' := by
  have hsp : ∀ x i, spA V' b x i = spA V b x i := fun x i => by unfold spA; rw [h778, h785]
  refine ⟨fun g g0 g1 lg => ?_, fun x i hx i0 i1 hn => ?_⟩
  · rw [h782]
    rw [h.len] at g1
    obtain ⟨s1, s2⟩ := hs.1 g g0 g1 ((h.lv g).mp lg)
    refine ⟨s1, fun x i hx i0 i1 => ?_⟩
    rw [hsp, h.cv]
    exact s2 x i ((h.ho x).mp hx) i0 (by rw [← h.rw hl]; exact i1)
  · rw [hsp]
    exact hs.2 x i ((h.ho x).mp hx) i0 (by rw [← h.rw hl]; exact i1) (fun g g0 g1 lg z => hn g g0 (by rw [h.len]; exact g1) ((h.lv g).mpr lg) ((h.cv g x i).mpr z))
theorem lk.go {V V' : Int → Int → Int} {gs gs' : List gG} (h : lk gs gs') (hg : goI V gs) (h4 : V' 804 = V 804) : goI V' gs' := fun g g0 g1 => by
  rw [h.len] at g1
  rw [h4, (skQ_of (h.gq g)).2.2.2.2.1]
  exact hg g g0 g1
theorem lk.hl {gs gs' : List gG} (h : lk gs gs') (hg : hlW gs) : hlW gs' := fun k k0 k1 lk' => by
  rw [h.len] at k1
  rw [(skQ_of (h.gq k)).2.1, h.ho]
  exact hg k k0 k1 ((h.lv k).mp lk')
theorem foB.b0 {t : fS} {c : Int} (h : foB t c) (hc : c ≤ 1000000) : 0 ≤ lat t.2.2.1 0 ∧ lat t.2.2.1 0 ≤ 1000000 ∧ 0 ≤ lat t.2.2.2 0 ∧ lat t.2.2.2 0 ≤ 1000000 := by
  have h1 := h.1.2 0 (by omega) (by omega)
  have h2 := h.2.1.2 0 (by omega) (by omega)
  omega
theorem foB.row {xs ys : List Int} {t : ccT} {c : Int} (h : foB (xs, t) c) : foB (ys, t) c := h
section MD24
variable {l : Launch} {E : gE} {d : Nat} {K : List gK} {R V : Int → Int → Int} {h : Int} {Q : gQ} {s : cS} {q : gbH}
set_option maxRecDepth 4000 in
theorem m_doFor (hM : mdK K R) (hh : 0 ≤ h ∧ h < 4) (hr : rhA V h q) (hi : hInv q) (hs : wkI V s) (hc0 : cBd s.2.2.1 0) (ht0 : cBd s.2.2.2 0) (hQ : ∀ V', wkI V' (wr1 q.1 q.2.1 q.2.2.1 s) → wkF V V' → Q none (K, R, V')) : gC l E (d + 3) iX12_doFor [ga 775, gi h] (K, R, V) Q := by
  refine gC_of kX12_doFor (ls := [some (ga 775), some (gi h), none, none]) rfl (Nat.le_of_ble_eq_true rfl) ?_
  have h40 := hs.1.2.1
  have h20 := hs.1.2.2.2.2.1
  have h4 := hi.2.2.1
  have hnd := hi.2.2.2.2.2.2.2.2.1
  have hl3 := hi.2.1
  have hfe : ∀ k : Int, 0 ≤ k → k < q.1.length → 1 ≤ lat q.2.2.1 k := fun k k0 k1 => hi.2.2.2.2.2.2.2.2.2 _ (by rw [lat_in k0 (by omega)]; exact List.getElem_mem _)
  have h8 : ∀ q ∈ s.2.1, q.2.2.2.2.2.length ≤ 8 := fun x hx => by
    obtain ⟨k, hk⟩ := List.mem_iff_getElem?.mp hx
    exact (hs.1.2.2.2.2.2 k x hk).2.2.2.1
  have l3 : ∀ (jj : Nat) (g : Int) (j3 : Option gV) (V1 : Int → Int → Int) (t : fG) (xs : List Int) (bc bs : Nat), (s.2.1.length : Int) - g < (jj : Int) → 0 ≤ g → g ≤ s.2.1.length → foB ([], t.2) (160 + 32 * g) → rbIs V1 10 xs t.1 → t.1.length = s.2.1.length → cnI V1 t.2.1 q.1.length → tcI V1 t.2.2.1 t.2.2.2 → dfF V V1 → wkF V V1 → foZ q.1 q.2.1 q.2.2.1 s = foG q.1 q.2.1 q.2.2.1 (s.2.1.length - g.toNat) g t → xs = (foA q.1 q.2.1 q.2.2.1 s).1 → gX l E (gFm E (d + 3) iX12_doFor Q) 68 [some (ga 775), some (gi h), some (gi (200 + g)), j3] [] (K, R, V1) bc bs := by
    intro jj
    induction jj with
    | zero =>
      intro g j3 V1 t xs bc bs hj q0 q1 q2 q3 q4 q5 q6 q7 q8 q9 q10
      exfalso; omega
    | succ jj ih =>
      intro g j3 V1 t xs bc bs hj q0 q1 q2 q3 q4 q5 q6 q7 q8 q9 q10
      refine gX_iloadn dX12_doFor_68 rfl ?_
      refine gX_sipush dX12_doFor_69 (by decide) ⟨by decide, by decide⟩ ?_
      refine gX_aloadn dX12_doFor_72 rfl ?_
      refine gX_gR 4 dX12_doFor_73 fdX12_19 rfl rfl hM.1 (mR4 hM) ?_
      refine gX_bipush dX12_doFor_76 (by decide) ⟨by decide, by decide⟩ ?_
      refine gX_iald dX12_doFor_78 (mA4 hM) (by omega) (by omega) ?_
      rw [q3.2.2.2.1, q4]
      refine gX_iadd dX12_doFor_79 ⟨by omega, by omega⟩ ?_
      refine gX_icmpge (tgt := 132) dX12_doFor_80 (by decide) (fun b1 => ?_) (fun b1 => ?_)
      · refine gX_vret dX12_doFor_132 rfl ?_
        have ei : s.2.1.length - g.toNat = 0 := by omega
        rw [ei] at q9
        have q9 : foZ q.1 q.2.1 q.2.2.1 s = t := q9
        have hlk := foS_lk q.1 q.2.1 q.2.2.1 s
        have htx := foS_tx q.1 q.2.1 q.2.2.1 s
        have hw1 := wr1_h (fr := q.1) (to := q.2.1) (fe := q.2.2.1) h4 hs.2.2.2.2.1 h8 hc0 ht0
        have es1 : (foS q.1 q.2.1 q.2.2.1 s).1 = xs := q10.symm
        have es2 : (foS q.1 q.2.1 q.2.2.1 s).2.1 = t.1 := by show (foZ q.1 q.2.1 q.2.2.1 s).1 = _; rw [q9]
        have es3 : (foS q.1 q.2.1 q.2.2.1 s).2.2.1 = t.2.2.1 := by show (foZ q.1 q.2.1 q.2.2.1 s).2.2.1 = _; rw [q9]
        have es4 : (foS q.1 q.2.1 q.2.2.1 s).2.2.2 = t.2.2.2 := by show (foZ q.1 q.2.1 q.2.2.1 s).2.2.2 = _; rw [q9]
        refine hQ V1 (show wkI V1 (foS q.1 q.2.1 q.2.2.1 s) from ⟨by rw [es1, es2]; exact q3, hlk.rs htx hs.2.1 (q7 778 (by omega) (by omega) (by omega) (by omega) (by omega)) (q7 785 (by omega) (by omega) (by omega) (by omega) (by omega)) (q7 782 (by omega) (by omega) (by omega) (by omega) (by omega)), hlk.go hs.2.2.1 (q7 804 (by omega) (by omega) (by omega) (by omega) (by omega)), by rw [es3, es4]; exact q6, hw1.1, hlk.hl hs.2.2.2.2.2⟩) q8
      · refine gX_bipush dX12_doFor_83 (by decide) ⟨by decide, by decide⟩ ?_
        refine gX_iloadn dX12_doFor_85 rfl ?_
        refine gX_imul dX12_doFor_86 ⟨by omega, by omega⟩ ?_
        refine gX_istoren dX12_doFor_87 (show (3 : Nat) < 4 from by decide) (ls2 := [some (ga 775), some (gi h), some (gi (200 + g)), some (gi (8 * (200 + g)))]) rfl ?_
        have g0 := q0
        have hg1 : g < s.2.1.length := by omega
        have ihg := ih
        have l4 : ∀ (jj : Nat) (i : Int) (V1 : Int → Int → Int) (t : fG) (bc bs : Nat), ((gq t.1 g).2.2.2.2.2.length : Int) - i < (jj : Int) → 0 ≤ i → i ≤ ((gq t.1 g).2.2.2.2.2.length : Int) → foB ([], t.2) (160 + 32 * g + 4 * i) → rbIs V1 10 xs t.1 → t.1.length = s.2.1.length → cnI V1 t.2.1 q.1.length → tcI V1 t.2.2.1 t.2.2.2 → dfF V V1 → wkF V V1 → foZ q.1 q.2.1 q.2.2.1 s = (foG q.1 q.2.1 q.2.2.1 (s.2.1.length - (g + 1).toNat) (g + 1) (t.1.set g.toNat (rwG (gq t.1 g) (foR q.1 q.2.1 q.2.2.1 ((gq t.1 g).2.2.2.2.2.length - i.toNat) i ((gq t.1 g).2.2.2.2.2, t.2)).1), (foR q.1 q.2.1 q.2.2.1 ((gq t.1 g).2.2.2.2.2.length - i.toNat) i ((gq t.1 g).2.2.2.2.2, t.2)).2)) → xs = (foA q.1 q.2.1 q.2.2.1 s).1 → gX l E (gFm E (d + 3) iX12_doFor Q) 88 [some (ga 775), some (gi h), some (gi (200 + g)), some (gi (8 * (200 + g) + i))] [] (K, R, V1) bc bs := by
          intro jj
          induction jj with
          | zero =>
            intro i V1 t bc bs hj q0 q1 q2 q3 q4 q5 q6 q7 q8 q9 q10
            exfalso; omega
          | succ jj ih =>
            intro i V1 t bc bs hj q0 q1 q2 q3 q4 q5 q6 q7 q8 q9 q10
            have hgl := q3.gl (g := g) g0 (by omega)
            have hr8 := hgl.2.2.2.1
            refine gX_iloadn dX12_doFor_88 rfl ?_
            refine gX_bipush dX12_doFor_89 (by decide) ⟨by decide, by decide⟩ ?_
            refine gX_iloadn dX12_doFor_91 rfl ?_
            refine gX_imul dX12_doFor_92 ⟨by omega, by omega⟩ ?_
            refine gX_aloadn dX12_doFor_93 rfl ?_
            refine gX_gR 8 dX12_doFor_94 fdX12_31 rfl rfl hM.1 (mR8 hM) ?_
            refine gX_iloadn dX12_doFor_97 rfl ?_
            refine gX_iald dX12_doFor_98 (mA8 hM) (by omega) (by omega) ?_
            rw [show V1 783 (200 + g) = ((gq t.1 g).2.2.2.2.2.length : Int) from hgl.2.2.1]
            refine gX_iadd dX12_doFor_99 ⟨by omega, by omega⟩ ?_
            refine gX_icmpge (tgt := 126) dX12_doFor_100 (by decide) (fun c1 => ?_) (fun c1 => ?_)
            · refine gX_iinc dX12_doFor_126 rfl (show (2 : Nat) < 4 from by decide) ⟨by omega, by omega⟩ (ls2 := [some (ga 775), some (gi h), some (gi ((200 + g) + 1)), some (gi (8 * (200 + g) + i))]) rfl ?_
              refine gX_goto (tgt := 68) dX12_doFor_129 (by decide) ?_
              have ei : (gq t.1 g).2.2.2.2.2.length - i.toNat = 0 := by omega
              rw [ei] at q9
              have q9 : foZ q.1 q.2.1 q.2.2.1 s = foG q.1 q.2.1 q.2.2.1 (s.2.1.length - (g + 1).toNat) (g + 1) (t.1.set g.toNat (rwG (gq t.1 g) (gq t.1 g).2.2.2.2.2), t.2) := q9
              have es : t.1.set g.toNat (rwG (gq t.1 g) (gq t.1 g).2.2.2.2.2) = t.1 := by
                have e1 := gq_in (gs := t.1) (g := g) g0 (by omega)
                rw [show rwG (gq t.1 g) (gq t.1 g).2.2.2.2.2 = gq t.1 g from rfl]
                apply List.ext_getElem?
                intro j
                by_cases ej : g.toNat = j
                · subst ej; rw [List.getElem?_set_self (by omega), e1]
                · rw [List.getElem?_set_ne ej]
              rw [es] at q9
              rw [show (200 + g) + 1 = 200 + (g + 1) by omega]
              exact ihg (g + 1) _ _ _ _ _ _ (by omega) (by omega) (by omega) (foB.up q2 (by have := hr8; omega)) q3 q4 q5 q6 q7 q8 q9 q10
            · refine gX_aloadn dX12_doFor_103 rfl ?_
              refine gX_gR 9 dX12_doFor_104 fdX12_34 rfl rfl hM.1 (mR9 hM) ?_
              refine gX_iloadn dX12_doFor_107 rfl ?_
              refine gX_aloadn dX12_doFor_108 rfl ?_
              refine gX_iloadn dX12_doFor_109 rfl ?_
              refine gX_aloadn dX12_doFor_110 rfl ?_
              refine gX_gR 9 dX12_doFor_111 fdX12_34 rfl rfl hM.1 (mR9 hM) ?_
              refine gX_iloadn dX12_doFor_114 rfl ?_
              refine gX_iald dX12_doFor_115 (mA9 hM) (by omega) (by omega) ?_
              rw [show V1 784 (8 * (200 + g) + i) = lat (gq t.1 g).2.2.2.2.2 i from hgl.rw q0 (by omega)]
              refine gX_virt (J := iX12_changed) (av := [gi h, gi (lat (gq t.1 g).2.2.2.2.2 i)]) (a := 775) (st := [gi (8 * (200 + g) + i), ga 784]) dX12_doFor_116 lkX12_346 kX12_changed vX12_changed (gFit_m (by decide)) hM.1 rfl rfl (Nat.le_of_ble_eq_true rfl) (Nat.zero_le _) (Nat.zero_le _) rfl ?_
              refine m_changed (q := q) (t := t.2) hM hh (hr.wk q8) hfe q6 q5 (fun k => by have hb9 : -1 ≤ lat t.2.1 k ∧ lat t.2.1 k ≤ 160 + 32 * g + 4 * i := q2.2.2 k; omega) (foB.b0 (t := ([], t.2)) q2 (by omega)) (fun V2 htc2 hcn2 hf2 => ?_)
              show gX l E _ 119 [some (ga 775), some (gi h), some (gi (200 + g)), some (gi (8 * (200 + g) + i))] [gi ((chF q.1 q.2.1 q.2.2.1 (lat (gq t.1 g).2.2.2.2.2 i) q.1.length 0 t.2).1), gi (8 * (200 + g) + i), ga 784] (K, R, V2) _ _
              refine gX_iast dX12_doFor_119 (mA9 hM) (by omega) (by omega) ?_
              refine gX_iinc dX12_doFor_120 rfl (show (3 : Nat) < 4 from by decide) ⟨by omega, by omega⟩ (ls2 := [some (ga 775), some (gi h), some (gi (200 + g)), some (gi ((8 * (200 + g) + i) + 1))]) rfl ?_
              refine gX_goto (tgt := 88) dX12_doFor_123 (by decide) ?_
              have hgl := q3.gl (g := g) g0 (by omega)
              have hr8 := hgl.2.2.2.1
              obtain ⟨z, ez⟩ : ∃ z, z = chF q.1 q.2.1 q.2.2.1 (lat (gq t.1 g).2.2.2.2.2 i) q.1.length 0 t.2 := ⟨_, rfl⟩
              rw [← ez] at htc2 hcn2
              have ek : foK q.1 q.2.1 q.2.2.1 (lat (gq t.1 g).2.2.2.2.2 i) i q.1.length 0 ((gq t.1 g).2.2.2.2.2, t.2) = (lput (gq t.1 g).2.2.2.2.2 i z.1, z.2) := by rw [ez]; exact foK_ch hnd q.1.length 0 ((gq t.1 g).2.2.2.2.2, t.2) (by omega) (by omega) rfl q0 (by show i < ((gq t.1 g).2.2.2.2.2.length : Int); omega)
              have hB9 : foB (((gq t.1 g).2.2.2.2.2, t.2) : fS) (160 + 32 * g + 4 * i) := q2.row
              have hB8 := foK_B (fr := q.1) (to := q.2.1) (fe := q.2.2.1) (w := lat (gq t.1 g).2.2.2.2.2 i) (i := i) q.1.length 0 _ _ hB9
              rw [ek] at hB8
              have eg : gq (t.1.set g.toNat (rwG (gq t.1 g) (lput (gq t.1 g).2.2.2.2.2 i z.1))) g = rwG (gq t.1 g) (lput (gq t.1 g).2.2.2.2.2 i z.1) := by rw [gq_set g0 (by omega) g0, if_pos rfl]
              have er : (rwG (gq t.1 g) (lput (gq t.1 g).2.2.2.2.2 i z.1)).2.2.2.2.2 = lput (gq t.1 g).2.2.2.2.2 i z.1 := rfl
              have el : (lput (gq t.1 g).2.2.2.2.2 i z.1).length = (gq t.1 g).2.2.2.2.2.length := lpL ..
              rw [← ez]
              rw [show 8 * (200 + g) + i + 1 = 8 * (200 + g) + (i + 1) by omega]
              refine ih (i + 1) _ (t.1.set g.toNat (rwG (gq t.1 g) (lput (gq t.1 g).2.2.2.2.2 i z.1)), z.2) _ _ (by show ((gq (t.1.set _ _) g).2.2.2.2.2.length : Int) - _ < _; rw [eg, er, el]; omega) (by omega) (by show _ ≤ ((gq (t.1.set _ _) g).2.2.2.2.2.length : Int); rw [eg, er, el]; omega) (foB.up (foB.row hB8) (by omega)) ((q3.ch hf2).putr g0 (by omega) q0 (by omega)) (by show (t.1.set _ _).length = _; rw [List.length_set]; exact q4) ?_ ?_ ?_ ?_ ?_ q10
              · exact ⟨hcn2.1, fun j j0 j1 => by rw [gup_ne (by omega)]; exact hcn2.2 j j0 j1⟩
              · exact ⟨htc2.1, htc2.2.1, fun j j0 j1 => by rw [gup_ne (by omega), gup_ne (by omega)]; exact htc2.2.2 j j0 j1⟩
              · exact (q7.trans hf2.df).trans (fun a a1 a2 a3 a4 a5 => gup_ne a2)
              · exact (q8.trans hf2.wk).up (by unfold inSl; omega)
              · rw [q9]
                show (foG q.1 q.2.1 q.2.2.1 (s.2.1.length - (g + 1).toNat) (g + 1) (t.1.set g.toNat (rwG (gq t.1 g) (foR q.1 q.2.1 q.2.2.1 ((gq t.1 g).2.2.2.2.2.length - i.toNat) i ((gq t.1 g).2.2.2.2.2, t.2)).1), (foR q.1 q.2.1 q.2.2.1 ((gq t.1 g).2.2.2.2.2.length - i.toNat) i ((gq t.1 g).2.2.2.2.2, t.2)).2)) = foG q.1 q.2.1 q.2.2.1 _ _ ((t.1.set g.toNat (rwG (gq t.1 g) (lput (gq t.1 g).2.2.2.2.2 i z.1))).set g.toNat (rwG (gq (t.1.set g.toNat (rwG (gq t.1 g) (lput (gq t.1 g).2.2.2.2.2 i z.1))) g) (foR q.1 q.2.1 q.2.2.1 ((gq (t.1.set g.toNat (rwG (gq t.1 g) (lput (gq t.1 g).2.2.2.2.2 i z.1))) g).2.2.2.2.2.length - (i + 1).toNat) (i + 1) ((gq (t.1.set g.toNat (rwG (gq t.1 g) (lput (gq t.1 g).2.2.2.2.2 i z.1))) g).2.2.2.2.2, z.2)).1), (foR q.1 q.2.1 q.2.2.1 ((gq (t.1.set g.toNat (rwG (gq t.1 g) (lput (gq t.1 g).2.2.2.2.2 i z.1))) g).2.2.2.2.2.length - (i + 1).toNat) (i + 1) ((gq (t.1.set g.toNat (rwG (gq t.1 g) (lput (gq t.1 g).2.2.2.2.2 i z.1))) g).2.2.2.2.2, z.2)).2)
                rw [eg, er, el, List.set_set, ← ek]
                rw [show (gq t.1 g).2.2.2.2.2.length - i.toNat = ((gq t.1 g).2.2.2.2.2.length - (i + 1).toNat) + 1 by omega]
                rfl
        rw [show 8 * (200 + g) = 8 * (200 + g) + 0 by omega]
        refine l4 9 0 _ _ _ _ (by have := (q3.gl (g := g) q0 (by omega)).2.2.2.1; omega) (by omega) (by omega) (foB.up q2 (by omega)) q3 q4 q5 q6 q7 q8 ?_ q10
        rw [q9]
        rw [show s.2.1.length - g.toNat = (s.2.1.length - (g + 1).toNat) + 1 by omega]
        rfl
  have l2 : ∀ (jj : Nat) (i : Int) (j3 : Option gV) (V1 : Int → Int → Int) (t : fS) (bc bs : Nat), (s.1.length : Int) - i < (jj : Int) → 0 ≤ i → i ≤ s.1.length → foB t (4 * i) → rbIs V1 10 t.1 s.2.1 → t.1.length = s.1.length → cnI V1 t.2.1 q.1.length → tcI V1 t.2.2.1 t.2.2.2 → dfF V V1 → wkF V V1 → foA q.1 q.2.1 q.2.2.1 s = foR q.1 q.2.1 q.2.2.1 (s.1.length - i.toNat) i t → gX l E (gFm E (d + 3) iX12_doFor Q) 22 [some (ga 775), some (gi h), some (gi i), j3] [] (K, R, V1) bc bs := by
    intro jj
    induction jj with
    | zero =>
      intro i j3 V1 t bc bs hj q0 q1 q2 q3 q4 q5 q6 q7 q8 q9
      exfalso; omega
    | succ jj ih =>
      intro i j3 V1 t bc bs hj q0 q1 q2 q3 q4 q5 q6 q7 q8 q9
      refine gX_iloadn dX12_doFor_22 rfl ?_
      refine gX_aloadn dX12_doFor_23 rfl ?_
      refine gX_gR 1 dX12_doFor_24 fdX12_7 rfl rfl hM.1 (mR1 hM) ?_
      refine gX_bipush dX12_doFor_27 (by decide) ⟨by decide, by decide⟩ ?_
      refine gX_iald dX12_doFor_29 (mA1 hM) (by omega) (by omega) ?_
      rw [q3.1, q4]
      refine gX_icmpge (tgt := 64) dX12_doFor_30 (by decide) (fun a1 => ?_) (fun a1 => ?_)
      · refine gX_sipush dX12_doFor_64 (by decide) ⟨by decide, by decide⟩ ?_
        refine gX_istoren dX12_doFor_67 (show (2 : Nat) < 4 from by decide) (ls2 := [some (ga 775), some (gi h), some (gi 200), j3]) rfl ?_
        have ei : s.1.length - i.toNat = 0 := by omega
        rw [ei] at q9
        have q9 : foA q.1 q.2.1 q.2.2.1 s = t := q9
        refine l3 (s.2.1.length + 1) 0 _ _ (s.2.1, t.2) t.1 _ _ (by omega) (by omega) (by omega) (foB.up (foB.row (xs := t.1) q2) (by omega)) q3 rfl q5 q6 q7 q8 ?_ (by rw [q9])
        show foG _ _ _ _ _ (s.2.1, (foA q.1 q.2.1 q.2.2.1 s).2) = _
        rw [q9]
        rfl
      · refine gX_aloadn dX12_doFor_33 rfl ?_
        refine gX_gR 2 dX12_doFor_34 fdX12_13 rfl rfl hM.1 (mR2 hM) ?_
        refine gX_sipush dX12_doFor_37 (by decide) ⟨by decide, by decide⟩ ?_
        refine gX_iloadn dX12_doFor_40 rfl ?_
        refine gX_iadd dX12_doFor_41 ⟨by omega, by omega⟩ ?_
        refine gX_aloadn dX12_doFor_42 rfl ?_
        refine gX_iloadn dX12_doFor_43 rfl ?_
        refine gX_aloadn dX12_doFor_44 rfl ?_
        refine gX_gR 2 dX12_doFor_45 fdX12_13 rfl rfl hM.1 (mR2 hM) ?_
        refine gX_sipush dX12_doFor_48 (by decide) ⟨by decide, by decide⟩ ?_
        refine gX_iloadn dX12_doFor_51 rfl ?_
        refine gX_iadd dX12_doFor_52 ⟨by omega, by omega⟩ ?_
        refine gX_iald dX12_doFor_53 (mA2 hM) (by omega) (by omega) ?_
        rw [show V1 777 (400 + i) = lat t.1 i from q3.wd q0 (by omega)]
        refine gX_virt (J := iX12_changed) (av := [gi h, gi (lat t.1 i)]) (a := 775) (st := [gi (400 + i), ga 777]) dX12_doFor_54 lkX12_346 kX12_changed vX12_changed (gFit_m (by decide)) hM.1 rfl rfl (Nat.le_of_ble_eq_true rfl) (Nat.zero_le _) (Nat.zero_le _) rfl ?_
        refine m_changed (q := q) (t := t.2) hM hh (hr.wk q8) hfe q6 q5 (fun k => by have := q2.2.2 k; exact ⟨this.1, by have := this.2; omega⟩) (foB.b0 (t := t) q2 (by omega)) (fun V2 htc2 hcn2 hf2 => ?_)
        show gX l E _ 57 [some (ga 775), some (gi h), some (gi i), j3] [gi ((chF q.1 q.2.1 q.2.2.1 (lat t.1 i) q.1.length 0 t.2).1), gi (400 + i), ga 777] (K, R, V2) _ _
        refine gX_iast dX12_doFor_57 (mA2 hM) (by omega) (by omega) ?_
        refine gX_iinc dX12_doFor_58 rfl (show (2 : Nat) < 4 from by decide) ⟨by omega, by omega⟩ (ls2 := [some (ga 775), some (gi h), some (gi (i + 1)), j3]) rfl ?_
        refine gX_goto (tgt := 22) dX12_doFor_61 (by decide) ?_
        obtain ⟨z, ez⟩ : ∃ z, z = chF q.1 q.2.1 q.2.2.1 (lat t.1 i) q.1.length 0 t.2 := ⟨_, rfl⟩
        rw [← ez] at htc2 hcn2
        have ek : foK q.1 q.2.1 q.2.2.1 (lat t.1 i) i q.1.length 0 t = (lput t.1 i z.1, z.2) := by rw [ez]; exact foK_ch hnd q.1.length 0 t (by omega) (by omega) rfl q0 (by omega)
        have hB8 := foK_B (fr := q.1) (to := q.2.1) (fe := q.2.2.1) (w := lat t.1 i) (i := i) q.1.length 0 _ _ q2
        rw [ek] at hB8
        rw [← ez]
        have el : (lput t.1 i z.1).length = t.1.length := lpL ..
        refine ih (i + 1) _ _ (lput t.1 i z.1, z.2) _ _ (by omega) (by omega) (by omega) (foB.up hB8 (by omega)) ((q3.ch hf2).putw q0 (by omega)) (el.trans q4) ?_ ?_ ?_ ?_ ?_
        · exact ⟨hcn2.1, fun j j0 j1 => by rw [gup_ne (by omega)]; exact hcn2.2 j j0 j1⟩
        · exact ⟨htc2.1, htc2.2.1, fun j j0 j1 => by rw [gup_ne (by omega), gup_ne (by omega)]; exact htc2.2.2 j j0 j1⟩
        · exact (q7.trans hf2.df).trans (fun a a1 a2 a3 a4 a5 => gup_ne a1)
        · exact (q8.trans hf2.wk).up (by unfold inSl; omega)
        · rw [q9, ← ek]
          rw [show s.1.length - i.toNat = (s.1.length - (i + 1).toNat) + 1 by omega]
          rfl
  have l1 : ∀ (jj : Nat) (i : Int) (j3 : Option gV) (V1 : Int → Int → Int) (bc bs : Nat), (4 : Int) - i < (jj : Int) → 0 ≤ i → i ≤ 4 → (∀ j : Int, 0 ≤ j → j < i → V1 812 j = 0) → (∀ a, a ≠ 812 → V1 a = V a) → gX l E (gFm E (d + 3) iX12_doFor Q) 2 [some (ga 775), some (gi h), some (gi i), j3] [] (K, R, V1) bc bs := by
    intro jj
    induction jj with
    | zero =>
      intro i j3 V1 bc bs hj q0 q1 q2 q3
      exfalso; omega
    | succ jj ih =>
      intro i j3 V1 bc bs hj q0 q1 q2 q3
      refine gX_iloadn dX12_doFor_2 rfl ?_
      refine gX_iconst dX12_doFor_3 ⟨by decide, by decide⟩ ?_
      refine gX_icmpge (tgt := 20) dX12_doFor_4 (by decide) (fun m1 => ?_) (fun m1 => ?_)
      · refine gX_iconst dX12_doFor_20 ⟨by decide, by decide⟩ ?_
        refine gX_istoren dX12_doFor_21 (show (2 : Nat) < 4 from by decide) (ls2 := [some (ga 775), some (gi h), some (gi 0), j3]) rfl ?_
        refine l2 (s.1.length + 1) 0 _ _ (s.1, List.replicate q.1.length 0, s.2.2.1, s.2.2.2) _ _ (by omega) (by omega) (by omega) ⟨hc0.up (by omega), ht0.up (by omega), fun k => by have : lat (List.replicate q.1.length 0) k = -1 ∨ lat (List.replicate q.1.length 0) k = 0 := lat_rep _ _; show -1 ≤ lat (List.replicate q.1.length 0) k ∧ lat (List.replicate q.1.length 0) k ≤ 0; omega⟩ ?_ rfl ⟨List.length_replicate, fun j j0 j1 => ?_⟩ ?_ (fun a a1 a2 a3 a4 a5 => q3 a a5) (fun a k h3 h4 h5 => by rw [q3 a h5]) rfl
        · have hb0 := hs.1
          unfold rbIs rgIs at hb0 ⊢
          rw [q3 776 (by omega), q3 777 (by omega), q3 779 (by omega), q3 780 (by omega), q3 781 (by omega), q3 783 (by omega), q3 784 (by omega)]
          exact hb0
        · show V1 812 j = lat (List.replicate q.1.length 0) j
          rw [q2 j j0 (by omega), lat_in j0 (by rw [List.length_replicate]; omega), List.getElem_replicate]
        · have ht9 := hs.2.2.2.1
          exact ⟨ht9.1, ht9.2.1, fun j j0 j1 => by rw [q3 789 (by omega), q3 788 (by omega)]; exact ht9.2.2 j j0 j1⟩
      · refine gX_aloadn dX12_doFor_7 rfl ?_
        refine gX_gR 56 dX12_doFor_8 fdX12_123 rfl rfl hM.1 (mR56 hM) ?_
        refine gX_iloadn dX12_doFor_11 rfl ?_
        refine gX_iconst dX12_doFor_12 ⟨by decide, by decide⟩ ?_
        refine gX_iast dX12_doFor_13 (mA56 hM) (by omega) (by omega) ?_
        refine gX_iinc dX12_doFor_14 rfl (show (2 : Nat) < 4 from by decide) ⟨by omega, by omega⟩ (ls2 := [some (ga 775), some (gi h), some (gi (i + 1)), j3]) rfl ?_
        refine gX_goto (tgt := 2) dX12_doFor_17 (by decide) ?_
        refine ih (i + 1) _ _ _ _ (by omega) (by omega) (by omega) (fun j j0 j1 => ?_) (fun a ha => by rw [gup_ne ha]; exact q3 a ha)
        by_cases ej : j = i
        · rw [ej]; exact gup_s
        · rw [gup_c (Or.inr ej)]; exact q2 j j0 (by omega)
  refine gX_iconst dX12_doFor_0 ⟨by decide, by decide⟩ ?_
  refine gX_istoren dX12_doFor_1 (show (2 : Nat) < 4 from by decide) (ls2 := [some (ga 775), some (gi h), some (gi 0), none]) rfl ?_
  exact l1 5 0 _ _ _ _ (by omega) (by omega) (by omega) (fun j j0 j1 => by omega) (fun _ _ => rfl)
end MD24
