/-! The reference: move. Written by wip/whole/tools/mk_md26.py. -/
theorem cntB_one {f : Nat → Bool} : ∀ {n : Nat}, cntB f n = 1 → ∀ (i j : Nat), i < n → j < n → f i = true → f j = true → i = j
  | 0, h, i, j, hi, hj, fi, fj => by cases h
  | n + 1, h, i, j, hi, hj, fi, fj => by
    rw [cntB_s] at h
    have hb := cntB_bd f n
    by_cases c : f n = true
    · rw [if_pos c] at h
      have z := cntBz.mp (show cntB f n = 0 by omega)
      have e1 : i = n := Decidable.byContradiction fun y => by rw [z i (by omega)] at fi; cases fi
      have e2 : j = n := Decidable.byContradiction fun y => by rw [z j (by omega)] at fj; cases fj
      omega
    · rw [if_neg c] at h
      have e1 : i ≠ n := fun y => c (y ▸ fi)
      have e2 : j ≠ n := fun y => c (y ▸ fj)
      exact cntB_one (n := n) (by omega) i j (by omega) (by omega) fi fj
theorem spTx (V : Int → Int → Int) (i : Int) : spA V 10 (-1) i = V 778 (400 + i) := if_pos (by omega)
theorem spRw {V V' : Int → Int → Int} (h : V' 785 = V 785) {x : Int} (hx : 0 ≤ x) (i : Int) : spA V' 10 x i = spA V 10 x i := by
  unfold spA
  rw [if_neg (by omega), if_neg (by omega), h]
/-- those on a text span: two with the same number are on the same span -/
theorem spE {V : Int → Int → Int} {tx : List Int} {gs : List gG} (hs : rsIs V 10 tx gs) (hw : spW tx gs) {g k : Int} (g0 : 0 ≤ g) (g1 : g < gs.length) (k0 : 0 ≤ k) (k1 : k < gs.length) (ho : onT (gq gs g) = 1) (lk : lvQ (gq gs k)) : V 782 (200 + k) = V 782 (200 + g) ↔ (onT (gq gs k) = 1 ∧ shr (gq gs k) (gq gs g) = 1) := by
  have b := hw.1 _ (gqM g0 g1) ho
  have o2 := onT_1.mp ho
  have hl : (gq gs g).2.2.1 < (rwL tx gs (-1)).length := by rw [rwL_n]; omega
  have a1 := ((hs.1 g g0 g1 o2.1).2 (-1) (gq gs g).2.2.1 (Or.inl rfl) b.1 hl).mpr ⟨o2.2.symm, by omega, by omega⟩
  have a2 := (hs.1 k k0 k1 lk).2 (-1) (gq gs g).2.2.1 (Or.inl rfl) b.1 hl
  constructor
  · intro z
    have c := a2.mp (a1.trans z.symm)
    have o3 : onT (gq gs k) = 1 := onT_1.mpr ⟨lk, c.1.symm⟩
    refine ⟨o3, shr_1.mpr ⟨by rw [← c.1, o2.2], ?_⟩⟩
    have := hw.2 _ (gqM k0 k1) _ (gqM g0 g1) o3 ho
    have := c.2
    omega
  · intro z
    have z2 := shr_1.mp z.2
    have b2 := hw.1 _ (gqM k0 k1) z.1
    have := a2.mpr ⟨by rw [z2.1, o2.2], by omega, by omega⟩
    exact this.symm.trans a1
theorem glN_aln {V : Int → Int → Int} {s : cS} {g : Int} (h : wkI V s) (g0 : 0 ≤ g) (g1 : g < s.2.1.length) (ho : onT (gq s.2.1 g) = 1) : glN V (V 782 (200 + g)) s.2.1.length = alnC s.2.1 (gq s.2.1 g) := by
  unfold glN alnC
  refine cntB_cg (fun k hk => ?_)
  rw [Bool.eq_iff_iff, Bool.and_eq_true, Bool.and_eq_true, decide_eq_true_eq, decide_eq_true_eq, decide_eq_true_eq, decide_eq_true_eq]
  have hg := h.2.2.1 k (by omega) (by omega)
  constructor
  · intro z
    exact (spE h.2.1 h.2.2.2.2.1.1 g0 g1 (by omega) (by omega) ho (by unfold lvQ; omega)).mp z.2
  · intro z
    have lk := (onT_1.mp z.1).1
    exact ⟨by omega, (spE h.2.1 h.2.2.2.2.1.1 g0 g1 (by omega) (by omega) ho lk).mpr z⟩
theorem alnC_k {gs : List gG} {g k : Int} (ha : alnC gs (gq gs g) = 1) (g0 : 0 ≤ g) (g1 : g < gs.length) (k0 : 0 ≤ k) (k1 : k < gs.length) (ho : onT (gq gs g) = 1) (hk : onT (gq gs k) = 1) (hs : shr (gq gs k) (gq gs g) = 1) : k = g := by
  have := cntB_one ha k.toNat g.toNat (by omega) (by omega) (by rw [Int.toNat_of_nonneg k0, hk, hs]; rfl) (by rw [Int.toNat_of_nonneg g0, ho, shr_1.mpr ⟨rfl, rfl⟩]; rfl)
  omega
theorem rsIs.move {V V' : Int → Int → Int} {tx : List Int} {gs : List gG} {g : Int} (hs : rsIs V 10 tx gs) (hw : spW tx gs) (g0 : 0 ≤ g) (g1 : g < gs.length) (ho : onT (gq gs g) = 1) (hf : (gq gs g).2.2.1 = (gq gs g).2.2.2.1) (ha : alnC gs (gq gs g) = 1) (hn : (gq gs g).2.2.1 + 1 < tx.length) (hi : inSp gs ((gq gs g).2.2.1 + 1) = false) (h782 : V' 782 = V 782) (h785 : V' 785 = V 785) (h1 : V' 778 (400 + (gq gs g).2.2.1) = -1) (h2 : V' 778 (400 + ((gq gs g).2.2.1 + 1)) = V 782 (200 + g)) (h3 : ∀ i, i ≠ (gq gs g).2.2.1 → i ≠ (gq gs g).2.2.1 + 1 → V' 778 (400 + i) = V 778 (400 + i)) : rsIs V' 10 tx (gs.set g.toNat (shG (gq gs g) 1)) := by
  have b := hw.1 _ (gqM g0 g1) ho
  have o2 := onT_1.mp ho
  have e : ∀ k : Int, 0 ≤ k → gq (gs.set g.toNat (shG (gq gs g) 1)) k = if k = g then shG (gq gs g) 1 else gq gs k := fun k k0 => gq_set g0 g1 k0
  have elv : ∀ k : Int, 0 ≤ k → (lvQ (gq (gs.set g.toNat (shG (gq gs g) 1)) k) ↔ lvQ (gq gs k)) := fun k k0 => by
    rw [e k k0]
    by_cases c : k = g
    · rw [if_pos c, c]; rfl
    · rw [if_neg c]
  have eho : ∀ h, hoK (gs.set g.toNat (shG (gq gs g) 1)) h → hoK gs h := fun h z => by
    rcases z with z | ⟨z1, z2, z3⟩
    · exact Or.inl z
    · rw [List.length_set] at z2; exact Or.inr ⟨z1, z2, (elv h z1).mp z3⟩
  have erw : ∀ x, rwL tx (gs.set g.toNat (shG (gq gs g) 1)) x = rwL tx gs x := fun x => rwLk (List.length_set ..) (fun k k0 k1 => by
    rw [e k k0]
    by_cases c : k = g
    · rw [if_pos c, c]; rfl
    · rw [if_neg c]) x
  have hlx : (rwL tx gs (-1)).length = tx.length := by rw [rwL_n]
  have sg := hs.1 g g0 g1 o2.1
  have cg : ∀ h i, cvQ (shG (gq gs g) 1) h i ↔ h = -1 ∧ i = (gq gs g).2.2.1 + 1 := fun h i => by
    show (h = (gq gs g).2.1 ∧ (gq gs g).2.2.1 + 1 ≤ i ∧ i ≤ (gq gs g).2.2.2.1 + 1) ↔ _
    omega
  have cg0 : ∀ h i, cvQ (gq gs g) h i ↔ h = -1 ∧ i = (gq gs g).2.2.1 := fun h i => by
    unfold cvQ
    omega
  have nk : ∀ k : Int, 0 ≤ k → k < gs.length → k ≠ g → lvQ (gq gs k) → ¬ cvQ (gq gs k) (-1) (gq gs g).2.2.1 := fun k k0 k1 kg lk z => by
    have o3 : onT (gq gs k) = 1 := onT_1.mpr ⟨lk, z.1.symm⟩
    have := hw.2 _ (gqM k0 k1) _ (gqM g0 g1) o3 ho
    have z2 := z.2
    exact kg (alnC_k ha g0 g1 k0 k1 ho o3 (shr_1.mpr ⟨by rw [← z.1, o2.2], by omega⟩))
  have nk2 : ∀ k : Int, 0 ≤ k → k < gs.length → lvQ (gq gs k) → ¬ cvQ (gq gs k) (-1) ((gq gs g).2.2.1 + 1) := fun k k0 k1 lk z => by
    have := inSp_f hi (gqM k0 k1) (onT_1.mpr ⟨lk, z.1.symm⟩)
    have := z.2
    omega
  refine ⟨fun k k0 k1 lk => ?_, fun h i hk i0 i1 hno => ?_⟩
  · rw [List.length_set] at k1
    rw [elv k k0] at lk
    rw [h782]
    obtain ⟨s1, s2⟩ := hs.1 k k0 k1 lk
    refine ⟨s1, fun h i hk i0 i1 => ?_⟩
    rw [erw] at i1
    have hk2 := eho h hk
    have s3 := s2 h i hk2 i0 i1
    rw [e k k0]
    by_cases hm : 0 ≤ h
    · rw [spRw h785 hm]
      by_cases c : k = g
      · subst c
        rw [if_pos rfl, cg, s3, cg0]
        omega
      · rw [if_neg c]; exact s3
    · have hh : h = -1 := by have := hk2.rg; omega
      subst hh
      rw [spTx] at s3 ⊢
      rw [hlx] at i1
      by_cases c : k = g
      · subst c
        rw [if_pos rfl, cg]
        rw [cg0] at s3
        by_cases c1 : i = (gq gs k).2.2.1
        · rw [c1, h1]
          constructor
          · intro z; have : V 782 (200 + k) ≥ 0 := s1; have z2 : -1 = V 782 (200 + k) := z; omega
          · intro z; omega
        · by_cases c2 : i = (gq gs k).2.2.1 + 1
          · rw [c2, h2]; exact ⟨fun _ => ⟨rfl, rfl⟩, fun _ => rfl⟩
          · rw [h3 i c1 c2, s3]; omega
      · rw [if_neg c]
        by_cases c1 : i = (gq gs g).2.2.1
        · rw [c1, h1]
          constructor
          · intro z; have z2 : -1 = V 782 (200 + k) := z; have : V 782 (200 + k) ≥ 0 := s1; omega
          · intro z; exact absurd z (nk k k0 k1 c lk)
        · by_cases c2 : i = (gq gs g).2.2.1 + 1
          · rw [c2, h2]
            constructor
            · intro z
              have a1 := (sg.2 (-1) (gq gs g).2.2.1 (Or.inl rfl) b.1 (by rw [hlx]; omega)).mpr ((cg0 _ _).mpr ⟨rfl, rfl⟩)
              exact absurd ((s2 (-1) (gq gs g).2.2.1 (Or.inl rfl) b.1 (by rw [hlx]; omega)).mp (a1.trans z)) (nk k k0 k1 c lk)
            · intro z; exact absurd z (nk2 k k0 k1 lk)
          · rw [h3 i c1 c2]; exact s3
  · rw [erw] at i1
    have hk2 := eho h hk
    have hno2 : ∀ k : Int, 0 ≤ k → k < gs.length → lvQ (gq gs k) → k ≠ g → ¬ cvQ (gq gs k) h i := fun k k0 k1 lk kg z => hno k k0 (by rw [List.length_set]; exact k1) ((elv k k0).mpr lk) (by rw [e k k0, if_neg kg]; exact z)
    have hno3 : ¬ (h = -1 ∧ i = (gq gs g).2.2.1 + 1) := fun z => hno g g0 (by rw [List.length_set]; exact g1) ((elv g g0).mpr o2.1) (by rw [e g g0, if_pos rfl, cg]; exact z)
    by_cases c1 : h = -1 ∧ i = (gq gs g).2.2.1
    · rw [c1.1, c1.2, spTx, h1]; omega
    · have hold := hs.2 h i hk2 i0 i1 (fun k k0 k1 lk z => by
        by_cases c : k = g
        · subst c; exact c1 ((cg0 _ _).mp z)
        · exact hno2 k k0 k1 lk c z)
      by_cases hm : 0 ≤ h
      · rw [spRw h785 hm]; exact hold
      · have hh : h = -1 := by have := hk2.rg; omega
        subst hh
        rw [spTx] at hold ⊢
        rw [h3 i (by omega) (by omega)]; exact hold
theorem wkI.spo {V : Int → Int → Int} {s : cS} {g : Int} (h : wkI V s) (g0 : 0 ≤ g) (g1 : g < s.2.1.length) (ho : onT (gq s.2.1 g) = 1) : spOk s.1 s.2.1 g := by
  have b := h.2.2.2.2.1.1.1 _ (gqM g0 g1) ho
  have o2 := onT_1.mp ho
  exact ⟨o2.1, Or.inl o2.2, b.1, b.2.1, by rw [o2.2, rwL_n]; exact b.2.2⟩
section MD26
variable {l : Launch} {E : gE} {d : Nat} {K : List gK} {R V : Int → Int → Int} {h g : Int} {Q : gQ} {s : cS} {q : gbH}
set_option maxRecDepth 4000 in
theorem m_doMove (hM : mdK K R) (hh : 0 ≤ h ∧ h < 4) (hr : rhA V h q) (hi : hInv q) (hs : wkI V s) (hz : lat s.2.2.1 5 = 0) (hc0 : cBd s.2.2.1 2000) (ht0 : cBd s.2.2.2 2000) (hQ : ∀ V', wkI V' (wr6 q.2.2.2.1 s) → wkF V V' → chK 5 s (wr6 q.2.2.2.1 s) → Q none (K, R, V')) : gC l E (d + 3) iX12_doMove [ga 775, gi h] (K, R, V) Q := by
  refine gC_of kX12_doMove (ls := [some (ga 775), some (gi h), none, none, none, none, none, none]) rfl (Nat.le_of_ble_eq_true rfl) ?_
  have h40 := hs.1.2.1
  have h20 := hs.1.2.2.2.2.1
  have hm := hr.2.2.2.1 5 (by omega) (by omega)
  have hmb := hi.2.2.2.2.1 5
  have lp : ∀ (jj : Nat) (i : Int) (j5 : Option gV) (j6 : Option gV) (j7 : Option gV) (V1 : Int → Int → Int) (s1 : cS) (bc bs : Nat), (s.2.1.length : Int) - i < (jj : Int) → 0 ≤ i → i ≤ s.2.1.length → wkI V1 s1 → wkF V V1 → s1.2.1.length = s.2.1.length → cBd s1.2.2.1 (2000 + i) → cBd s1.2.2.2 (2000 + i) → chK 5 s s1 → (lat q.2.2.2.1 5 = -1 → s1 = s) → (lat q.2.2.2.1 5 ≠ -1 → mvS (lat q.2.2.2.1 5) s.2.1.length 0 s = mvS (lat q.2.2.2.1 5) (s.2.1.length - i.toNat) i.toNat s1) → gX l E (gFm E (d + 3) iX12_doMove Q) 17 [some (ga 775), some (gi h), some (gi (lat q.2.2.2.1 5)), some (gi (lat s1.2.2.1 5)), some (gi i), j5, j6, j7] [] (K, R, V1) bc bs := by
    intro jj
    induction jj with
    | zero =>
      intro i j5 j6 j7 V1 s1 bc bs hj q0 q1 q2 q3 q4 q5 q6 q7 q8 q9
      exfalso; omega
    | succ jj ih =>
      intro i j5 j6 j7 V1 s1 bc bs hj q0 q1 q2 q3 q4 q5 q6 q7 q8 q9
      refine gX_iload dX12_doMove_17 rfl ?_
      refine gX_aloadn dX12_doMove_19 rfl ?_
      refine gX_gR 4 dX12_doMove_20 fdX12_19 rfl rfl hM.1 (mR4 hM) ?_
      refine gX_bipush dX12_doMove_23 (by decide) ⟨by decide, by decide⟩ ?_
      refine gX_iald dX12_doMove_25 (mA4 hM) (by omega) (by omega) ?_
      rw [q2.1.2.2.2.1, q4]
      refine gX_icmpge (tgt := 243) dX12_doMove_26 (by decide) (fun b1 => ?_) (fun b1 => ?_)
      · refine gX_vret dX12_doMove_243 rfl ?_
        have ew : wr6 q.2.2.2.1 s = s1 := by
          unfold wr6
          by_cases z : lat q.2.2.2.1 5 = -1
          · rw [if_pos z, q8 z]
          · rw [if_neg z, q9 z, show s.2.1.length - i.toNat = 0 by omega]
            rfl
        rw [ew] at hQ
        exact hQ V1 q2 q3 q7
      · refine gX_iloadn dX12_doMove_29 rfl ?_
        refine gX_ifle (tgt := 243) dX12_doMove_30 (by decide) (fun b2 => ?_) (fun b2 => ?_)
        · refine gX_vret dX12_doMove_243 rfl ?_
          have ew : wr6 q.2.2.2.1 s = s1 := by
            unfold wr6
            by_cases z : lat q.2.2.2.1 5 = -1
            · rw [if_pos z, q8 z]
            · rw [if_neg z, q9 z, show s.2.1.length - i.toNat = 0 by omega]
              rfl
          rw [ew] at hQ
          exact hQ V1 q2 q3 q7
        · have h41 := q2.1.2.1
          have hch := q5.2 5 (by omega) (by omega)
          have hgi := q2.2.2.1 i (by omega) (by omega)
          have hgl := q2.1.gl (g := i) (by omega) (by omega)
          have hwi := q2.2.2.2.2.1.2.2.1.at (g := i) (by omega) (by omega)
          refine gX_sipush dX12_doMove_33 (by decide) ⟨by decide, by decide⟩ ?_
          refine gX_iload dX12_doMove_36 rfl ?_
          refine gX_iadd dX12_doMove_38 ⟨by omega, by omega⟩ ?_
          refine gX_istore dX12_doMove_39 (show (5 : Nat) < 8 from by decide) (ls2 := [some (ga 775), some (gi h), some (gi (lat q.2.2.2.1 5)), some (gi (lat s1.2.2.1 5)), some (gi i), some (gi (200 + i)), j6, j7]) rfl ?_
          refine gX_aloadn dX12_doMove_41 rfl ?_
          refine gX_gR 45 dX12_doMove_42 fdX12_98 rfl rfl hM.1 (mR45 hM) ?_
          refine gX_iload dX12_doMove_45 rfl ?_
          refine gX_zald dX12_doMove_47 (mA45 hM) (by omega) (by omega) ?_
          rw [hgi.1]
          refine gX_ifne (tgt := 109) dX12_doMove_48 (by decide) (fun b3 => ?_) (fun b3 => ?_)
          · refine gX_iconst dX12_doMove_109 ⟨by decide, by decide⟩ ?_
            refine gX_istore dX12_doMove_110 (show (6 : Nat) < 8 from by decide) (ls2 := [some (ga 775), some (gi h), some (gi (lat q.2.2.2.1 5)), some (gi (lat s1.2.2.1 5)), some (gi i), some (gi (200 + i)), some (gi 0), j7]) rfl ?_
            refine gX_iload dX12_doMove_112 rfl ?_
            refine gX_ifeq (tgt := 136) dX12_doMove_114 (by decide) (fun b4 => ?_) (fun b4 => by exfalso; omega)
            refine gX_iconst dX12_doMove_136 ⟨by decide, by decide⟩ ?_
            refine gX_istore dX12_doMove_137 (show (7 : Nat) < 8 from by decide) (ls2 := [some (ga 775), some (gi h), some (gi (lat q.2.2.2.1 5)), some (gi (lat s1.2.2.1 5)), some (gi i), some (gi (200 + i)), some (gi 0), some (gi 0)]) rfl ?_
            refine gX_iload dX12_doMove_139 rfl ?_
            refine gX_ifeq (tgt := 174) dX12_doMove_141 (by decide) (fun b5 => ?_) (fun b5 => by exfalso; omega)
            refine gX_iconst dX12_doMove_174 ⟨by decide, by decide⟩ ?_
            refine gX_istore dX12_doMove_175 (show (6 : Nat) < 8 from by decide) (ls2 := [some (ga 775), some (gi h), some (gi (lat q.2.2.2.1 5)), some (gi (lat s1.2.2.1 5)), some (gi i), some (gi (200 + i)), some (gi 0), some (gi 0)]) rfl ?_
            refine gX_iloadn dX12_doMove_177 rfl ?_
            refine gX_iload dX12_doMove_178 rfl ?_
            refine gX_ifeq (tgt := 187) dX12_doMove_180 (by decide) (fun b6 => ?_) (fun b6 => by exfalso; omega)
            refine gX_iconst dX12_doMove_187 ⟨by decide, by decide⟩ ?_
            refine gX_iadd dX12_doMove_188 ⟨by omega, by omega⟩ ?_
            refine gX_istoren dX12_doMove_189 (show (3 : Nat) < 8 from by decide) (ls2 := [some (ga 775), some (gi h), some (gi (lat q.2.2.2.1 5)), some (gi ((lat s1.2.2.1 5) + 0)), some (gi i), some (gi (200 + i)), some (gi 0), some (gi 0)]) rfl ?_
            refine gX_iload dX12_doMove_190 rfl ?_
            refine gX_ifeq (tgt := 237) dX12_doMove_192 (by decide) (fun b7 => ?_) (fun b7 => by exfalso; omega)
            refine gX_iinc dX12_doMove_237 rfl (show (4 : Nat) < 8 from by decide) ⟨by omega, by omega⟩ (ls2 := [some (ga 775), some (gi h), some (gi (lat q.2.2.2.1 5)), some (gi ((lat s1.2.2.1 5) + 0)), some (gi (i + 1)), some (gi (200 + i)), some (gi 0), some (gi 0)]) rfl ?_
            refine gX_goto (tgt := 17) dX12_doMove_240 (by decide) ?_
            have e6 : mvS (lat q.2.2.2.1 5) (s.2.1.length - i.toNat) i.toNat s1 = if mvC s1.1 s1.2.1 (gq s1.2.1 i) = true then (if tkn (lat s1.2.2.1 5 + 1) (lat q.2.2.2.1 5) = 1 then mvS (lat q.2.2.2.1 5) (s.2.1.length - (i + 1).toNat) (i + 1).toNat (s1.1, s1.2.1.set i.toNat (shG (gq s1.2.1 i) 1), (tcS 5 (lat q.2.2.2.1 5) s1).2.2) else mvS (lat q.2.2.2.1 5) (s.2.1.length - (i + 1).toNat) (i + 1).toNat (tcS 5 (lat q.2.2.2.1 5) s1)) else mvS (lat q.2.2.2.1 5) (s.2.1.length - (i + 1).toNat) (i + 1).toNat s1 := by
              rw [show s.2.1.length - i.toNat = (s.2.1.length - (i + 1).toNat) + 1 by omega, show (i + 1).toNat = i.toNat + 1 by omega]
              have en : ((i.toNat : Nat) : Int) = i := by omega
              show (if mvC s1.1 s1.2.1 (gq s1.2.1 ((i.toNat : Nat) : Int)) = true then (if _ then mvS _ _ _ (s1.1, s1.2.1.set i.toNat (shG (gq s1.2.1 ((i.toNat : Nat) : Int)) 1), _) else _) else _) = _
              rw [en]
            rw [e6] at q9
            have ec : ¬ mvC s1.1 s1.2.1 (gq s1.2.1 i) = true := fun z => by
              obtain ⟨y1, y2, y3, y4, y5, y6, y7⟩ := mvC_of z
              have y8 := onT_1.mp y1
              have y9 : lml (gq s1.2.1 i) = 1 := by unfold lml; omega
              first
              | omega
              | (rw [show (gq s1.2.1 i).2.2.2.1 + 1 = (gq s1.2.1 i).2.2.1 + 1 by omega] at y7; have y10 := (inSp_sp (i := (gq s1.2.1 i).2.2.1 + 1) q2.2.1 (by omega) (by omega)).mpr y7; omega)
            rw [show lat s1.2.2.1 5 + 0 = lat s1.2.2.1 5 by omega]
            exact ih (i + 1) _ _ _ _ s1 _ _ (by omega) (by omega) (by omega) q2 q3 q4 (q5.up (by omega)) (q6.up (by omega)) q7 (fun z => by omega) (fun z => by rw [q9 z, if_neg ec])
          · refine gX_aloadn dX12_doMove_51 rfl ?_
            refine gX_gR 6 dX12_doMove_52 fdX12_25 rfl rfl hM.1 (mR6 hM) ?_
            refine gX_iload dX12_doMove_55 rfl ?_
            refine gX_iald dX12_doMove_57 (mA6 hM) (by omega) (by omega) ?_
            rw [show V1 781 (200 + i) = (gq s1.2.1 i).2.1 from hgl.2.1]
            refine gX_ifge (tgt := 109) dX12_doMove_58 (by decide) (fun b8 => ?_) (fun b8 => ?_)
            · refine gX_iconst dX12_doMove_109 ⟨by decide, by decide⟩ ?_
              refine gX_istore dX12_doMove_110 (show (6 : Nat) < 8 from by decide) (ls2 := [some (ga 775), some (gi h), some (gi (lat q.2.2.2.1 5)), some (gi (lat s1.2.2.1 5)), some (gi i), some (gi (200 + i)), some (gi 0), j7]) rfl ?_
              refine gX_iload dX12_doMove_112 rfl ?_
              refine gX_ifeq (tgt := 136) dX12_doMove_114 (by decide) (fun b9 => ?_) (fun b9 => by exfalso; omega)
              refine gX_iconst dX12_doMove_136 ⟨by decide, by decide⟩ ?_
              refine gX_istore dX12_doMove_137 (show (7 : Nat) < 8 from by decide) (ls2 := [some (ga 775), some (gi h), some (gi (lat q.2.2.2.1 5)), some (gi (lat s1.2.2.1 5)), some (gi i), some (gi (200 + i)), some (gi 0), some (gi 0)]) rfl ?_
              refine gX_iload dX12_doMove_139 rfl ?_
              refine gX_ifeq (tgt := 174) dX12_doMove_141 (by decide) (fun b10 => ?_) (fun b10 => by exfalso; omega)
              refine gX_iconst dX12_doMove_174 ⟨by decide, by decide⟩ ?_
              refine gX_istore dX12_doMove_175 (show (6 : Nat) < 8 from by decide) (ls2 := [some (ga 775), some (gi h), some (gi (lat q.2.2.2.1 5)), some (gi (lat s1.2.2.1 5)), some (gi i), some (gi (200 + i)), some (gi 0), some (gi 0)]) rfl ?_
              refine gX_iloadn dX12_doMove_177 rfl ?_
              refine gX_iload dX12_doMove_178 rfl ?_
              refine gX_ifeq (tgt := 187) dX12_doMove_180 (by decide) (fun b11 => ?_) (fun b11 => by exfalso; omega)
              refine gX_iconst dX12_doMove_187 ⟨by decide, by decide⟩ ?_
              refine gX_iadd dX12_doMove_188 ⟨by omega, by omega⟩ ?_
              refine gX_istoren dX12_doMove_189 (show (3 : Nat) < 8 from by decide) (ls2 := [some (ga 775), some (gi h), some (gi (lat q.2.2.2.1 5)), some (gi ((lat s1.2.2.1 5) + 0)), some (gi i), some (gi (200 + i)), some (gi 0), some (gi 0)]) rfl ?_
              refine gX_iload dX12_doMove_190 rfl ?_
              refine gX_ifeq (tgt := 237) dX12_doMove_192 (by decide) (fun b12 => ?_) (fun b12 => by exfalso; omega)
              refine gX_iinc dX12_doMove_237 rfl (show (4 : Nat) < 8 from by decide) ⟨by omega, by omega⟩ (ls2 := [some (ga 775), some (gi h), some (gi (lat q.2.2.2.1 5)), some (gi ((lat s1.2.2.1 5) + 0)), some (gi (i + 1)), some (gi (200 + i)), some (gi 0), some (gi 0)]) rfl ?_
              refine gX_goto (tgt := 17) dX12_doMove_240 (by decide) ?_
              have e6 : mvS (lat q.2.2.2.1 5) (s.2.1.length - i.toNat) i.toNat s1 = if mvC s1.1 s1.2.1 (gq s1.2.1 i) = true then (if tkn (lat s1.2.2.1 5 + 1) (lat q.2.2.2.1 5) = 1 then mvS (lat q.2.2.2.1 5) (s.2.1.length - (i + 1).toNat) (i + 1).toNat (s1.1, s1.2.1.set i.toNat (shG (gq s1.2.1 i) 1), (tcS 5 (lat q.2.2.2.1 5) s1).2.2) else mvS (lat q.2.2.2.1 5) (s.2.1.length - (i + 1).toNat) (i + 1).toNat (tcS 5 (lat q.2.2.2.1 5) s1)) else mvS (lat q.2.2.2.1 5) (s.2.1.length - (i + 1).toNat) (i + 1).toNat s1 := by
                rw [show s.2.1.length - i.toNat = (s.2.1.length - (i + 1).toNat) + 1 by omega, show (i + 1).toNat = i.toNat + 1 by omega]
                have en : ((i.toNat : Nat) : Int) = i := by omega
                show (if mvC s1.1 s1.2.1 (gq s1.2.1 ((i.toNat : Nat) : Int)) = true then (if _ then mvS _ _ _ (s1.1, s1.2.1.set i.toNat (shG (gq s1.2.1 ((i.toNat : Nat) : Int)) 1), _) else _) else _) = _
                rw [en]
              rw [e6] at q9
              have ec : ¬ mvC s1.1 s1.2.1 (gq s1.2.1 i) = true := fun z => by
                obtain ⟨y1, y2, y3, y4, y5, y6, y7⟩ := mvC_of z
                have y8 := onT_1.mp y1
                have y9 : lml (gq s1.2.1 i) = 1 := by unfold lml; omega
                first
                | omega
                | (rw [show (gq s1.2.1 i).2.2.2.1 + 1 = (gq s1.2.1 i).2.2.1 + 1 by omega] at y7; have y10 := (inSp_sp (i := (gq s1.2.1 i).2.2.1 + 1) q2.2.1 (by omega) (by omega)).mpr y7; omega)
              rw [show lat s1.2.2.1 5 + 0 = lat s1.2.2.1 5 by omega]
              exact ih (i + 1) _ _ _ _ s1 _ _ (by omega) (by omega) (by omega) q2 q3 q4 (q5.up (by omega)) (q6.up (by omega)) q7 (fun z => by omega) (fun z => by rw [q9 z, if_neg ec])
            · have ho9 : onT (gq s1.2.1 i) = 1 := onT_1.mpr ⟨by omega, by omega⟩
              have hal := glN_aln q2 q0 (by omega) ho9
              have hb9 := q2.2.2.2.2.1.1.1 _ (gqM q0 (by omega)) ho9
              refine gX_aloadn dX12_doMove_61 rfl ?_
              refine gX_gR 5 dX12_doMove_62 fdX12_22 rfl rfl hM.1 (mR5 hM) ?_
              refine gX_iload dX12_doMove_65 rfl ?_
              refine gX_iald dX12_doMove_67 (mA5 hM) (by omega) (by omega) ?_
              rw [show V1 780 (200 + i) = (gq s1.2.1 i).1 from hgl.1]
              refine gX_iconst dX12_doMove_68 ⟨by decide, by decide⟩ ?_
              refine gX_icmpne (tgt := 109) dX12_doMove_69 (by decide) (fun b13 => ?_) (fun b13 => ?_)
              · refine gX_iconst dX12_doMove_109 ⟨by decide, by decide⟩ ?_
                refine gX_istore dX12_doMove_110 (show (6 : Nat) < 8 from by decide) (ls2 := [some (ga 775), some (gi h), some (gi (lat q.2.2.2.1 5)), some (gi (lat s1.2.2.1 5)), some (gi i), some (gi (200 + i)), some (gi 0), j7]) rfl ?_
                refine gX_iload dX12_doMove_112 rfl ?_
                refine gX_ifeq (tgt := 136) dX12_doMove_114 (by decide) (fun b14 => ?_) (fun b14 => by exfalso; omega)
                refine gX_iconst dX12_doMove_136 ⟨by decide, by decide⟩ ?_
                refine gX_istore dX12_doMove_137 (show (7 : Nat) < 8 from by decide) (ls2 := [some (ga 775), some (gi h), some (gi (lat q.2.2.2.1 5)), some (gi (lat s1.2.2.1 5)), some (gi i), some (gi (200 + i)), some (gi 0), some (gi 0)]) rfl ?_
                refine gX_iload dX12_doMove_139 rfl ?_
                refine gX_ifeq (tgt := 174) dX12_doMove_141 (by decide) (fun b15 => ?_) (fun b15 => by exfalso; omega)
                refine gX_iconst dX12_doMove_174 ⟨by decide, by decide⟩ ?_
                refine gX_istore dX12_doMove_175 (show (6 : Nat) < 8 from by decide) (ls2 := [some (ga 775), some (gi h), some (gi (lat q.2.2.2.1 5)), some (gi (lat s1.2.2.1 5)), some (gi i), some (gi (200 + i)), some (gi 0), some (gi 0)]) rfl ?_
                refine gX_iloadn dX12_doMove_177 rfl ?_
                refine gX_iload dX12_doMove_178 rfl ?_
                refine gX_ifeq (tgt := 187) dX12_doMove_180 (by decide) (fun b16 => ?_) (fun b16 => by exfalso; omega)
                refine gX_iconst dX12_doMove_187 ⟨by decide, by decide⟩ ?_
                refine gX_iadd dX12_doMove_188 ⟨by omega, by omega⟩ ?_
                refine gX_istoren dX12_doMove_189 (show (3 : Nat) < 8 from by decide) (ls2 := [some (ga 775), some (gi h), some (gi (lat q.2.2.2.1 5)), some (gi ((lat s1.2.2.1 5) + 0)), some (gi i), some (gi (200 + i)), some (gi 0), some (gi 0)]) rfl ?_
                refine gX_iload dX12_doMove_190 rfl ?_
                refine gX_ifeq (tgt := 237) dX12_doMove_192 (by decide) (fun b17 => ?_) (fun b17 => by exfalso; omega)
                refine gX_iinc dX12_doMove_237 rfl (show (4 : Nat) < 8 from by decide) ⟨by omega, by omega⟩ (ls2 := [some (ga 775), some (gi h), some (gi (lat q.2.2.2.1 5)), some (gi ((lat s1.2.2.1 5) + 0)), some (gi (i + 1)), some (gi (200 + i)), some (gi 0), some (gi 0)]) rfl ?_
                refine gX_goto (tgt := 17) dX12_doMove_240 (by decide) ?_
                have e6 : mvS (lat q.2.2.2.1 5) (s.2.1.length - i.toNat) i.toNat s1 = if mvC s1.1 s1.2.1 (gq s1.2.1 i) = true then (if tkn (lat s1.2.2.1 5 + 1) (lat q.2.2.2.1 5) = 1 then mvS (lat q.2.2.2.1 5) (s.2.1.length - (i + 1).toNat) (i + 1).toNat (s1.1, s1.2.1.set i.toNat (shG (gq s1.2.1 i) 1), (tcS 5 (lat q.2.2.2.1 5) s1).2.2) else mvS (lat q.2.2.2.1 5) (s.2.1.length - (i + 1).toNat) (i + 1).toNat (tcS 5 (lat q.2.2.2.1 5) s1)) else mvS (lat q.2.2.2.1 5) (s.2.1.length - (i + 1).toNat) (i + 1).toNat s1 := by
                  rw [show s.2.1.length - i.toNat = (s.2.1.length - (i + 1).toNat) + 1 by omega, show (i + 1).toNat = i.toNat + 1 by omega]
                  have en : ((i.toNat : Nat) : Int) = i := by omega
                  show (if mvC s1.1 s1.2.1 (gq s1.2.1 ((i.toNat : Nat) : Int)) = true then (if _ then mvS _ _ _ (s1.1, s1.2.1.set i.toNat (shG (gq s1.2.1 ((i.toNat : Nat) : Int)) 1), _) else _) else _) = _
                  rw [en]
                rw [e6] at q9
                have ec : ¬ mvC s1.1 s1.2.1 (gq s1.2.1 i) = true := fun z => by
                  obtain ⟨y1, y2, y3, y4, y5, y6, y7⟩ := mvC_of z
                  have y8 := onT_1.mp y1
                  have y9 : lml (gq s1.2.1 i) = 1 := by unfold lml; omega
                  first
                  | omega
                  | (rw [show (gq s1.2.1 i).2.2.2.1 + 1 = (gq s1.2.1 i).2.2.1 + 1 by omega] at y7; have y10 := (inSp_sp (i := (gq s1.2.1 i).2.2.1 + 1) q2.2.1 (by omega) (by omega)).mpr y7; omega)
                rw [show lat s1.2.2.1 5 + 0 = lat s1.2.2.1 5 by omega]
                exact ih (i + 1) _ _ _ _ s1 _ _ (by omega) (by omega) (by omega) q2 q3 q4 (q5.up (by omega)) (q6.up (by omega)) q7 (fun z => by omega) (fun z => by rw [q9 z, if_neg ec])
              · refine gX_aloadn dX12_doMove_72 rfl ?_
                refine gX_aloadn dX12_doMove_73 rfl ?_
                refine gX_gR 7 dX12_doMove_74 fdX12_28 rfl rfl hM.1 (mR7 hM) ?_
                refine gX_iload dX12_doMove_77 rfl ?_
                refine gX_iald dX12_doMove_79 (mA7 hM) (by omega) (by omega) ?_
                refine gX_virt (J := iX12_glossesOn) (av := [gi (V1 782 (200 + i))]) (a := 775) (st := []) dX12_doMove_80 lkX12_304 kX12_glossesOn vX12_glossesOn (gFit_m (by decide)) hM.1 rfl rfl (Nat.le_of_ble_eq_true rfl) (Nat.zero_le _) (Nat.zero_le _) rfl ?_
                refine m_glossesOn hM q2.1.2.2.2.1 q2.1.2.2.2.2.1 ?_
                show gX l E _ 83 [some (ga 775), some (gi h), some (gi (lat q.2.2.2.1 5)), some (gi (lat s1.2.2.1 5)), some (gi i), some (gi (200 + i)), j6, j7] [gi (glN V1 (V1 782 (200 + i)) s1.2.1.length)] (K, R, V1) _ _
                rw [hal]
                refine gX_iconst dX12_doMove_83 ⟨by decide, by decide⟩ ?_
                refine gX_icmpne (tgt := 109) dX12_doMove_84 (by decide) (fun b18 => ?_) (fun b18 => ?_)
                · refine gX_iconst dX12_doMove_109 ⟨by decide, by decide⟩ ?_
                  refine gX_istore dX12_doMove_110 (show (6 : Nat) < 8 from by decide) (ls2 := [some (ga 775), some (gi h), some (gi (lat q.2.2.2.1 5)), some (gi (lat s1.2.2.1 5)), some (gi i), some (gi (200 + i)), some (gi 0), j7]) rfl ?_
                  refine gX_iload dX12_doMove_112 rfl ?_
                  refine gX_ifeq (tgt := 136) dX12_doMove_114 (by decide) (fun b19 => ?_) (fun b19 => by exfalso; omega)
                  refine gX_iconst dX12_doMove_136 ⟨by decide, by decide⟩ ?_
                  refine gX_istore dX12_doMove_137 (show (7 : Nat) < 8 from by decide) (ls2 := [some (ga 775), some (gi h), some (gi (lat q.2.2.2.1 5)), some (gi (lat s1.2.2.1 5)), some (gi i), some (gi (200 + i)), some (gi 0), some (gi 0)]) rfl ?_
                  refine gX_iload dX12_doMove_139 rfl ?_
                  refine gX_ifeq (tgt := 174) dX12_doMove_141 (by decide) (fun b20 => ?_) (fun b20 => by exfalso; omega)
                  refine gX_iconst dX12_doMove_174 ⟨by decide, by decide⟩ ?_
                  refine gX_istore dX12_doMove_175 (show (6 : Nat) < 8 from by decide) (ls2 := [some (ga 775), some (gi h), some (gi (lat q.2.2.2.1 5)), some (gi (lat s1.2.2.1 5)), some (gi i), some (gi (200 + i)), some (gi 0), some (gi 0)]) rfl ?_
                  refine gX_iloadn dX12_doMove_177 rfl ?_
                  refine gX_iload dX12_doMove_178 rfl ?_
                  refine gX_ifeq (tgt := 187) dX12_doMove_180 (by decide) (fun b21 => ?_) (fun b21 => by exfalso; omega)
                  refine gX_iconst dX12_doMove_187 ⟨by decide, by decide⟩ ?_
                  refine gX_iadd dX12_doMove_188 ⟨by omega, by omega⟩ ?_
                  refine gX_istoren dX12_doMove_189 (show (3 : Nat) < 8 from by decide) (ls2 := [some (ga 775), some (gi h), some (gi (lat q.2.2.2.1 5)), some (gi ((lat s1.2.2.1 5) + 0)), some (gi i), some (gi (200 + i)), some (gi 0), some (gi 0)]) rfl ?_
                  refine gX_iload dX12_doMove_190 rfl ?_
                  refine gX_ifeq (tgt := 237) dX12_doMove_192 (by decide) (fun b22 => ?_) (fun b22 => by exfalso; omega)
                  refine gX_iinc dX12_doMove_237 rfl (show (4 : Nat) < 8 from by decide) ⟨by omega, by omega⟩ (ls2 := [some (ga 775), some (gi h), some (gi (lat q.2.2.2.1 5)), some (gi ((lat s1.2.2.1 5) + 0)), some (gi (i + 1)), some (gi (200 + i)), some (gi 0), some (gi 0)]) rfl ?_
                  refine gX_goto (tgt := 17) dX12_doMove_240 (by decide) ?_
                  have e6 : mvS (lat q.2.2.2.1 5) (s.2.1.length - i.toNat) i.toNat s1 = if mvC s1.1 s1.2.1 (gq s1.2.1 i) = true then (if tkn (lat s1.2.2.1 5 + 1) (lat q.2.2.2.1 5) = 1 then mvS (lat q.2.2.2.1 5) (s.2.1.length - (i + 1).toNat) (i + 1).toNat (s1.1, s1.2.1.set i.toNat (shG (gq s1.2.1 i) 1), (tcS 5 (lat q.2.2.2.1 5) s1).2.2) else mvS (lat q.2.2.2.1 5) (s.2.1.length - (i + 1).toNat) (i + 1).toNat (tcS 5 (lat q.2.2.2.1 5) s1)) else mvS (lat q.2.2.2.1 5) (s.2.1.length - (i + 1).toNat) (i + 1).toNat s1 := by
                    rw [show s.2.1.length - i.toNat = (s.2.1.length - (i + 1).toNat) + 1 by omega, show (i + 1).toNat = i.toNat + 1 by omega]
                    have en : ((i.toNat : Nat) : Int) = i := by omega
                    show (if mvC s1.1 s1.2.1 (gq s1.2.1 ((i.toNat : Nat) : Int)) = true then (if _ then mvS _ _ _ (s1.1, s1.2.1.set i.toNat (shG (gq s1.2.1 ((i.toNat : Nat) : Int)) 1), _) else _) else _) = _
                    rw [en]
                  rw [e6] at q9
                  have ec : ¬ mvC s1.1 s1.2.1 (gq s1.2.1 i) = true := fun z => by
                    obtain ⟨y1, y2, y3, y4, y5, y6, y7⟩ := mvC_of z
                    have y8 := onT_1.mp y1
                    have y9 : lml (gq s1.2.1 i) = 1 := by unfold lml; omega
                    first
                    | omega
                    | (rw [show (gq s1.2.1 i).2.2.2.1 + 1 = (gq s1.2.1 i).2.2.1 + 1 by omega] at y7; have y10 := (inSp_sp (i := (gq s1.2.1 i).2.2.1 + 1) q2.2.1 (by omega) (by omega)).mpr y7; omega)
                  rw [show lat s1.2.2.1 5 + 0 = lat s1.2.2.1 5 by omega]
                  exact ih (i + 1) _ _ _ _ s1 _ _ (by omega) (by omega) (by omega) q2 q3 q4 (q5.up (by omega)) (q6.up (by omega)) q7 (fun z => by omega) (fun z => by rw [q9 z, if_neg ec])
                · refine gX_aloadn dX12_doMove_87 rfl ?_
                  refine gX_bipush dX12_doMove_88 (by decide) ⟨by decide, by decide⟩ ?_
                  refine gX_iconst dX12_doMove_90 ⟨by decide, by decide⟩ ?_
                  refine gX_aloadn dX12_doMove_91 rfl ?_
                  refine gX_gR 7 dX12_doMove_92 fdX12_28 rfl rfl hM.1 (mR7 hM) ?_
                  refine gX_iload dX12_doMove_95 rfl ?_
                  refine gX_iald dX12_doMove_97 (mA7 hM) (by omega) (by omega) ?_
                  refine gX_virt (J := iX12_lemmaSize) (av := [gi 10, gi (-1), gi (V1 782 (200 + i))]) (a := 775) (st := []) dX12_doMove_98 lkX12_362 kX12_lemmaSize vX12_lemmaSize (gFit_m (by decide)) hM.1 rfl rfl (Nat.le_of_ble_eq_true rfl) (Nat.zero_le _) (Nat.zero_le _) rfl ?_
                  refine m_lemmaSizeE hM ⟨by omega, by omega⟩ q2.1 q2.2.1 q0 (by omega) (q2.spo q0 (by omega) ho9) (onT_1.mp ho9).2 ?_
                  show gX l E _ 101 [some (ga 775), some (gi h), some (gi (lat q.2.2.2.1 5)), some (gi (lat s1.2.2.1 5)), some (gi i), some (gi (200 + i)), j6, j7] [gi (lml (gq s1.2.1 i))] (K, R, V1) _ _
                  refine gX_iconst dX12_doMove_101 ⟨by decide, by decide⟩ ?_
                  refine gX_icmpne (tgt := 109) dX12_doMove_102 (by decide) (fun b23 => ?_) (fun b23 => ?_)
                  · refine gX_iconst dX12_doMove_109 ⟨by decide, by decide⟩ ?_
                    refine gX_istore dX12_doMove_110 (show (6 : Nat) < 8 from by decide) (ls2 := [some (ga 775), some (gi h), some (gi (lat q.2.2.2.1 5)), some (gi (lat s1.2.2.1 5)), some (gi i), some (gi (200 + i)), some (gi 0), j7]) rfl ?_
                    refine gX_iload dX12_doMove_112 rfl ?_
                    refine gX_ifeq (tgt := 136) dX12_doMove_114 (by decide) (fun b24 => ?_) (fun b24 => by exfalso; omega)
                    refine gX_iconst dX12_doMove_136 ⟨by decide, by decide⟩ ?_
                    refine gX_istore dX12_doMove_137 (show (7 : Nat) < 8 from by decide) (ls2 := [some (ga 775), some (gi h), some (gi (lat q.2.2.2.1 5)), some (gi (lat s1.2.2.1 5)), some (gi i), some (gi (200 + i)), some (gi 0), some (gi 0)]) rfl ?_
                    refine gX_iload dX12_doMove_139 rfl ?_
                    refine gX_ifeq (tgt := 174) dX12_doMove_141 (by decide) (fun b25 => ?_) (fun b25 => by exfalso; omega)
                    refine gX_iconst dX12_doMove_174 ⟨by decide, by decide⟩ ?_
                    refine gX_istore dX12_doMove_175 (show (6 : Nat) < 8 from by decide) (ls2 := [some (ga 775), some (gi h), some (gi (lat q.2.2.2.1 5)), some (gi (lat s1.2.2.1 5)), some (gi i), some (gi (200 + i)), some (gi 0), some (gi 0)]) rfl ?_
                    refine gX_iloadn dX12_doMove_177 rfl ?_
                    refine gX_iload dX12_doMove_178 rfl ?_
                    refine gX_ifeq (tgt := 187) dX12_doMove_180 (by decide) (fun b26 => ?_) (fun b26 => by exfalso; omega)
                    refine gX_iconst dX12_doMove_187 ⟨by decide, by decide⟩ ?_
                    refine gX_iadd dX12_doMove_188 ⟨by omega, by omega⟩ ?_
                    refine gX_istoren dX12_doMove_189 (show (3 : Nat) < 8 from by decide) (ls2 := [some (ga 775), some (gi h), some (gi (lat q.2.2.2.1 5)), some (gi ((lat s1.2.2.1 5) + 0)), some (gi i), some (gi (200 + i)), some (gi 0), some (gi 0)]) rfl ?_
                    refine gX_iload dX12_doMove_190 rfl ?_
                    refine gX_ifeq (tgt := 237) dX12_doMove_192 (by decide) (fun b27 => ?_) (fun b27 => by exfalso; omega)
                    refine gX_iinc dX12_doMove_237 rfl (show (4 : Nat) < 8 from by decide) ⟨by omega, by omega⟩ (ls2 := [some (ga 775), some (gi h), some (gi (lat q.2.2.2.1 5)), some (gi ((lat s1.2.2.1 5) + 0)), some (gi (i + 1)), some (gi (200 + i)), some (gi 0), some (gi 0)]) rfl ?_
                    refine gX_goto (tgt := 17) dX12_doMove_240 (by decide) ?_
                    have e6 : mvS (lat q.2.2.2.1 5) (s.2.1.length - i.toNat) i.toNat s1 = if mvC s1.1 s1.2.1 (gq s1.2.1 i) = true then (if tkn (lat s1.2.2.1 5 + 1) (lat q.2.2.2.1 5) = 1 then mvS (lat q.2.2.2.1 5) (s.2.1.length - (i + 1).toNat) (i + 1).toNat (s1.1, s1.2.1.set i.toNat (shG (gq s1.2.1 i) 1), (tcS 5 (lat q.2.2.2.1 5) s1).2.2) else mvS (lat q.2.2.2.1 5) (s.2.1.length - (i + 1).toNat) (i + 1).toNat (tcS 5 (lat q.2.2.2.1 5) s1)) else mvS (lat q.2.2.2.1 5) (s.2.1.length - (i + 1).toNat) (i + 1).toNat s1 := by
                      rw [show s.2.1.length - i.toNat = (s.2.1.length - (i + 1).toNat) + 1 by omega, show (i + 1).toNat = i.toNat + 1 by omega]
                      have en : ((i.toNat : Nat) : Int) = i := by omega
                      show (if mvC s1.1 s1.2.1 (gq s1.2.1 ((i.toNat : Nat) : Int)) = true then (if _ then mvS _ _ _ (s1.1, s1.2.1.set i.toNat (shG (gq s1.2.1 ((i.toNat : Nat) : Int)) 1), _) else _) else _) = _
                      rw [en]
                    rw [e6] at q9
                    have ec : ¬ mvC s1.1 s1.2.1 (gq s1.2.1 i) = true := fun z => by
                      obtain ⟨y1, y2, y3, y4, y5, y6, y7⟩ := mvC_of z
                      have y8 := onT_1.mp y1
                      have y9 : lml (gq s1.2.1 i) = 1 := by unfold lml; omega
                      first
                      | omega
                      | (rw [show (gq s1.2.1 i).2.2.2.1 + 1 = (gq s1.2.1 i).2.2.1 + 1 by omega] at y7; have y10 := (inSp_sp (i := (gq s1.2.1 i).2.2.1 + 1) q2.2.1 (by omega) (by omega)).mpr y7; omega)
                    rw [show lat s1.2.2.1 5 + 0 = lat s1.2.2.1 5 by omega]
                    exact ih (i + 1) _ _ _ _ s1 _ _ (by omega) (by omega) (by omega) q2 q3 q4 (q5.up (by omega)) (q6.up (by omega)) q7 (fun z => by omega) (fun z => by rw [q9 z, if_neg ec])
                  · refine gX_iconst dX12_doMove_105 ⟨by decide, by decide⟩ ?_
                    refine gX_goto (tgt := 110) dX12_doMove_106 (by decide) ?_
                    refine gX_istore dX12_doMove_110 (show (6 : Nat) < 8 from by decide) (ls2 := [some (ga 775), some (gi h), some (gi (lat q.2.2.2.1 5)), some (gi (lat s1.2.2.1 5)), some (gi i), some (gi (200 + i)), some (gi 1), j7]) rfl ?_
                    refine gX_iload dX12_doMove_112 rfl ?_
                    refine gX_ifeq (tgt := 136) dX12_doMove_114 (by decide) (fun b28 => by exfalso; omega) (fun b28 => ?_)
                    refine gX_aloadn dX12_doMove_117 rfl ?_
                    refine gX_bipush dX12_doMove_118 (by decide) ⟨by decide, by decide⟩ ?_
                    refine gX_iconst dX12_doMove_120 ⟨by decide, by decide⟩ ?_
                    refine gX_aloadn dX12_doMove_121 rfl ?_
                    refine gX_gR 7 dX12_doMove_122 fdX12_28 rfl rfl hM.1 (mR7 hM) ?_
                    refine gX_iload dX12_doMove_125 rfl ?_
                    refine gX_iald dX12_doMove_127 (mA7 hM) (by omega) (by omega) ?_
                    refine gX_virt (J := iX12_firstOf) (av := [gi 10, gi (-1), gi (V1 782 (200 + i))]) (a := 775) (st := []) dX12_doMove_128 lkX12_359 kX12_firstOf vX12_firstOf (gFit_m (by decide)) hM.1 rfl rfl (Nat.le_of_ble_eq_true rfl) (Nat.zero_le _) (Nat.zero_le _) rfl ?_
                    refine m_firstOfE hM ⟨by omega, by omega⟩ q2.1 q2.2.1 q0 (by omega) (q2.spo q0 (by omega) ho9) (onT_1.mp ho9).2 ?_
                    show gX l E _ 131 [some (ga 775), some (gi h), some (gi (lat q.2.2.2.1 5)), some (gi (lat s1.2.2.1 5)), some (gi i), some (gi (200 + i)), some (gi 1), j7] [gi ((gq s1.2.1 i).2.2.1)] (K, R, V1) _ _
                    refine gX_iconst dX12_doMove_131 ⟨by decide, by decide⟩ ?_
                    refine gX_iadd dX12_doMove_132 ⟨by omega, by omega⟩ ?_
                    refine gX_goto (tgt := 137) dX12_doMove_133 (by decide) ?_
                    refine gX_istore dX12_doMove_137 (show (7 : Nat) < 8 from by decide) (ls2 := [some (ga 775), some (gi h), some (gi (lat q.2.2.2.1 5)), some (gi (lat s1.2.2.1 5)), some (gi i), some (gi (200 + i)), some (gi 1), some (gi (((gq s1.2.1 i).2.2.1) + 1))]) rfl ?_
                    refine gX_iload dX12_doMove_139 rfl ?_
                    refine gX_ifeq (tgt := 174) dX12_doMove_141 (by decide) (fun b29 => by exfalso; omega) (fun b29 => ?_)
                    refine gX_iload dX12_doMove_144 rfl ?_
                    refine gX_aloadn dX12_doMove_146 rfl ?_
                    refine gX_gR 1 dX12_doMove_147 fdX12_7 rfl rfl hM.1 (mR1 hM) ?_
                    refine gX_bipush dX12_doMove_150 (by decide) ⟨by decide, by decide⟩ ?_
                    refine gX_iald dX12_doMove_152 (mA1 hM) (by omega) (by omega) ?_
                    rw [q2.1.1]
                    refine gX_icmpge (tgt := 174) dX12_doMove_153 (by decide) (fun b30 => ?_) (fun b30 => ?_)
                    · refine gX_iconst dX12_doMove_174 ⟨by decide, by decide⟩ ?_
                      refine gX_istore dX12_doMove_175 (show (6 : Nat) < 8 from by decide) (ls2 := [some (ga 775), some (gi h), some (gi (lat q.2.2.2.1 5)), some (gi (lat s1.2.2.1 5)), some (gi i), some (gi (200 + i)), some (gi 0), some (gi (((gq s1.2.1 i).2.2.1) + 1))]) rfl ?_
                      refine gX_iloadn dX12_doMove_177 rfl ?_
                      refine gX_iload dX12_doMove_178 rfl ?_
                      refine gX_ifeq (tgt := 187) dX12_doMove_180 (by decide) (fun b31 => ?_) (fun b31 => by exfalso; omega)
                      refine gX_iconst dX12_doMove_187 ⟨by decide, by decide⟩ ?_
                      refine gX_iadd dX12_doMove_188 ⟨by omega, by omega⟩ ?_
                      refine gX_istoren dX12_doMove_189 (show (3 : Nat) < 8 from by decide) (ls2 := [some (ga 775), some (gi h), some (gi (lat q.2.2.2.1 5)), some (gi ((lat s1.2.2.1 5) + 0)), some (gi i), some (gi (200 + i)), some (gi 0), some (gi (((gq s1.2.1 i).2.2.1) + 1))]) rfl ?_
                      refine gX_iload dX12_doMove_190 rfl ?_
                      refine gX_ifeq (tgt := 237) dX12_doMove_192 (by decide) (fun b32 => ?_) (fun b32 => by exfalso; omega)
                      refine gX_iinc dX12_doMove_237 rfl (show (4 : Nat) < 8 from by decide) ⟨by omega, by omega⟩ (ls2 := [some (ga 775), some (gi h), some (gi (lat q.2.2.2.1 5)), some (gi ((lat s1.2.2.1 5) + 0)), some (gi (i + 1)), some (gi (200 + i)), some (gi 0), some (gi (((gq s1.2.1 i).2.2.1) + 1))]) rfl ?_
                      refine gX_goto (tgt := 17) dX12_doMove_240 (by decide) ?_
                      have e6 : mvS (lat q.2.2.2.1 5) (s.2.1.length - i.toNat) i.toNat s1 = if mvC s1.1 s1.2.1 (gq s1.2.1 i) = true then (if tkn (lat s1.2.2.1 5 + 1) (lat q.2.2.2.1 5) = 1 then mvS (lat q.2.2.2.1 5) (s.2.1.length - (i + 1).toNat) (i + 1).toNat (s1.1, s1.2.1.set i.toNat (shG (gq s1.2.1 i) 1), (tcS 5 (lat q.2.2.2.1 5) s1).2.2) else mvS (lat q.2.2.2.1 5) (s.2.1.length - (i + 1).toNat) (i + 1).toNat (tcS 5 (lat q.2.2.2.1 5) s1)) else mvS (lat q.2.2.2.1 5) (s.2.1.length - (i + 1).toNat) (i + 1).toNat s1 := by
                        rw [show s.2.1.length - i.toNat = (s.2.1.length - (i + 1).toNat) + 1 by omega, show (i + 1).toNat = i.toNat + 1 by omega]
                        have en : ((i.toNat : Nat) : Int) = i := by omega
                        show (if mvC s1.1 s1.2.1 (gq s1.2.1 ((i.toNat : Nat) : Int)) = true then (if _ then mvS _ _ _ (s1.1, s1.2.1.set i.toNat (shG (gq s1.2.1 ((i.toNat : Nat) : Int)) 1), _) else _) else _) = _
                        rw [en]
                      rw [e6] at q9
                      have ec : ¬ mvC s1.1 s1.2.1 (gq s1.2.1 i) = true := fun z => by
                        obtain ⟨y1, y2, y3, y4, y5, y6, y7⟩ := mvC_of z
                        have y8 := onT_1.mp y1
                        have y9 : lml (gq s1.2.1 i) = 1 := by unfold lml; omega
                        first
                        | omega
                        | (rw [show (gq s1.2.1 i).2.2.2.1 + 1 = (gq s1.2.1 i).2.2.1 + 1 by omega] at y7; have y10 := (inSp_sp (i := (gq s1.2.1 i).2.2.1 + 1) q2.2.1 (by omega) (by omega)).mpr y7; omega)
                      rw [show lat s1.2.2.1 5 + 0 = lat s1.2.2.1 5 by omega]
                      exact ih (i + 1) _ _ _ _ s1 _ _ (by omega) (by omega) (by omega) q2 q3 q4 (q5.up (by omega)) (q6.up (by omega)) q7 (fun z => by omega) (fun z => by rw [q9 z, if_neg ec])
                    · refine gX_aloadn dX12_doMove_156 rfl ?_
                      refine gX_gR 3 dX12_doMove_157 fdX12_16 rfl rfl hM.1 (mR3 hM) ?_
                      refine gX_sipush dX12_doMove_160 (by decide) ⟨by decide, by decide⟩ ?_
                      refine gX_iload dX12_doMove_163 rfl ?_
                      refine gX_iadd dX12_doMove_165 ⟨by omega, by omega⟩ ?_
                      refine gX_iald dX12_doMove_166 (mA3 hM) (by omega) (by omega) ?_
                      refine gX_ifge (tgt := 174) dX12_doMove_167 (by decide) (fun b33 => ?_) (fun b33 => ?_)
                      · refine gX_iconst dX12_doMove_174 ⟨by decide, by decide⟩ ?_
                        refine gX_istore dX12_doMove_175 (show (6 : Nat) < 8 from by decide) (ls2 := [some (ga 775), some (gi h), some (gi (lat q.2.2.2.1 5)), some (gi (lat s1.2.2.1 5)), some (gi i), some (gi (200 + i)), some (gi 0), some (gi (((gq s1.2.1 i).2.2.1) + 1))]) rfl ?_
                        refine gX_iloadn dX12_doMove_177 rfl ?_
                        refine gX_iload dX12_doMove_178 rfl ?_
                        refine gX_ifeq (tgt := 187) dX12_doMove_180 (by decide) (fun b34 => ?_) (fun b34 => by exfalso; omega)
                        refine gX_iconst dX12_doMove_187 ⟨by decide, by decide⟩ ?_
                        refine gX_iadd dX12_doMove_188 ⟨by omega, by omega⟩ ?_
                        refine gX_istoren dX12_doMove_189 (show (3 : Nat) < 8 from by decide) (ls2 := [some (ga 775), some (gi h), some (gi (lat q.2.2.2.1 5)), some (gi ((lat s1.2.2.1 5) + 0)), some (gi i), some (gi (200 + i)), some (gi 0), some (gi (((gq s1.2.1 i).2.2.1) + 1))]) rfl ?_
                        refine gX_iload dX12_doMove_190 rfl ?_
                        refine gX_ifeq (tgt := 237) dX12_doMove_192 (by decide) (fun b35 => ?_) (fun b35 => by exfalso; omega)
                        refine gX_iinc dX12_doMove_237 rfl (show (4 : Nat) < 8 from by decide) ⟨by omega, by omega⟩ (ls2 := [some (ga 775), some (gi h), some (gi (lat q.2.2.2.1 5)), some (gi ((lat s1.2.2.1 5) + 0)), some (gi (i + 1)), some (gi (200 + i)), some (gi 0), some (gi (((gq s1.2.1 i).2.2.1) + 1))]) rfl ?_
                        refine gX_goto (tgt := 17) dX12_doMove_240 (by decide) ?_
                        have e6 : mvS (lat q.2.2.2.1 5) (s.2.1.length - i.toNat) i.toNat s1 = if mvC s1.1 s1.2.1 (gq s1.2.1 i) = true then (if tkn (lat s1.2.2.1 5 + 1) (lat q.2.2.2.1 5) = 1 then mvS (lat q.2.2.2.1 5) (s.2.1.length - (i + 1).toNat) (i + 1).toNat (s1.1, s1.2.1.set i.toNat (shG (gq s1.2.1 i) 1), (tcS 5 (lat q.2.2.2.1 5) s1).2.2) else mvS (lat q.2.2.2.1 5) (s.2.1.length - (i + 1).toNat) (i + 1).toNat (tcS 5 (lat q.2.2.2.1 5) s1)) else mvS (lat q.2.2.2.1 5) (s.2.1.length - (i + 1).toNat) (i + 1).toNat s1 := by
                          rw [show s.2.1.length - i.toNat = (s.2.1.length - (i + 1).toNat) + 1 by omega, show (i + 1).toNat = i.toNat + 1 by omega]
                          have en : ((i.toNat : Nat) : Int) = i := by omega
                          show (if mvC s1.1 s1.2.1 (gq s1.2.1 ((i.toNat : Nat) : Int)) = true then (if _ then mvS _ _ _ (s1.1, s1.2.1.set i.toNat (shG (gq s1.2.1 ((i.toNat : Nat) : Int)) 1), _) else _) else _) = _
                          rw [en]
                        rw [e6] at q9
                        have ec : ¬ mvC s1.1 s1.2.1 (gq s1.2.1 i) = true := fun z => by
                          obtain ⟨y1, y2, y3, y4, y5, y6, y7⟩ := mvC_of z
                          have y8 := onT_1.mp y1
                          have y9 : lml (gq s1.2.1 i) = 1 := by unfold lml; omega
                          first
                          | omega
                          | (rw [show (gq s1.2.1 i).2.2.2.1 + 1 = (gq s1.2.1 i).2.2.1 + 1 by omega] at y7; have y10 := (inSp_sp (i := (gq s1.2.1 i).2.2.1 + 1) q2.2.1 (by omega) (by omega)).mpr y7; omega)
                        rw [show lat s1.2.2.1 5 + 0 = lat s1.2.2.1 5 by omega]
                        exact ih (i + 1) _ _ _ _ s1 _ _ (by omega) (by omega) (by omega) q2 q3 q4 (q5.up (by omega)) (q6.up (by omega)) q7 (fun z => by omega) (fun z => by rw [q9 z, if_neg ec])
                      · refine gX_iconst dX12_doMove_170 ⟨by decide, by decide⟩ ?_
                        refine gX_goto (tgt := 175) dX12_doMove_171 (by decide) ?_
                        refine gX_istore dX12_doMove_175 (show (6 : Nat) < 8 from by decide) (ls2 := [some (ga 775), some (gi h), some (gi (lat q.2.2.2.1 5)), some (gi (lat s1.2.2.1 5)), some (gi i), some (gi (200 + i)), some (gi 1), some (gi (((gq s1.2.1 i).2.2.1) + 1))]) rfl ?_
                        refine gX_iloadn dX12_doMove_177 rfl ?_
                        refine gX_iload dX12_doMove_178 rfl ?_
                        refine gX_ifeq (tgt := 187) dX12_doMove_180 (by decide) (fun b36 => by exfalso; omega) (fun b36 => ?_)
                        refine gX_iconst dX12_doMove_183 ⟨by decide, by decide⟩ ?_
                        refine gX_goto (tgt := 188) dX12_doMove_184 (by decide) ?_
                        refine gX_iadd dX12_doMove_188 ⟨by omega, by omega⟩ ?_
                        refine gX_istoren dX12_doMove_189 (show (3 : Nat) < 8 from by decide) (ls2 := [some (ga 775), some (gi h), some (gi (lat q.2.2.2.1 5)), some (gi ((lat s1.2.2.1 5) + 1)), some (gi i), some (gi (200 + i)), some (gi 1), some (gi (((gq s1.2.1 i).2.2.1) + 1))]) rfl ?_
                        refine gX_iload dX12_doMove_190 rfl ?_
                        refine gX_ifeq (tgt := 237) dX12_doMove_192 (by decide) (fun b37 => by exfalso; omega) (fun b37 => ?_)
                        refine gX_aloadn dX12_doMove_195 rfl ?_
                        refine gX_iconst dX12_doMove_196 ⟨by decide, by decide⟩ ?_
                        refine gX_iloadn dX12_doMove_197 rfl ?_
                        refine gX_iloadn dX12_doMove_198 rfl ?_
                        refine gX_virt (J := iX12_isTaken) (av := [gi 5, gi ((lat s1.2.2.1 5) + 1), gi (lat q.2.2.2.1 5)]) (a := 775) (st := []) dX12_doMove_199 lkX12_342 kX12_isTaken vX12_isTaken (gFit_m (by decide)) hM.1 rfl rfl (Nat.le_of_ble_eq_true rfl) (Nat.zero_le _) (Nat.zero_le _) rfl ?_
                        refine m_isTakenW hM q2 (by omega) (by omega) (by omega) (by omega) (q5.up (by omega)) (q6.up (by omega)) (fun V2 hw2 hf2 => ?_)
                        show gX l E _ 202 [some (ga 775), some (gi h), some (gi (lat q.2.2.2.1 5)), some (gi ((lat s1.2.2.1 5) + 1)), some (gi i), some (gi (200 + i)), some (gi 1), some (gi (((gq s1.2.1 i).2.2.1) + 1))] [gi (tkn (lat s1.2.2.1 5 + 1) (lat q.2.2.2.1 5))] (K, R, V2) _ _
                        refine gX_ifeq (tgt := 237) dX12_doMove_202 (by decide) (fun b38 => ?_) (fun b38 => ?_)
                        · refine gX_iinc dX12_doMove_237 rfl (show (4 : Nat) < 8 from by decide) ⟨by omega, by omega⟩ (ls2 := [some (ga 775), some (gi h), some (gi (lat q.2.2.2.1 5)), some (gi ((lat s1.2.2.1 5) + 1)), some (gi (i + 1)), some (gi (200 + i)), some (gi 1), some (gi (((gq s1.2.1 i).2.2.1) + 1))]) rfl ?_
                          refine gX_goto (tgt := 17) dX12_doMove_240 (by decide) ?_
                          have e6 : mvS (lat q.2.2.2.1 5) (s.2.1.length - i.toNat) i.toNat s1 = if mvC s1.1 s1.2.1 (gq s1.2.1 i) = true then (if tkn (lat s1.2.2.1 5 + 1) (lat q.2.2.2.1 5) = 1 then mvS (lat q.2.2.2.1 5) (s.2.1.length - (i + 1).toNat) (i + 1).toNat (s1.1, s1.2.1.set i.toNat (shG (gq s1.2.1 i) 1), (tcS 5 (lat q.2.2.2.1 5) s1).2.2) else mvS (lat q.2.2.2.1 5) (s.2.1.length - (i + 1).toNat) (i + 1).toNat (tcS 5 (lat q.2.2.2.1 5) s1)) else mvS (lat q.2.2.2.1 5) (s.2.1.length - (i + 1).toNat) (i + 1).toNat s1 := by
                            rw [show s.2.1.length - i.toNat = (s.2.1.length - (i + 1).toNat) + 1 by omega, show (i + 1).toNat = i.toNat + 1 by omega]
                            have en : ((i.toNat : Nat) : Int) = i := by omega
                            show (if mvC s1.1 s1.2.1 (gq s1.2.1 ((i.toNat : Nat) : Int)) = true then (if _ then mvS _ _ _ (s1.1, s1.2.1.set i.toNat (shG (gq s1.2.1 ((i.toNat : Nat) : Int)) 1), _) else _) else _) = _
                            rw [en]
                          rw [e6] at q9
                          have hsp9 := (inSp_sp (i := (gq s1.2.1 i).2.2.1 + 1) q2.2.1 (by omega) (by omega)).mp (by omega)
                          have elm5 : lml (gq s1.2.1 i) = 1 := by assumption
                          have elm : (gq s1.2.1 i).2.2.1 = (gq s1.2.1 i).2.2.2.1 := by unfold lml at elm5; omega
                          have ec : mvC s1.1 s1.2.1 (gq s1.2.1 i) = true := by
                            unfold mvC
                            rw [decide_eq_true ho9, decide_eq_true (show (gq s1.2.1 i).1 = 1 by omega), decide_eq_true (show lml (gq s1.2.1 i) = 1 by assumption), decide_eq_true (show alnC s1.2.1 (gq s1.2.1 i) = 1 by assumption), decide_eq_true (show lhas s1.1 ((gq s1.2.1 i).2.2.2.1 + 1) = 1 from if_pos ⟨by omega, by omega⟩), show (gq s1.2.1 i).2.2.2.1 + 1 = (gq s1.2.1 i).2.2.1 + 1 by omega, hsp9]
                            rfl
                          rw [if_pos ec] at q9
                          have et := tkn_01 (lat s1.2.2.1 5 + 1) (lat q.2.2.2.1 5)
                          have hc9 : cBd (tcS 5 (lat q.2.2.2.1 5) s1).2.2.1 (2000 + (i + 1)) := (tcS_c q5 (by omega) (by omega)).up (by omega)
                          have ht9 : cBd (tcS 5 (lat q.2.2.2.1 5) s1).2.2.2 (2000 + (i + 1)) := (tcS_t q6 (by omega) (by omega)).up (by omega)
                          have el9 : lat s1.2.2.1 5 + 1 = lat (tcS 5 (lat q.2.2.2.1 5) s1).2.2.1 5 := (bump_at (by omega) (by rw [q2.2.2.2.1.1]; omega)).symm
                          rw [el9]
                          exact ih (i + 1) _ _ _ _ (tcS 5 (lat q.2.2.2.1 5) s1) _ _ (by omega) (by omega) (by omega) hw2 (q3.trans hf2.wk) q4 hc9 ht9 q7.bmp (fun z => by omega) (fun z => by rw [q9 z, if_neg (by omega)])
                        · refine gX_aloadn dX12_doMove_205 rfl ?_
                          refine gX_gR 3 dX12_doMove_206 fdX12_16 rfl rfl hM.1 (mR3 hM) ?_
                          refine gX_sipush dX12_doMove_209 (by decide) ⟨by decide, by decide⟩ ?_
                          refine gX_iload dX12_doMove_212 rfl ?_
                          refine gX_iadd dX12_doMove_214 ⟨by omega, by omega⟩ ?_
                          refine gX_iconst dX12_doMove_215 ⟨by decide, by decide⟩ ?_
                          refine gX_isub dX12_doMove_216 ⟨by omega, by omega⟩ ?_
                          refine gX_iconst dX12_doMove_217 ⟨by decide, by decide⟩ ?_
                          refine gX_iast dX12_doMove_218 (mA3 hM) (by omega) (by omega) ?_
                          refine gX_aloadn dX12_doMove_219 rfl ?_
                          refine gX_gR 3 dX12_doMove_220 fdX12_16 rfl rfl hM.1 (mR3 hM) ?_
                          refine gX_sipush dX12_doMove_223 (by decide) ⟨by decide, by decide⟩ ?_
                          refine gX_iload dX12_doMove_226 rfl ?_
                          refine gX_iadd dX12_doMove_228 ⟨by omega, by omega⟩ ?_
                          refine gX_aloadn dX12_doMove_229 rfl ?_
                          refine gX_gR 7 dX12_doMove_230 fdX12_28 rfl rfl hM.1 (mR7 hM) ?_
                          refine gX_iload dX12_doMove_233 rfl ?_
                          refine gX_iald dX12_doMove_235 (mA7 hM) (by omega) (by omega) ?_
                          rw [show (gup V2 778 ((400 + (((gq s1.2.1 i).2.2.1) + 1)) - 1) (-1)) 782 (200 + i) = V1 782 (200 + i) by rw [gup_ne (by omega), hf2.1 782 (by omega) (by omega)]]
                          refine gX_iast dX12_doMove_236 (mA3 hM) (by omega) (by omega) ?_
                          refine gX_iinc dX12_doMove_237 rfl (show (4 : Nat) < 8 from by decide) ⟨by omega, by omega⟩ (ls2 := [some (ga 775), some (gi h), some (gi (lat q.2.2.2.1 5)), some (gi ((lat s1.2.2.1 5) + 1)), some (gi (i + 1)), some (gi (200 + i)), some (gi 1), some (gi (((gq s1.2.1 i).2.2.1) + 1))]) rfl ?_
                          refine gX_goto (tgt := 17) dX12_doMove_240 (by decide) ?_
                          have e6 : mvS (lat q.2.2.2.1 5) (s.2.1.length - i.toNat) i.toNat s1 = if mvC s1.1 s1.2.1 (gq s1.2.1 i) = true then (if tkn (lat s1.2.2.1 5 + 1) (lat q.2.2.2.1 5) = 1 then mvS (lat q.2.2.2.1 5) (s.2.1.length - (i + 1).toNat) (i + 1).toNat (s1.1, s1.2.1.set i.toNat (shG (gq s1.2.1 i) 1), (tcS 5 (lat q.2.2.2.1 5) s1).2.2) else mvS (lat q.2.2.2.1 5) (s.2.1.length - (i + 1).toNat) (i + 1).toNat (tcS 5 (lat q.2.2.2.1 5) s1)) else mvS (lat q.2.2.2.1 5) (s.2.1.length - (i + 1).toNat) (i + 1).toNat s1 := by
                            rw [show s.2.1.length - i.toNat = (s.2.1.length - (i + 1).toNat) + 1 by omega, show (i + 1).toNat = i.toNat + 1 by omega]
                            have en : ((i.toNat : Nat) : Int) = i := by omega
                            show (if mvC s1.1 s1.2.1 (gq s1.2.1 ((i.toNat : Nat) : Int)) = true then (if _ then mvS _ _ _ (s1.1, s1.2.1.set i.toNat (shG (gq s1.2.1 ((i.toNat : Nat) : Int)) 1), _) else _) else _) = _
                            rw [en]
                          rw [e6] at q9
                          have hsp9 := (inSp_sp (i := (gq s1.2.1 i).2.2.1 + 1) q2.2.1 (by omega) (by omega)).mp (by omega)
                          have elm5 : lml (gq s1.2.1 i) = 1 := by assumption
                          have elm : (gq s1.2.1 i).2.2.1 = (gq s1.2.1 i).2.2.2.1 := by unfold lml at elm5; omega
                          have ec : mvC s1.1 s1.2.1 (gq s1.2.1 i) = true := by
                            unfold mvC
                            rw [decide_eq_true ho9, decide_eq_true (show (gq s1.2.1 i).1 = 1 by omega), decide_eq_true (show lml (gq s1.2.1 i) = 1 by assumption), decide_eq_true (show alnC s1.2.1 (gq s1.2.1 i) = 1 by assumption), decide_eq_true (show lhas s1.1 ((gq s1.2.1 i).2.2.2.1 + 1) = 1 from if_pos ⟨by omega, by omega⟩), show (gq s1.2.1 i).2.2.2.1 + 1 = (gq s1.2.1 i).2.2.1 + 1 by omega, hsp9]
                            rfl
                          rw [if_pos ec] at q9
                          have et := tkn_01 (lat s1.2.2.1 5 + 1) (lat q.2.2.2.1 5)
                          have hc9 : cBd (tcS 5 (lat q.2.2.2.1 5) s1).2.2.1 (2000 + (i + 1)) := (tcS_c q5 (by omega) (by omega)).up (by omega)
                          have ht9 : cBd (tcS 5 (lat q.2.2.2.1 5) s1).2.2.2 (2000 + (i + 1)) := (tcS_t q6 (by omega) (by omega)).up (by omega)
                          have el9 : lat s1.2.2.1 5 + 1 = lat (tcS 5 (lat q.2.2.2.1 5) s1).2.2.1 5 := (bump_at (by omega) (by rw [q2.2.2.2.1.1]; omega)).symm
                          rw [el9]
                          have hw9 : wfS (s1.1, s1.2.1.set i.toNat (shG (gq s1.2.1 i) 1), (tcS 5 (lat q.2.2.2.1 5) s1).2.2) := by
                            have := (mvS_h (m := 1) 1 i.toNat s1 (by omega) q2.2.2.2.2.1).1
                            have e : mvS 1 1 i.toNat s1 = if mvC s1.1 s1.2.1 (gq s1.2.1 ((i.toNat : Nat) : Int)) = true then (if tkn (lat s1.2.2.1 5 + 1) 1 = 1 then (s1.1, s1.2.1.set i.toNat (shG (gq s1.2.1 ((i.toNat : Nat) : Int)) 1), (tcS 5 1 s1).2.2) else tcS 5 1 s1) else s1 := rfl
                            rw [e, show ((i.toNat : Nat) : Int) = i by omega, if_pos ec, if_pos (by unfold tkn; rw [if_pos ⟨by omega, by omega⟩])] at this
                            exact this
                          have eg : ∀ k : Int, 0 ≤ k → gq (s1.2.1.set i.toNat (shG (gq s1.2.1 i) 1)) k = if k = i then shG (gq s1.2.1 i) 1 else gq s1.2.1 k := fun k k0 => gq_set q0 (by omega) k0
                          refine ih (i + 1) _ _ _ _ (s1.1, s1.2.1.set i.toNat (shG (gq s1.2.1 i) 1), (tcS 5 (lat q.2.2.2.1 5) s1).2.2) _ _ (by omega) (by omega) (by omega) ⟨?_, ?_, ?_, ?_, hw9, ?_⟩ ?_ (by show (s1.2.1.set _ _).length = _; rw [List.length_set]; exact q4) hc9 ht9 q7.bmp (fun z => by omega) (fun z => by rw [q9 z, if_pos (by omega)])
                          · refine hw2.1.lk (List.length_set ..) (fun k k0 k1 => ?_) (fun a a1 a2 a3 => by rw [gup_ne a1, gup_ne a1])
                            show (gq (s1.2.1.set i.toNat (shG (gq s1.2.1 i) 1)) k).1 = (gq s1.2.1 k).1 ∧ (gq (s1.2.1.set i.toNat (shG (gq s1.2.1 i) 1)) k).2.1 = (gq s1.2.1 k).2.1 ∧ (gq (s1.2.1.set i.toNat (shG (gq s1.2.1 i) 1)) k).2.2.2.2.2 = (gq s1.2.1 k).2.2.2.2.2
                            rw [eg k k0]
                            by_cases c : k = i
                            · rw [if_pos c, c]; exact ⟨rfl, rfl, rfl⟩
                            · rw [if_neg c]; exact ⟨rfl, rfl, rfl⟩
                          · refine hw2.2.1.move q2.2.2.2.2.1.1 q0 (by show i < (s1.2.1.length : Int); omega) ho9 elm (by assumption) (show (gq s1.2.1 i).2.2.1 + 1 < (s1.1.length : Int) by omega) hsp9 (by rw [gup_ne (by omega), gup_ne (by omega)]) (by rw [gup_ne (by omega), gup_ne (by omega)]) ?_ ?_ (fun j j1 j2 => ?_)
                            · show gup _ 778 (400 + ((gq s1.2.1 i).2.2.1 + 1)) _ 778 (400 + (gq s1.2.1 i).2.2.1) = -1
                              rw [gup_c (Or.inr (by omega)), show 400 + (gq s1.2.1 i).2.2.1 = 400 + ((gq s1.2.1 i).2.2.1 + 1) - 1 by omega]
                              exact gup_s
                            · exact gup_s.trans (by rw [hf2.1 782 (by omega) (by omega)])
                            · have j1 : j ≠ (gq s1.2.1 i).2.2.1 := j1
                              have j2 : j ≠ (gq s1.2.1 i).2.2.1 + 1 := j2
                              rw [gup_c (Or.inr (by omega)), gup_c (Or.inr (by omega))]
                          · intro k k0 k1
                            have k1 : k < s1.2.1.length := by have k2 : k < ((s1.2.1.set i.toNat (shG (gq s1.2.1 i) 1)).length : Int) := k1; rw [List.length_set] at k2; exact k2
                            have z := hw2.2.2.1 k k0 k1
                            have z2 : V2 804 k = (gq s1.2.1 k).2.2.2.2.1 ∧ ((gq s1.2.1 k).2.2.2.2.1 = 0 ∨ (gq s1.2.1 k).2.2.2.2.1 = 1) := z
                            rw [gup_ne (by omega), gup_ne (by omega)]
                            show V2 804 k = (gq (s1.2.1.set i.toNat (shG (gq s1.2.1 i) 1)) k).2.2.2.2.1 ∧ ((gq (s1.2.1.set i.toNat (shG (gq s1.2.1 i) 1)) k).2.2.2.2.1 = 0 ∨ (gq (s1.2.1.set i.toNat (shG (gq s1.2.1 i) 1)) k).2.2.2.2.1 = 1)
                            rw [eg k k0]
                            by_cases c : k = i
                            · rw [if_pos c]; rw [c] at z2 ⊢; exact z2
                            · rw [if_neg c]; exact z2
                          · have z := hw2.2.2.2.1
                            exact ⟨z.1, z.2.1, fun j j0 j1 => by rw [gup_ne (by omega), gup_ne (by omega), gup_ne (by omega), gup_ne (by omega)]; exact z.2.2 j j0 j1⟩
                          · intro k k0 k1 lk
                            have k1 : k < s1.2.1.length := by have k2 : k < ((s1.2.1.set i.toNat (shG (gq s1.2.1 i) 1)).length : Int) := k1; rw [List.length_set] at k2; exact k2
                            have z := q2.2.2.2.2.2 k k0 k1
                            have lk : lvQ (gq (s1.2.1.set i.toNat (shG (gq s1.2.1 i) 1)) k) := lk
                            have ehk : ∀ x, hoK s1.2.1 x → hoK (s1.2.1.set i.toNat (shG (gq s1.2.1 i) 1)) x := fun x y => by
                              rcases y with y | ⟨y1, y2, y3⟩
                              · exact Or.inl y
                              · refine Or.inr ⟨y1, by rw [List.length_set]; exact y2, ?_⟩
                                rw [eg x y1]
                                by_cases c : x = i
                                · rw [if_pos c]; rw [c] at y3; exact y3
                                · rw [if_neg c]; exact y3
                            show hoK (s1.2.1.set i.toNat (shG (gq s1.2.1 i) 1)) (gq (s1.2.1.set i.toNat (shG (gq s1.2.1 i) 1)) k).2.1
                            rw [eg k k0] at lk ⊢
                            by_cases c : k = i
                            · rw [if_pos c] at lk ⊢; rw [c] at z; exact ehk _ (z lk)
                            · rw [if_neg c] at lk ⊢; exact ehk _ (z lk)
                          · exact ((q3.trans hf2.wk).up (by unfold inSl; omega)).up (by unfold inSl; omega)
  refine gX_aloadn dX12_doMove_0 rfl ?_
  refine gX_gR 33 dX12_doMove_1 fdX12_77 rfl rfl hM.1 (mR33 hM) ?_
  refine gX_bipush dX12_doMove_4 (by decide) ⟨by decide, by decide⟩ ?_
  refine gX_iloadn dX12_doMove_6 rfl ?_
  refine gX_imul dX12_doMove_7 ⟨by omega, by omega⟩ ?_
  refine gX_iconst dX12_doMove_8 ⟨by decide, by decide⟩ ?_
  refine gX_iadd dX12_doMove_9 ⟨by omega, by omega⟩ ?_
  refine gX_iald dX12_doMove_10 (mA33 hM) (by omega) (by omega) ?_
  rw [hm]
  refine gX_istoren dX12_doMove_11 (show (2 : Nat) < 8 from by decide) (ls2 := [some (ga 775), some (gi h), some (gi (lat q.2.2.2.1 5)), none, none, none, none, none]) rfl ?_
  refine gX_iconst dX12_doMove_12 ⟨by decide, by decide⟩ ?_
  refine gX_istoren dX12_doMove_13 (show (3 : Nat) < 8 from by decide) (ls2 := [some (ga 775), some (gi h), some (gi (lat q.2.2.2.1 5)), some (gi 0), none, none, none, none]) rfl ?_
  refine gX_iconst dX12_doMove_14 ⟨by decide, by decide⟩ ?_
  refine gX_istore dX12_doMove_15 (show (4 : Nat) < 8 from by decide) (ls2 := [some (ga 775), some (gi h), some (gi (lat q.2.2.2.1 5)), some (gi 0), some (gi 0), none, none, none]) rfl ?_
  have z9 := fun bc bs => lp (s.2.1.length + 1) 0 none none none V s bc bs (by omega) (by omega) (by omega) hs wkF.rf rfl (hc0.up (by omega)) (ht0.up (by omega)) (chK.rf 5 s) (fun _ => rfl) (fun _ => rfl)
  rw [hz] at z9
  exact z9 _ _
end MD26
