/-! The reference: turn, drop. Written by wip/whole/tools/mk_md25.py. -/
theorem anyBx {f : Nat → Bool} : ∀ {n : Nat}, anyB f n = true → ∃ k, k < n ∧ f k = true
  | 0, h => by cases h
  | n + 1, h => by
    rw [anyB_s, Bool.or_eq_true] at h
    rcases h with h | h
    · obtain ⟨k, h1, h2⟩ := anyBx h
      exact ⟨k, by omega, h2⟩
    · exact ⟨n, by omega, h⟩
theorem onT_1 {q : gG} : onT q = 1 ↔ q.2.2.2.2.1 = 0 ∧ q.2.1 = -1 := by
  unfold onT
  constructor
  · intro h
    exact Decidable.byContradiction fun z => by rw [if_neg z] at h; omega
  · intro h; exact if_pos h
theorem cov_1 {q : gG} {i : Int} : cov q i = 1 ↔ q.2.2.1 ≤ i ∧ i ≤ q.2.2.2.1 := by
  unfold cov
  constructor
  · intro h
    exact Decidable.byContradiction fun z => by rw [if_neg z] at h; omega
  · intro h; exact if_pos h
theorem shr_1 {p q : gG} : shr p q = 1 ↔ p.2.1 = q.2.1 ∧ p.2.2.1 = q.2.2.1 := by
  unfold shr
  constructor
  · intro h
    exact Decidable.byContradiction fun z => by rw [if_neg z] at h; omega
  · intro h; exact if_pos h
/-- a word of the text is in a span where its span's number says so -/
theorem inSp_sp {V : Int → Int → Int} {tx : List Int} {gs : List gG} {i : Int} (hs : rsIs V 10 tx gs) (i0 : 0 ≤ i) (i1 : i < tx.length) : V 778 (400 + i) < 0 ↔ inSp gs i = false := by
  have e : spA V 10 (-1) i = V 778 (400 + i) := if_pos (by omega)
  have hl : i < (rwL tx gs (-1)).length := by rw [rwL_n]; exact i1
  constructor
  · intro h
    apply Bool.eq_false_iff.mpr
    intro z
    obtain ⟨k, k1, k2⟩ := anyBx z
    rw [Bool.and_eq_true, decide_eq_true_eq, decide_eq_true_eq, onT_1, cov_1] at k2
    have := hs.1 k (by omega) (by omega) k2.1.1
    have := (this.2 (-1) i (Or.inl rfl) i0 hl).mpr ⟨k2.1.2.symm, k2.2⟩
    omega
  · intro h
    rw [← e]
    refine hs.2 (-1) i (Or.inl rfl) i0 hl (fun g g0 g1 lg cg => ?_)
    have := anyB_f h (k := g.toNat) (by omega)
    rw [Int.toNat_of_nonneg g0, Bool.and_eq_false_iff] at this
    rcases this with z | z
    · exact absurd (onT_1.mpr ⟨lg, cg.1.symm⟩) (of_decide_eq_false z)
    · exact absurd (cov_1.mpr cg.2) (of_decide_eq_false z)
theorem lk.rf (gs : List gG) : lk gs gs := rfl
theorem wfS.tx {s : cS} {tx' : List Int} {c : List Int × List Int} (h : wfS s) (hl : tx'.length = s.1.length) : wfS (tx', s.2.1, c) := ⟨(lk.rf s.2.1).spW hl h.1, h.2.1, h.2.2.1, h.2.2.2.1, by show tx'.length ≤ 40; rw [hl]; exact h.2.2.2.2.1, h.2.2.2.2.2⟩
theorem rbIs.tc {V V' : Int → Int → Int} {tx : List Int} {gs : List gG} (h : rbIs V 10 tx gs) (hf : tcO V V') : rbIs V' 10 tx gs := by
  unfold rbIs rgIs
  rw [hf.1 776 (by omega) (by omega), hf.1 777 (by omega) (by omega), hf.1 779 (by omega) (by omega), hf.1 780 (by omega) (by omega), hf.1 781 (by omega) (by omega), hf.1 783 (by omega) (by omega), hf.1 784 (by omega) (by omega)]
  exact h
theorem wkI.tc {V V' : Int → Int → Int} {s : cS} {c1 c2 : List Int} (h : wkI V s) (hf : tcO V V') (hc : tcI V' c1 c2) : wkI V' (s.1, s.2.1, c1, c2) := ⟨h.1.tc hf, (lk.rf s.2.1).rs rfl h.2.1 (hf.1 _ (by omega) (by omega)) (hf.1 _ (by omega) (by omega)) (hf.1 _ (by omega) (by omega)), (lk.rf s.2.1).go h.2.2.1 (hf.1 _ (by omega) (by omega)), hc, h.2.2.2.2.1.tx rfl, h.2.2.2.2.2⟩
theorem wkI.tx {V V' : Int → Int → Int} {s : cS} {tx' : List Int} (h : wkI V s) (hb : rbIs V' 10 tx' s.2.1) (hl : tx'.length = s.1.length) (hf : ∀ a, a ≠ 777 → V' a = V a) : wkI V' (tx', s.2) := ⟨hb, (lk.rf s.2.1).rs hl h.2.1 (hf _ (by omega)) (hf _ (by omega)) (hf _ (by omega)), (lk.rf s.2.1).go h.2.2.1 (hf _ (by omega)), ⟨h.2.2.2.1.1, h.2.2.2.1.2.1, fun j j0 j1 => by rw [hf 789 (by omega), hf 788 (by omega)]; exact h.2.2.2.1.2.2 j j0 j1⟩, h.2.2.2.2.1.tx hl, h.2.2.2.2.2⟩
/-- the chances of all habits but k are as they were -/
def chK (k : Int) (s s' : cS) : Prop := ∀ j : Int, 0 ≤ j → j ≠ k → lat s'.2.2.1 j = lat s.2.2.1 j
theorem chK.rf (k : Int) (s : cS) : chK k s s := fun _ _ _ => rfl
theorem chK.bmp {k : Int} {s s' : cS} (h : chK k s s') {tx : List Int} {gs : List gG} {tk : List Int} : chK k s (tx, gs, bump s'.2.2.1 k, tk) := fun j j0 hj => by
  rw [← h j j0 hj]
  show lat (lput s'.2.2.1 k _) j = _
  by_cases c : 0 ≤ k ∧ k < s'.2.2.1.length
  · rw [latP c.1 c.2 j0, if_neg hj]
  · have : lput s'.2.2.1 k (lat s'.2.2.1 k + 1) = s'.2.2.1 := by
      unfold lput
      split
      · rfl
      · exact List.set_eq_of_length_le (by omega)
    rw [this]
theorem bump_at {xs : List Int} {k : Int} (h0 : 0 ≤ k) (h1 : k < xs.length) : lat (bump xs k) k = lat xs k + 1 := by
  unfold bump
  rw [latP h0 h1 h0, if_pos rfl]
theorem wkI.away {V V' : Int → Int → Int} {s : cS} {g : Int} (h : wkI V s) (g0 : 0 ≤ g) (g1 : g < s.2.1.length) (hb : rbIs V' 10 s.1 (awayG s.2.1 g)) (hr : rsIs V' 10 s.1 (awayG s.2.1 g)) (hg : goI V' (awayG s.2.1 g)) (hf : goF V V') : wkI V' (s.1, awayG s.2.1 g, s.2.2) := by
  have hw := h.2.2.2.2.1
  refine ⟨hb, hr, hg, ⟨h.2.2.2.1.1, h.2.2.2.1.2.1, fun j j0 j1 => by rw [hf.1 789 (by omega) (by omega) (by omega), hf.1 788 (by omega) (by omega) (by omega)]; exact h.2.2.2.1.2.2 j j0 j1⟩, ⟨hw.1.away g0 g1, hw.2.1.away g0 g1, hw.2.2.1.away g0 g1, fun x hx => ?_, hw.2.2.2.2.1, by show (awayG s.2.1 g).length ≤ 20; rw [awLen hw.2.2.1 g0 g1]; exact hw.2.2.2.2.2⟩, h.2.2.2.2.2.away hw.2.2.1 g0 g1⟩
  obtain ⟨y, hy, e⟩ := mem_away g0 g1 hx
  have := hw.2.2.2.1 y hy
  rcases e with e | e <;> (rw [e]; exact this)
theorem tcI.len {V : Int → Int → Int} {c1 c2 : List Int} (h : tcI V c1 c2) : c1.length = 6 := h.1
section MD25
variable {l : Launch} {E : gE} {d : Nat} {K : List gK} {R V : Int → Int → Int} {h g : Int} {Q : gQ} {s : cS} {q : gbH}
theorem m_goesW (hM : mdK K R) (hs : wkI V s) (h0 : 0 ≤ g) (h1 : g < s.2.1.length) (lg : lvQ (gq s.2.1 g)) (hQ : ∀ V', wkI V' (s.1, awayG s.2.1 g, s.2.2) → goF V V' → Q none (K, R, V')) : gC l E (d + 3) iX12_goes [ga 775, gi g] (K, R, V) Q := m_goes hM hs.2.2.2.2.1.2.2.1 hs.1 hs.2.1 hs.2.2.1 h0 h1 lg (hs.2.2.2.2.2 g h0 h1 lg) (fun V' a1 a2 a3 a4 => hQ V' (hs.away h0 h1 a1 a2 a3 a4) a4)
theorem m_isTakenW {n m : Int} (hM : mdK K R) (hs : wkI V s) (h0 : 0 ≤ h) (h1 : h < 6) (hm : 1 ≤ m) (hn : n = lat s.2.2.1 h + 1) (hc : cBd s.2.2.1 3000) (ht : cBd s.2.2.2 3000) (hQ : ∀ V', wkI V' (tcS h m s) → tcO V V' → Q (some (gi (tkn (lat s.2.2.1 h + 1) m))) (K, R, V')) : gC l E (d + 1) iX12_isTaken [ga 775, gi h, gi n, gi m] (K, R, V) Q := by
  subst hn
  have a1 := hc.2 h h0 h1
  have a2 := ht.2 h h0 h1
  exact m_isTaken hM h0 h1 hm (by omega) ⟨by omega, by omega, by omega, by omega⟩ hs.2.2.2.1 (fun V' b1 b2 => hQ V' (hs.tc b2 b1) b2)
set_option maxRecDepth 4000 in
theorem m_doTurn (hM : mdK K R) (hh : 0 ≤ h ∧ h < 4) (hr : rhA V h q) (hi : hInv q) (hs : wkI V s) (hz : lat s.2.2.1 2 = 0) (hc0 : cBd s.2.2.1 2000) (ht0 : cBd s.2.2.2 2000) (hQ : ∀ V', wkI V' (wr3 q.2.2.2.1 s) → wkF V V' → chK 2 s (wr3 q.2.2.2.1 s) → Q none (K, R, V')) : gC l E (d + 3) iX12_doTurn [ga 775, gi h] (K, R, V) Q := by
  refine gC_of kX12_doTurn (ls := [some (ga 775), some (gi h), none, none, none, none, none, none]) rfl (Nat.le_of_ble_eq_true rfl) ?_
  have h40 := hs.1.2.1
  have h20 := hs.1.2.2.2.2.1
  have hm := hr.2.2.2.1 2 (by omega) (by omega)
  have hmb := hi.2.2.2.2.1 2
  have lp : ∀ (jj : Nat) (i : Int) (j5 : Option gV) (j6 : Option gV) (j7 : Option gV) (V1 : Int → Int → Int) (s1 : cS) (n : Nat) (bc bs : Nat), (41 : Int) - i < (jj : Int) → 0 ≤ i → i ≤ 41 → wkI V1 s1 → wkF V V1 → s1.1.length = s.1.length → s1.2.1 = s.2.1 → (s1.1.length : Int) - i ≤ n → cBd s1.2.2.1 (2000 + i) → cBd s1.2.2.2 (2000 + i) → chK 2 s s1 → (lat q.2.2.2.1 2 = -1 → s1 = s) → (lat q.2.2.2.1 2 ≠ -1 → tuS (lat q.2.2.2.1 2) 41 0 s = tuS (lat q.2.2.2.1 2) n i s1) → gX l E (gFm E (d + 3) iX12_doTurn Q) 19 [some (ga 775), some (gi h), some (gi (lat q.2.2.2.1 2)), some (gi (lat s1.2.2.1 2)), some (gi (400 + i)), j5, j6, j7] [] (K, R, V1) bc bs := by
    intro jj
    induction jj with
    | zero =>
      intro i j5 j6 j7 V1 s1 n bc bs hj q0 q1 q2 q3 q4 q5 q6 q7 q8 q9 q10 q11
      exfalso; omega
    | succ jj ih =>
      intro i j5 j6 j7 V1 s1 n bc bs hj q0 q1 q2 q3 q4 q5 q6 q7 q8 q9 q10 q11
      refine gX_iloadn dX12_doTurn_19 rfl ?_
      refine gX_ifle (tgt := 183) dX12_doTurn_20 (by decide) (fun b1 => ?_) (fun b1 => ?_)
      · refine gX_vret dX12_doTurn_183 rfl ?_
        have ew : wr3 q.2.2.2.1 s = s1 := by
          unfold wr3
          by_cases z : lat q.2.2.2.1 2 = -1
          · rw [if_pos z, q10 z]
          · rw [if_neg z, q11 z]
            cases n with
            | zero => rfl
            | succ n => show (if i + 1 < s1.1.length then _ else s1) = s1; rw [if_neg (by omega)]
        rw [ew] at hQ
        exact hQ V1 q2 q3 q9
      · refine gX_iload dX12_doTurn_23 rfl ?_
        refine gX_iconst dX12_doTurn_25 ⟨by decide, by decide⟩ ?_
        refine gX_iadd dX12_doTurn_26 ⟨by omega, by omega⟩ ?_
        refine gX_sipush dX12_doTurn_27 (by decide) ⟨by decide, by decide⟩ ?_
        refine gX_aloadn dX12_doTurn_30 rfl ?_
        refine gX_gR 1 dX12_doTurn_31 fdX12_7 rfl rfl hM.1 (mR1 hM) ?_
        refine gX_bipush dX12_doTurn_34 (by decide) ⟨by decide, by decide⟩ ?_
        refine gX_iald dX12_doTurn_36 (mA1 hM) (by omega) (by omega) ?_
        rw [q2.1.1]
        refine gX_iadd dX12_doTurn_37 ⟨by omega, by omega⟩ ?_
        refine gX_icmpge (tgt := 183) dX12_doTurn_38 (by decide) (fun b2 => ?_) (fun b2 => ?_)
        · refine gX_vret dX12_doTurn_183 rfl ?_
          have ew : wr3 q.2.2.2.1 s = s1 := by
            unfold wr3
            by_cases z : lat q.2.2.2.1 2 = -1
            · rw [if_pos z, q10 z]
            · rw [if_neg z, q11 z]
              cases n with
              | zero => rfl
              | succ n => show (if i + 1 < s1.1.length then _ else s1) = s1; rw [if_neg (by omega)]
          rw [ew] at hQ
          exact hQ V1 q2 q3 q9
        · have hch := q7.2 2 (by omega) (by omega)
          have hwd := q2.1.wd (i := i) (by omega) (by omega)
          have hwe := q2.1.wd (i := i + 1) (by omega) (by omega)
          rw [show 40 * 10 + i = 400 + i by omega] at hwd
          rw [show 40 * 10 + (i + 1) = 400 + i + 1 by omega] at hwe
          refine gX_aloadn dX12_doTurn_41 rfl ?_
          refine gX_gR 3 dX12_doTurn_42 fdX12_16 rfl rfl hM.1 (mR3 hM) ?_
          refine gX_iload dX12_doTurn_45 rfl ?_
          refine gX_iald dX12_doTurn_47 (mA3 hM) (by omega) (by omega) ?_
          refine gX_ifge (tgt := 86) dX12_doTurn_48 (by decide) (fun b3 => ?_) (fun b3 => ?_)
          · refine gX_iconst dX12_doTurn_86 ⟨by decide, by decide⟩ ?_
            refine gX_istore dX12_doTurn_87 (show (5 : Nat) < 8 from by decide) (ls2 := [some (ga 775), some (gi h), some (gi (lat q.2.2.2.1 2)), some (gi (lat s1.2.2.1 2)), some (gi (400 + i)), some (gi 0), j6, j7]) rfl ?_
            refine gX_iloadn dX12_doTurn_89 rfl ?_
            refine gX_iload dX12_doTurn_90 rfl ?_
            refine gX_ifeq (tgt := 99) dX12_doTurn_92 (by decide) (fun b4 => ?_) (fun b4 => by exfalso; omega)
            refine gX_iconst dX12_doTurn_99 ⟨by decide, by decide⟩ ?_
            refine gX_iadd dX12_doTurn_100 ⟨by omega, by omega⟩ ?_
            refine gX_istoren dX12_doTurn_101 (show (3 : Nat) < 8 from by decide) (ls2 := [some (ga 775), some (gi h), some (gi (lat q.2.2.2.1 2)), some (gi ((lat s1.2.2.1 2) + 0)), some (gi (400 + i)), some (gi 0), j6, j7]) rfl ?_
            refine gX_iload dX12_doTurn_102 rfl ?_
            refine gX_ifeq (tgt := 121) dX12_doTurn_104 (by decide) (fun b5 => ?_) (fun b5 => by exfalso; omega)
            refine gX_iconst dX12_doTurn_121 ⟨by decide, by decide⟩ ?_
            refine gX_istore dX12_doTurn_122 (show (6 : Nat) < 8 from by decide) (ls2 := [some (ga 775), some (gi h), some (gi (lat q.2.2.2.1 2)), some (gi ((lat s1.2.2.1 2) + 0)), some (gi (400 + i)), some (gi 0), some (gi 0), j7]) rfl ?_
            refine gX_iload dX12_doTurn_124 rfl ?_
            refine gX_ifeq (tgt := 165) dX12_doTurn_126 (by decide) (fun b6 => ?_) (fun b6 => by exfalso; omega)
            refine gX_iload dX12_doTurn_165 rfl ?_
            refine gX_iload dX12_doTurn_167 rfl ?_
            refine gX_ifeq (tgt := 176) dX12_doTurn_169 (by decide) (fun b7 => ?_) (fun b7 => by exfalso; omega)
            refine gX_iconst dX12_doTurn_176 ⟨by decide, by decide⟩ ?_
            refine gX_iadd dX12_doTurn_177 ⟨by omega, by omega⟩ ?_
            refine gX_istore dX12_doTurn_178 (show (4 : Nat) < 8 from by decide) (ls2 := [some (ga 775), some (gi h), some (gi (lat q.2.2.2.1 2)), some (gi ((lat s1.2.2.1 2) + 0)), some (gi ((400 + i) + 1)), some (gi 0), some (gi 0), j7]) rfl ?_
            refine gX_goto (tgt := 19) dX12_doTurn_180 (by decide) ?_
            have e7 : tuS (lat q.2.2.2.1 2) n i s1 = tuS (lat q.2.2.2.1 2) ((n - 1) + 1) i s1 := by rw [show n - 1 + 1 = n by omega]
            have e6 : tuS (lat q.2.2.2.1 2) ((n - 1) + 1) i s1 = if i + 1 < s1.1.length then (if tuC s1 i = true then (if tkn (lat s1.2.2.1 2 + 1) (lat q.2.2.2.1 2) = 1 then tuS (lat q.2.2.2.1 2) (n - 1) (i + 2) (lput (lput s1.1 i (lat s1.1 (i + 1))) (i + 1) (lat s1.1 i), (tcS 2 (lat q.2.2.2.1 2) s1).2) else tuS (lat q.2.2.2.1 2) (n - 1) (i + 1) (tcS 2 (lat q.2.2.2.1 2) s1)) else tuS (lat q.2.2.2.1 2) (n - 1) (i + 1) s1) else s1 := rfl
            rw [e7, e6, if_pos (by omega)] at q11
            have ec : tuC s1 i = false := by
              unfold tuC
              rw [Bool.and_eq_false_iff, Bool.and_eq_false_iff, decide_eq_false_iff_not, Bool.not_eq_false', Bool.not_eq_false']
              have z1 := inSp_sp (i := i) q2.2.1 (by omega) (by omega)
              have z2 := inSp_sp (i := i + 1) q2.2.1 (by omega) (by omega)
              rw [show (400 : Int) + (i + 1) = 400 + i + 1 by omega] at z2
              by_cases y1 : inSp s1.2.1 i = true
              · exact Or.inl (Or.inr y1)
              · by_cases y2 : inSp s1.2.1 (i + 1) = true
                · exact Or.inr y2
                · have y3 := z1.mpr (Bool.eq_false_iff.mpr y1)
                  have y4 := z2.mpr (Bool.eq_false_iff.mpr y2)
                  exact Or.inl (Or.inl (fun y5 => y5 (by omega)))
            rw [ec] at q11
            rw [show 400 + i + 1 = 400 + (i + 1) by omega]
            rw [show lat s1.2.2.1 2 + 0 = lat s1.2.2.1 2 by omega]
            exact ih (i + 1) _ _ _ _ s1 (n - 1) _ _ (by omega) (by omega) (by omega) q2 q3 q4 q5 (by omega) (q7.up (by omega)) (q8.up (by omega)) q9 (fun z => by omega) (fun z => by rw [q11 z, if_neg (by decide)])
          · refine gX_aloadn dX12_doTurn_51 rfl ?_
            refine gX_gR 3 dX12_doTurn_52 fdX12_16 rfl rfl hM.1 (mR3 hM) ?_
            refine gX_iload dX12_doTurn_55 rfl ?_
            refine gX_iconst dX12_doTurn_57 ⟨by decide, by decide⟩ ?_
            refine gX_iadd dX12_doTurn_58 ⟨by omega, by omega⟩ ?_
            refine gX_iald dX12_doTurn_59 (mA3 hM) (by omega) (by omega) ?_
            refine gX_ifge (tgt := 86) dX12_doTurn_60 (by decide) (fun b8 => ?_) (fun b8 => ?_)
            · refine gX_iconst dX12_doTurn_86 ⟨by decide, by decide⟩ ?_
              refine gX_istore dX12_doTurn_87 (show (5 : Nat) < 8 from by decide) (ls2 := [some (ga 775), some (gi h), some (gi (lat q.2.2.2.1 2)), some (gi (lat s1.2.2.1 2)), some (gi (400 + i)), some (gi 0), j6, j7]) rfl ?_
              refine gX_iloadn dX12_doTurn_89 rfl ?_
              refine gX_iload dX12_doTurn_90 rfl ?_
              refine gX_ifeq (tgt := 99) dX12_doTurn_92 (by decide) (fun b9 => ?_) (fun b9 => by exfalso; omega)
              refine gX_iconst dX12_doTurn_99 ⟨by decide, by decide⟩ ?_
              refine gX_iadd dX12_doTurn_100 ⟨by omega, by omega⟩ ?_
              refine gX_istoren dX12_doTurn_101 (show (3 : Nat) < 8 from by decide) (ls2 := [some (ga 775), some (gi h), some (gi (lat q.2.2.2.1 2)), some (gi ((lat s1.2.2.1 2) + 0)), some (gi (400 + i)), some (gi 0), j6, j7]) rfl ?_
              refine gX_iload dX12_doTurn_102 rfl ?_
              refine gX_ifeq (tgt := 121) dX12_doTurn_104 (by decide) (fun b10 => ?_) (fun b10 => by exfalso; omega)
              refine gX_iconst dX12_doTurn_121 ⟨by decide, by decide⟩ ?_
              refine gX_istore dX12_doTurn_122 (show (6 : Nat) < 8 from by decide) (ls2 := [some (ga 775), some (gi h), some (gi (lat q.2.2.2.1 2)), some (gi ((lat s1.2.2.1 2) + 0)), some (gi (400 + i)), some (gi 0), some (gi 0), j7]) rfl ?_
              refine gX_iload dX12_doTurn_124 rfl ?_
              refine gX_ifeq (tgt := 165) dX12_doTurn_126 (by decide) (fun b11 => ?_) (fun b11 => by exfalso; omega)
              refine gX_iload dX12_doTurn_165 rfl ?_
              refine gX_iload dX12_doTurn_167 rfl ?_
              refine gX_ifeq (tgt := 176) dX12_doTurn_169 (by decide) (fun b12 => ?_) (fun b12 => by exfalso; omega)
              refine gX_iconst dX12_doTurn_176 ⟨by decide, by decide⟩ ?_
              refine gX_iadd dX12_doTurn_177 ⟨by omega, by omega⟩ ?_
              refine gX_istore dX12_doTurn_178 (show (4 : Nat) < 8 from by decide) (ls2 := [some (ga 775), some (gi h), some (gi (lat q.2.2.2.1 2)), some (gi ((lat s1.2.2.1 2) + 0)), some (gi ((400 + i) + 1)), some (gi 0), some (gi 0), j7]) rfl ?_
              refine gX_goto (tgt := 19) dX12_doTurn_180 (by decide) ?_
              have e7 : tuS (lat q.2.2.2.1 2) n i s1 = tuS (lat q.2.2.2.1 2) ((n - 1) + 1) i s1 := by rw [show n - 1 + 1 = n by omega]
              have e6 : tuS (lat q.2.2.2.1 2) ((n - 1) + 1) i s1 = if i + 1 < s1.1.length then (if tuC s1 i = true then (if tkn (lat s1.2.2.1 2 + 1) (lat q.2.2.2.1 2) = 1 then tuS (lat q.2.2.2.1 2) (n - 1) (i + 2) (lput (lput s1.1 i (lat s1.1 (i + 1))) (i + 1) (lat s1.1 i), (tcS 2 (lat q.2.2.2.1 2) s1).2) else tuS (lat q.2.2.2.1 2) (n - 1) (i + 1) (tcS 2 (lat q.2.2.2.1 2) s1)) else tuS (lat q.2.2.2.1 2) (n - 1) (i + 1) s1) else s1 := rfl
              rw [e7, e6, if_pos (by omega)] at q11
              have ec : tuC s1 i = false := by
                unfold tuC
                rw [Bool.and_eq_false_iff, Bool.and_eq_false_iff, decide_eq_false_iff_not, Bool.not_eq_false', Bool.not_eq_false']
                have z1 := inSp_sp (i := i) q2.2.1 (by omega) (by omega)
                have z2 := inSp_sp (i := i + 1) q2.2.1 (by omega) (by omega)
                rw [show (400 : Int) + (i + 1) = 400 + i + 1 by omega] at z2
                by_cases y1 : inSp s1.2.1 i = true
                · exact Or.inl (Or.inr y1)
                · by_cases y2 : inSp s1.2.1 (i + 1) = true
                  · exact Or.inr y2
                  · have y3 := z1.mpr (Bool.eq_false_iff.mpr y1)
                    have y4 := z2.mpr (Bool.eq_false_iff.mpr y2)
                    exact Or.inl (Or.inl (fun y5 => y5 (by omega)))
              rw [ec] at q11
              rw [show 400 + i + 1 = 400 + (i + 1) by omega]
              rw [show lat s1.2.2.1 2 + 0 = lat s1.2.2.1 2 by omega]
              exact ih (i + 1) _ _ _ _ s1 (n - 1) _ _ (by omega) (by omega) (by omega) q2 q3 q4 q5 (by omega) (q7.up (by omega)) (q8.up (by omega)) q9 (fun z => by omega) (fun z => by rw [q11 z, if_neg (by decide)])
            · refine gX_aloadn dX12_doTurn_63 rfl ?_
              refine gX_gR 2 dX12_doTurn_64 fdX12_13 rfl rfl hM.1 (mR2 hM) ?_
              refine gX_iload dX12_doTurn_67 rfl ?_
              refine gX_iald dX12_doTurn_69 (mA2 hM) (by omega) (by omega) ?_
              rw [hwd]
              refine gX_aloadn dX12_doTurn_70 rfl ?_
              refine gX_gR 2 dX12_doTurn_71 fdX12_13 rfl rfl hM.1 (mR2 hM) ?_
              refine gX_iload dX12_doTurn_74 rfl ?_
              refine gX_iconst dX12_doTurn_76 ⟨by decide, by decide⟩ ?_
              refine gX_iadd dX12_doTurn_77 ⟨by omega, by omega⟩ ?_
              refine gX_iald dX12_doTurn_78 (mA2 hM) (by omega) (by omega) ?_
              rw [hwe]
              refine gX_icmpeq (tgt := 86) dX12_doTurn_79 (by decide) (fun b13 => ?_) (fun b13 => ?_)
              · refine gX_iconst dX12_doTurn_86 ⟨by decide, by decide⟩ ?_
                refine gX_istore dX12_doTurn_87 (show (5 : Nat) < 8 from by decide) (ls2 := [some (ga 775), some (gi h), some (gi (lat q.2.2.2.1 2)), some (gi (lat s1.2.2.1 2)), some (gi (400 + i)), some (gi 0), j6, j7]) rfl ?_
                refine gX_iloadn dX12_doTurn_89 rfl ?_
                refine gX_iload dX12_doTurn_90 rfl ?_
                refine gX_ifeq (tgt := 99) dX12_doTurn_92 (by decide) (fun b14 => ?_) (fun b14 => by exfalso; omega)
                refine gX_iconst dX12_doTurn_99 ⟨by decide, by decide⟩ ?_
                refine gX_iadd dX12_doTurn_100 ⟨by omega, by omega⟩ ?_
                refine gX_istoren dX12_doTurn_101 (show (3 : Nat) < 8 from by decide) (ls2 := [some (ga 775), some (gi h), some (gi (lat q.2.2.2.1 2)), some (gi ((lat s1.2.2.1 2) + 0)), some (gi (400 + i)), some (gi 0), j6, j7]) rfl ?_
                refine gX_iload dX12_doTurn_102 rfl ?_
                refine gX_ifeq (tgt := 121) dX12_doTurn_104 (by decide) (fun b15 => ?_) (fun b15 => by exfalso; omega)
                refine gX_iconst dX12_doTurn_121 ⟨by decide, by decide⟩ ?_
                refine gX_istore dX12_doTurn_122 (show (6 : Nat) < 8 from by decide) (ls2 := [some (ga 775), some (gi h), some (gi (lat q.2.2.2.1 2)), some (gi ((lat s1.2.2.1 2) + 0)), some (gi (400 + i)), some (gi 0), some (gi 0), j7]) rfl ?_
                refine gX_iload dX12_doTurn_124 rfl ?_
                refine gX_ifeq (tgt := 165) dX12_doTurn_126 (by decide) (fun b16 => ?_) (fun b16 => by exfalso; omega)
                refine gX_iload dX12_doTurn_165 rfl ?_
                refine gX_iload dX12_doTurn_167 rfl ?_
                refine gX_ifeq (tgt := 176) dX12_doTurn_169 (by decide) (fun b17 => ?_) (fun b17 => by exfalso; omega)
                refine gX_iconst dX12_doTurn_176 ⟨by decide, by decide⟩ ?_
                refine gX_iadd dX12_doTurn_177 ⟨by omega, by omega⟩ ?_
                refine gX_istore dX12_doTurn_178 (show (4 : Nat) < 8 from by decide) (ls2 := [some (ga 775), some (gi h), some (gi (lat q.2.2.2.1 2)), some (gi ((lat s1.2.2.1 2) + 0)), some (gi ((400 + i) + 1)), some (gi 0), some (gi 0), j7]) rfl ?_
                refine gX_goto (tgt := 19) dX12_doTurn_180 (by decide) ?_
                have e7 : tuS (lat q.2.2.2.1 2) n i s1 = tuS (lat q.2.2.2.1 2) ((n - 1) + 1) i s1 := by rw [show n - 1 + 1 = n by omega]
                have e6 : tuS (lat q.2.2.2.1 2) ((n - 1) + 1) i s1 = if i + 1 < s1.1.length then (if tuC s1 i = true then (if tkn (lat s1.2.2.1 2 + 1) (lat q.2.2.2.1 2) = 1 then tuS (lat q.2.2.2.1 2) (n - 1) (i + 2) (lput (lput s1.1 i (lat s1.1 (i + 1))) (i + 1) (lat s1.1 i), (tcS 2 (lat q.2.2.2.1 2) s1).2) else tuS (lat q.2.2.2.1 2) (n - 1) (i + 1) (tcS 2 (lat q.2.2.2.1 2) s1)) else tuS (lat q.2.2.2.1 2) (n - 1) (i + 1) s1) else s1 := rfl
                rw [e7, e6, if_pos (by omega)] at q11
                have ec : tuC s1 i = false := by
                  unfold tuC
                  rw [Bool.and_eq_false_iff, Bool.and_eq_false_iff, decide_eq_false_iff_not, Bool.not_eq_false', Bool.not_eq_false']
                  have z1 := inSp_sp (i := i) q2.2.1 (by omega) (by omega)
                  have z2 := inSp_sp (i := i + 1) q2.2.1 (by omega) (by omega)
                  rw [show (400 : Int) + (i + 1) = 400 + i + 1 by omega] at z2
                  by_cases y1 : inSp s1.2.1 i = true
                  · exact Or.inl (Or.inr y1)
                  · by_cases y2 : inSp s1.2.1 (i + 1) = true
                    · exact Or.inr y2
                    · have y3 := z1.mpr (Bool.eq_false_iff.mpr y1)
                      have y4 := z2.mpr (Bool.eq_false_iff.mpr y2)
                      exact Or.inl (Or.inl (fun y5 => y5 (by omega)))
                rw [ec] at q11
                rw [show 400 + i + 1 = 400 + (i + 1) by omega]
                rw [show lat s1.2.2.1 2 + 0 = lat s1.2.2.1 2 by omega]
                exact ih (i + 1) _ _ _ _ s1 (n - 1) _ _ (by omega) (by omega) (by omega) q2 q3 q4 q5 (by omega) (q7.up (by omega)) (q8.up (by omega)) q9 (fun z => by omega) (fun z => by rw [q11 z, if_neg (by decide)])
              · refine gX_iconst dX12_doTurn_82 ⟨by decide, by decide⟩ ?_
                refine gX_goto (tgt := 87) dX12_doTurn_83 (by decide) ?_
                refine gX_istore dX12_doTurn_87 (show (5 : Nat) < 8 from by decide) (ls2 := [some (ga 775), some (gi h), some (gi (lat q.2.2.2.1 2)), some (gi (lat s1.2.2.1 2)), some (gi (400 + i)), some (gi 1), j6, j7]) rfl ?_
                refine gX_iloadn dX12_doTurn_89 rfl ?_
                refine gX_iload dX12_doTurn_90 rfl ?_
                refine gX_ifeq (tgt := 99) dX12_doTurn_92 (by decide) (fun b18 => by exfalso; omega) (fun b18 => ?_)
                refine gX_iconst dX12_doTurn_95 ⟨by decide, by decide⟩ ?_
                refine gX_goto (tgt := 100) dX12_doTurn_96 (by decide) ?_
                refine gX_iadd dX12_doTurn_100 ⟨by omega, by omega⟩ ?_
                refine gX_istoren dX12_doTurn_101 (show (3 : Nat) < 8 from by decide) (ls2 := [some (ga 775), some (gi h), some (gi (lat q.2.2.2.1 2)), some (gi ((lat s1.2.2.1 2) + 1)), some (gi (400 + i)), some (gi 1), j6, j7]) rfl ?_
                refine gX_iload dX12_doTurn_102 rfl ?_
                refine gX_ifeq (tgt := 121) dX12_doTurn_104 (by decide) (fun b19 => by exfalso; omega) (fun b19 => ?_)
                refine gX_aloadn dX12_doTurn_107 rfl ?_
                refine gX_iconst dX12_doTurn_108 ⟨by decide, by decide⟩ ?_
                refine gX_iloadn dX12_doTurn_109 rfl ?_
                refine gX_iloadn dX12_doTurn_110 rfl ?_
                refine gX_virt (J := iX12_isTaken) (av := [gi 2, gi ((lat s1.2.2.1 2) + 1), gi (lat q.2.2.2.1 2)]) (a := 775) (st := []) dX12_doTurn_111 lkX12_342 kX12_isTaken vX12_isTaken (gFit_m (by decide)) hM.1 rfl rfl (Nat.le_of_ble_eq_true rfl) (Nat.zero_le _) (Nat.zero_le _) rfl ?_
                refine m_isTakenW hM q2 (by omega) (by omega) (by omega) (by omega) (q7.up (by omega)) (q8.up (by omega)) (fun V2 hw2 hf2 => ?_)
                show gX l E _ 114 [some (ga 775), some (gi h), some (gi (lat q.2.2.2.1 2)), some (gi ((lat s1.2.2.1 2) + 1)), some (gi (400 + i)), some (gi 1), j6, j7] [gi (tkn (lat s1.2.2.1 2 + 1) (lat q.2.2.2.1 2))] (K, R, V2) _ _
                refine gX_ifeq (tgt := 121) dX12_doTurn_114 (by decide) (fun b20 => ?_) (fun b20 => ?_)
                · refine gX_iconst dX12_doTurn_121 ⟨by decide, by decide⟩ ?_
                  refine gX_istore dX12_doTurn_122 (show (6 : Nat) < 8 from by decide) (ls2 := [some (ga 775), some (gi h), some (gi (lat q.2.2.2.1 2)), some (gi ((lat s1.2.2.1 2) + 1)), some (gi (400 + i)), some (gi 1), some (gi 0), j7]) rfl ?_
                  refine gX_iload dX12_doTurn_124 rfl ?_
                  refine gX_ifeq (tgt := 165) dX12_doTurn_126 (by decide) (fun b21 => ?_) (fun b21 => by exfalso; omega)
                  refine gX_iload dX12_doTurn_165 rfl ?_
                  refine gX_iload dX12_doTurn_167 rfl ?_
                  refine gX_ifeq (tgt := 176) dX12_doTurn_169 (by decide) (fun b22 => ?_) (fun b22 => by exfalso; omega)
                  refine gX_iconst dX12_doTurn_176 ⟨by decide, by decide⟩ ?_
                  refine gX_iadd dX12_doTurn_177 ⟨by omega, by omega⟩ ?_
                  refine gX_istore dX12_doTurn_178 (show (4 : Nat) < 8 from by decide) (ls2 := [some (ga 775), some (gi h), some (gi (lat q.2.2.2.1 2)), some (gi ((lat s1.2.2.1 2) + 1)), some (gi ((400 + i) + 1)), some (gi 1), some (gi 0), j7]) rfl ?_
                  refine gX_goto (tgt := 19) dX12_doTurn_180 (by decide) ?_
                  have e7 : tuS (lat q.2.2.2.1 2) n i s1 = tuS (lat q.2.2.2.1 2) ((n - 1) + 1) i s1 := by rw [show n - 1 + 1 = n by omega]
                  have e6 : tuS (lat q.2.2.2.1 2) ((n - 1) + 1) i s1 = if i + 1 < s1.1.length then (if tuC s1 i = true then (if tkn (lat s1.2.2.1 2 + 1) (lat q.2.2.2.1 2) = 1 then tuS (lat q.2.2.2.1 2) (n - 1) (i + 2) (lput (lput s1.1 i (lat s1.1 (i + 1))) (i + 1) (lat s1.1 i), (tcS 2 (lat q.2.2.2.1 2) s1).2) else tuS (lat q.2.2.2.1 2) (n - 1) (i + 1) (tcS 2 (lat q.2.2.2.1 2) s1)) else tuS (lat q.2.2.2.1 2) (n - 1) (i + 1) s1) else s1 := rfl
                  rw [e7, e6, if_pos (by omega)] at q11
                  have ec : tuC s1 i = true := by
                    unfold tuC
                    have z1 := (inSp_sp (i := i) q2.2.1 (by omega) (by omega)).mp (by omega)
                    have z2 := (inSp_sp (i := i + 1) q2.2.1 (by omega) (by omega)).mp (by rw [show (400 : Int) + (i + 1) = 400 + i + 1 by omega]; omega)
                    rw [z1, z2, decide_eq_true (show lat s1.1 i ≠ lat s1.1 (i + 1) by omega)]
                    rfl
                  rw [if_pos ec] at q11
                  have et := tkn_01 (lat s1.2.2.1 2 + 1) (lat q.2.2.2.1 2)
                  have hc9 : cBd (tcS 2 (lat q.2.2.2.1 2) s1).2.2.1 (2000 + (i + 1)) := (tcS_c q7 (by omega) (by omega)).up (by omega)
                  have ht9 : cBd (tcS 2 (lat q.2.2.2.1 2) s1).2.2.2 (2000 + (i + 1)) := (tcS_t q8 (by omega) (by omega)).up (by omega)
                  have el9 : lat s1.2.2.1 2 + 1 = lat (tcS 2 (lat q.2.2.2.1 2) s1).2.2.1 2 := (bump_at (by omega) (by rw [q2.2.2.2.1.1]; omega)).symm
                  rw [show 400 + i + 1 = 400 + (i + 1) by omega]
                  rw [el9]
                  exact ih (i + 1) _ _ _ _ (tcS 2 (lat q.2.2.2.1 2) s1) (n - 1) _ _ (by omega) (by omega) (by omega) hw2 (q3.trans hf2.wk) q4 q5 (by show (s1.1.length : Int) - _ ≤ _; omega) hc9 ht9 q9.bmp (fun z => by omega) (fun z => by rw [q11 z, if_neg (by omega)])
                · refine gX_iconst dX12_doTurn_117 ⟨by decide, by decide⟩ ?_
                  refine gX_goto (tgt := 122) dX12_doTurn_118 (by decide) ?_
                  refine gX_istore dX12_doTurn_122 (show (6 : Nat) < 8 from by decide) (ls2 := [some (ga 775), some (gi h), some (gi (lat q.2.2.2.1 2)), some (gi ((lat s1.2.2.1 2) + 1)), some (gi (400 + i)), some (gi 1), some (gi 1), j7]) rfl ?_
                  refine gX_iload dX12_doTurn_124 rfl ?_
                  refine gX_ifeq (tgt := 165) dX12_doTurn_126 (by decide) (fun b23 => by exfalso; omega) (fun b23 => ?_)
                  refine gX_aloadn dX12_doTurn_129 rfl ?_
                  refine gX_gR 2 dX12_doTurn_130 fdX12_13 rfl rfl hM.1 (mR2 hM) ?_
                  refine gX_iload dX12_doTurn_133 rfl ?_
                  refine gX_iald dX12_doTurn_135 (mA2 hM) (by omega) (by omega) ?_
                  rw [show V2 777 (400 + i) = lat s1.1 i by rw [hf2.1 777 (by omega) (by omega)]; exact hwd]
                  refine gX_istore dX12_doTurn_136 (show (7 : Nat) < 8 from by decide) (ls2 := [some (ga 775), some (gi h), some (gi (lat q.2.2.2.1 2)), some (gi ((lat s1.2.2.1 2) + 1)), some (gi (400 + i)), some (gi 1), some (gi 1), some (gi (lat s1.1 i))]) rfl ?_
                  refine gX_aloadn dX12_doTurn_138 rfl ?_
                  refine gX_gR 2 dX12_doTurn_139 fdX12_13 rfl rfl hM.1 (mR2 hM) ?_
                  refine gX_iload dX12_doTurn_142 rfl ?_
                  refine gX_aloadn dX12_doTurn_144 rfl ?_
                  refine gX_gR 2 dX12_doTurn_145 fdX12_13 rfl rfl hM.1 (mR2 hM) ?_
                  refine gX_iload dX12_doTurn_148 rfl ?_
                  refine gX_iconst dX12_doTurn_150 ⟨by decide, by decide⟩ ?_
                  refine gX_iadd dX12_doTurn_151 ⟨by omega, by omega⟩ ?_
                  refine gX_iald dX12_doTurn_152 (mA2 hM) (by omega) (by omega) ?_
                  rw [show V2 777 (400 + i + 1) = lat s1.1 (i + 1) by rw [hf2.1 777 (by omega) (by omega)]; exact hwe]
                  refine gX_iast dX12_doTurn_153 (mA2 hM) (by omega) (by omega) ?_
                  refine gX_aloadn dX12_doTurn_154 rfl ?_
                  refine gX_gR 2 dX12_doTurn_155 fdX12_13 rfl rfl hM.1 (mR2 hM) ?_
                  refine gX_iload dX12_doTurn_158 rfl ?_
                  refine gX_iconst dX12_doTurn_160 ⟨by decide, by decide⟩ ?_
                  refine gX_iadd dX12_doTurn_161 ⟨by omega, by omega⟩ ?_
                  refine gX_iload dX12_doTurn_162 rfl ?_
                  refine gX_iast dX12_doTurn_164 (mA2 hM) (by omega) (by omega) ?_
                  refine gX_iload dX12_doTurn_165 rfl ?_
                  refine gX_iload dX12_doTurn_167 rfl ?_
                  refine gX_ifeq (tgt := 176) dX12_doTurn_169 (by decide) (fun b24 => by exfalso; omega) (fun b24 => ?_)
                  refine gX_iconst dX12_doTurn_172 ⟨by decide, by decide⟩ ?_
                  refine gX_goto (tgt := 177) dX12_doTurn_173 (by decide) ?_
                  refine gX_iadd dX12_doTurn_177 ⟨by omega, by omega⟩ ?_
                  refine gX_istore dX12_doTurn_178 (show (4 : Nat) < 8 from by decide) (ls2 := [some (ga 775), some (gi h), some (gi (lat q.2.2.2.1 2)), some (gi ((lat s1.2.2.1 2) + 1)), some (gi ((400 + i) + 2)), some (gi 1), some (gi 1), some (gi (lat s1.1 i))]) rfl ?_
                  refine gX_goto (tgt := 19) dX12_doTurn_180 (by decide) ?_
                  have e7 : tuS (lat q.2.2.2.1 2) n i s1 = tuS (lat q.2.2.2.1 2) ((n - 1) + 1) i s1 := by rw [show n - 1 + 1 = n by omega]
                  have e6 : tuS (lat q.2.2.2.1 2) ((n - 1) + 1) i s1 = if i + 1 < s1.1.length then (if tuC s1 i = true then (if tkn (lat s1.2.2.1 2 + 1) (lat q.2.2.2.1 2) = 1 then tuS (lat q.2.2.2.1 2) (n - 1) (i + 2) (lput (lput s1.1 i (lat s1.1 (i + 1))) (i + 1) (lat s1.1 i), (tcS 2 (lat q.2.2.2.1 2) s1).2) else tuS (lat q.2.2.2.1 2) (n - 1) (i + 1) (tcS 2 (lat q.2.2.2.1 2) s1)) else tuS (lat q.2.2.2.1 2) (n - 1) (i + 1) s1) else s1 := rfl
                  rw [e7, e6, if_pos (by omega)] at q11
                  have ec : tuC s1 i = true := by
                    unfold tuC
                    have z1 := (inSp_sp (i := i) q2.2.1 (by omega) (by omega)).mp (by omega)
                    have z2 := (inSp_sp (i := i + 1) q2.2.1 (by omega) (by omega)).mp (by rw [show (400 : Int) + (i + 1) = 400 + i + 1 by omega]; omega)
                    rw [z1, z2, decide_eq_true (show lat s1.1 i ≠ lat s1.1 (i + 1) by omega)]
                    rfl
                  rw [if_pos ec] at q11
                  have et := tkn_01 (lat s1.2.2.1 2 + 1) (lat q.2.2.2.1 2)
                  have hc9 : cBd (tcS 2 (lat q.2.2.2.1 2) s1).2.2.1 (2000 + (i + 1)) := (tcS_c q7 (by omega) (by omega)).up (by omega)
                  have ht9 : cBd (tcS 2 (lat q.2.2.2.1 2) s1).2.2.2 (2000 + (i + 1)) := (tcS_t q8 (by omega) (by omega)).up (by omega)
                  have el9 : lat s1.2.2.1 2 + 1 = lat (tcS 2 (lat q.2.2.2.1 2) s1).2.2.1 2 := (bump_at (by omega) (by rw [q2.2.2.2.1.1]; omega)).symm
                  have hl9 : (lput (lput s1.1 i (lat s1.1 (i + 1))) (i + 1) (lat s1.1 i)).length = s1.1.length := (lpL ..).trans (lpL ..)
                  rw [show 400 + i + 2 = 400 + (i + 2) by omega, show 400 + i + 1 = 400 + (i + 1) by omega]
                  rw [el9]
                  refine ih (i + 2) _ _ _ _ ((lput (lput s1.1 i (lat s1.1 (i + 1))) (i + 1) (lat s1.1 i)), (tcS 2 (lat q.2.2.2.1 2) s1).2) (n - 1) _ _ (by omega) (by omega) (by omega) (hw2.tx ((hw2.1.putw (by omega) (by show i < (s1.1.length : Int); omega)).putw (by omega) (by show i + 1 < ((lput s1.1 i _).length : Int); rw [lpL]; omega)) hl9 (fun a ha => by rw [gup_ne ha, gup_ne ha])) ?_ (hl9.trans q4) q5 (by show ((lput (lput s1.1 i (lat s1.1 (i + 1))) (i + 1) (lat s1.1 i)).length : Int) - _ ≤ _; rw [hl9]; omega) (hc9.up (by omega)) (ht9.up (by omega)) q9.bmp (fun z => by omega) (fun z => by rw [q11 z, if_pos (by omega)])
                  exact ((q3.trans hf2.wk).up (by unfold inSl; omega)).up (by unfold inSl; omega)
  refine gX_aloadn dX12_doTurn_0 rfl ?_
  refine gX_gR 33 dX12_doTurn_1 fdX12_77 rfl rfl hM.1 (mR33 hM) ?_
  refine gX_bipush dX12_doTurn_4 (by decide) ⟨by decide, by decide⟩ ?_
  refine gX_iloadn dX12_doTurn_6 rfl ?_
  refine gX_imul dX12_doTurn_7 ⟨by omega, by omega⟩ ?_
  refine gX_iconst dX12_doTurn_8 ⟨by decide, by decide⟩ ?_
  refine gX_iadd dX12_doTurn_9 ⟨by omega, by omega⟩ ?_
  refine gX_iald dX12_doTurn_10 (mA33 hM) (by omega) (by omega) ?_
  rw [hm]
  refine gX_istoren dX12_doTurn_11 (show (2 : Nat) < 8 from by decide) (ls2 := [some (ga 775), some (gi h), some (gi (lat q.2.2.2.1 2)), none, none, none, none, none]) rfl ?_
  refine gX_iconst dX12_doTurn_12 ⟨by decide, by decide⟩ ?_
  refine gX_istoren dX12_doTurn_13 (show (3 : Nat) < 8 from by decide) (ls2 := [some (ga 775), some (gi h), some (gi (lat q.2.2.2.1 2)), some (gi 0), none, none, none, none]) rfl ?_
  refine gX_sipush dX12_doTurn_14 (by decide) ⟨by decide, by decide⟩ ?_
  refine gX_istore dX12_doTurn_17 (show (4 : Nat) < 8 from by decide) (ls2 := [some (ga 775), some (gi h), some (gi (lat q.2.2.2.1 2)), some (gi 0), some (gi 400), none, none, none]) rfl ?_
  rw [← hz]
  exact lp 42 0 _ _ _ _ s 41 _ _ (by omega) (by omega) (by omega) hs wkF.rf rfl rfl (by omega) (hc0.up (by omega)) (ht0.up (by omega)) (chK.rf 2 s) (fun _ => rfl) (fun _ => rfl)
set_option maxRecDepth 4000 in
theorem m_doDrop (hM : mdK K R) (hh : 0 ≤ h ∧ h < 4) (hr : rhA V h q) (hi : hInv q) (hs : wkI V s) (hz : lat s.2.2.1 4 = 0) (hc0 : cBd s.2.2.1 2000) (ht0 : cBd s.2.2.2 2000) (hQ : ∀ V', wkI V' (wr5 q.2.2.2.1 s) → wkF V V' → chK 4 s (wr5 q.2.2.2.1 s) → Q none (K, R, V')) : gC l E (d + 4) iX12_doDrop [ga 775, gi h] (K, R, V) Q := by
  refine gC_of kX12_doDrop (ls := [some (ga 775), some (gi h), none, none, none]) rfl (Nat.le_of_ble_eq_true rfl) ?_
  have h40 := hs.1.2.1
  have h20 := hs.1.2.2.2.2.1
  have hm := hr.2.2.2.1 4 (by omega) (by omega)
  have hmb := hi.2.2.2.2.1 4
  have lp : ∀ (jj : Nat) (i : Int) (V1 : Int → Int → Int) (s1 : cS) (bc bs : Nat), (s.2.1.length : Int) - i < (jj : Int) → 0 ≤ i → i ≤ s.2.1.length → wkI V1 s1 → wkF V V1 → s1.2.1.length = s.2.1.length → cBd s1.2.2.1 (2000 + i) → cBd s1.2.2.2 (2000 + i) → chK 4 s s1 → (lat q.2.2.2.1 4 = -1 → s1 = s) → (lat q.2.2.2.1 4 ≠ -1 → drS (lat q.2.2.2.1 4) s.2.1.length 0 s = drS (lat q.2.2.2.1 4) (s.2.1.length - i.toNat) i.toNat s1) → gX l E (gFm E (d + 4) iX12_doDrop Q) 17 [some (ga 775), some (gi h), some (gi (lat q.2.2.2.1 4)), some (gi (lat s1.2.2.1 4)), some (gi i)] [] (K, R, V1) bc bs := by
    intro jj
    induction jj with
    | zero =>
      intro i V1 s1 bc bs hj q0 q1 q2 q3 q4 q5 q6 q7 q8 q9
      exfalso; omega
    | succ jj ih =>
      intro i V1 s1 bc bs hj q0 q1 q2 q3 q4 q5 q6 q7 q8 q9
      refine gX_iload dX12_doDrop_17 rfl ?_
      refine gX_aloadn dX12_doDrop_19 rfl ?_
      refine gX_gR 4 dX12_doDrop_20 fdX12_19 rfl rfl hM.1 (mR4 hM) ?_
      refine gX_bipush dX12_doDrop_23 (by decide) ⟨by decide, by decide⟩ ?_
      refine gX_iald dX12_doDrop_25 (mA4 hM) (by omega) (by omega) ?_
      rw [q2.1.2.2.2.1, q4]
      refine gX_icmpge (tgt := 68) dX12_doDrop_26 (by decide) (fun b1 => ?_) (fun b1 => ?_)
      · refine gX_vret dX12_doDrop_68 rfl ?_
        have ew : wr5 q.2.2.2.1 s = s1 := by
          unfold wr5
          by_cases z : lat q.2.2.2.1 4 = -1
          · rw [if_pos z, q8 z]
          · rw [if_neg z, q9 z, show s.2.1.length - i.toNat = 0 by omega]
            rfl
        rw [ew] at hQ
        exact hQ V1 q2 q3 q7
      · refine gX_iloadn dX12_doDrop_29 rfl ?_
        refine gX_ifle (tgt := 68) dX12_doDrop_30 (by decide) (fun b2 => ?_) (fun b2 => ?_)
        · refine gX_vret dX12_doDrop_68 rfl ?_
          have ew : wr5 q.2.2.2.1 s = s1 := by
            unfold wr5
            by_cases z : lat q.2.2.2.1 4 = -1
            · rw [if_pos z, q8 z]
            · rw [if_neg z, q9 z, show s.2.1.length - i.toNat = 0 by omega]
              rfl
          rw [ew] at hQ
          exact hQ V1 q2 q3 q7
        · have hch := q5.2 4 (by omega) (by omega)
          have hgi := q2.2.2.1 i (by omega) (by omega)
          refine gX_aloadn dX12_doDrop_33 rfl ?_
          refine gX_gR 45 dX12_doDrop_34 fdX12_98 rfl rfl hM.1 (mR45 hM) ?_
          refine gX_iload dX12_doDrop_37 rfl ?_
          refine gX_zald dX12_doDrop_39 (mA45 hM) (by omega) (by omega) ?_
          rw [hgi.1]
          refine gX_ifne (tgt := 62) dX12_doDrop_40 (by decide) (fun b3 => ?_) (fun b3 => ?_)
          · refine gX_iinc dX12_doDrop_62 rfl (show (4 : Nat) < 5 from by decide) ⟨by omega, by omega⟩ (ls2 := [some (ga 775), some (gi h), some (gi (lat q.2.2.2.1 4)), some (gi (lat s1.2.2.1 4)), some (gi (i + 1))]) rfl ?_
            refine gX_goto (tgt := 17) dX12_doDrop_65 (by decide) ?_
            have e6 : drS (lat q.2.2.2.1 4) (s.2.1.length - i.toNat) i.toNat s1 = if (gq s1.2.1 i).2.2.2.2.1 = 0 then (if tkn (lat s1.2.2.1 4 + 1) (lat q.2.2.2.1 4) = 1 then drS (lat q.2.2.2.1 4) (s.2.1.length - (i + 1).toNat) (i + 1).toNat (s1.1, awayG s1.2.1 i, (tcS 4 (lat q.2.2.2.1 4) s1).2.2) else drS (lat q.2.2.2.1 4) (s.2.1.length - (i + 1).toNat) (i + 1).toNat (tcS 4 (lat q.2.2.2.1 4) s1)) else drS (lat q.2.2.2.1 4) (s.2.1.length - (i + 1).toNat) (i + 1).toNat s1 := by
              rw [show s.2.1.length - i.toNat = (s.2.1.length - (i + 1).toNat) + 1 by omega, show (i + 1).toNat = i.toNat + 1 by omega]
              have en : ((i.toNat : Nat) : Int) = i := by omega
              show (if (gq s1.2.1 ((i.toNat : Nat) : Int)).2.2.2.2.1 = 0 then (if _ then drS _ _ _ (s1.1, awayG s1.2.1 ((i.toNat : Nat) : Int), _) else _) else _) = _
              rw [en]
            rw [e6] at q9
            exact ih (i + 1) _ _ _ _ (by omega) (by omega) (by omega) q2 q3 q4 (q5.up (by omega)) (q6.up (by omega)) q7 (fun z => by omega) (fun z => by rw [q9 z, if_neg (by omega)])
          · refine gX_iinc dX12_doDrop_43 rfl (show (3 : Nat) < 5 from by decide) ⟨by omega, by omega⟩ (ls2 := [some (ga 775), some (gi h), some (gi (lat q.2.2.2.1 4)), some (gi ((lat s1.2.2.1 4) + 1)), some (gi i)]) rfl ?_
            refine gX_aloadn dX12_doDrop_46 rfl ?_
            refine gX_iconst dX12_doDrop_47 ⟨by decide, by decide⟩ ?_
            refine gX_iloadn dX12_doDrop_48 rfl ?_
            refine gX_iloadn dX12_doDrop_49 rfl ?_
            refine gX_virt (J := iX12_isTaken) (av := [gi 4, gi ((lat s1.2.2.1 4) + 1), gi (lat q.2.2.2.1 4)]) (a := 775) (st := []) dX12_doDrop_50 lkX12_342 kX12_isTaken vX12_isTaken (gFit_m (by decide)) hM.1 rfl rfl (Nat.le_of_ble_eq_true rfl) (Nat.zero_le _) (Nat.zero_le _) rfl ?_
            refine m_isTakenW hM q2 (by omega) (by omega) (by omega) (by omega) (q5.up (by omega)) (q6.up (by omega)) (fun V2 hw2 hf2 => ?_)
            show gX l E _ 53 [some (ga 775), some (gi h), some (gi (lat q.2.2.2.1 4)), some (gi ((lat s1.2.2.1 4) + 1)), some (gi i)] [gi (tkn (lat s1.2.2.1 4 + 1) (lat q.2.2.2.1 4))] (K, R, V2) _ _
            refine gX_ifeq (tgt := 62) dX12_doDrop_53 (by decide) (fun b4 => ?_) (fun b4 => ?_)
            · refine gX_iinc dX12_doDrop_62 rfl (show (4 : Nat) < 5 from by decide) ⟨by omega, by omega⟩ (ls2 := [some (ga 775), some (gi h), some (gi (lat q.2.2.2.1 4)), some (gi ((lat s1.2.2.1 4) + 1)), some (gi (i + 1))]) rfl ?_
              refine gX_goto (tgt := 17) dX12_doDrop_65 (by decide) ?_
              have e6 : drS (lat q.2.2.2.1 4) (s.2.1.length - i.toNat) i.toNat s1 = if (gq s1.2.1 i).2.2.2.2.1 = 0 then (if tkn (lat s1.2.2.1 4 + 1) (lat q.2.2.2.1 4) = 1 then drS (lat q.2.2.2.1 4) (s.2.1.length - (i + 1).toNat) (i + 1).toNat (s1.1, awayG s1.2.1 i, (tcS 4 (lat q.2.2.2.1 4) s1).2.2) else drS (lat q.2.2.2.1 4) (s.2.1.length - (i + 1).toNat) (i + 1).toNat (tcS 4 (lat q.2.2.2.1 4) s1)) else drS (lat q.2.2.2.1 4) (s.2.1.length - (i + 1).toNat) (i + 1).toNat s1 := by
                rw [show s.2.1.length - i.toNat = (s.2.1.length - (i + 1).toNat) + 1 by omega, show (i + 1).toNat = i.toNat + 1 by omega]
                have en : ((i.toNat : Nat) : Int) = i := by omega
                show (if (gq s1.2.1 ((i.toNat : Nat) : Int)).2.2.2.2.1 = 0 then (if _ then drS _ _ _ (s1.1, awayG s1.2.1 ((i.toNat : Nat) : Int), _) else _) else _) = _
                rw [en]
              rw [e6] at q9
              rw [if_pos (by omega)] at q9
              have et := tkn_01 (lat s1.2.2.1 4 + 1) (lat q.2.2.2.1 4)
              have hc9 : cBd (tcS 4 (lat q.2.2.2.1 4) s1).2.2.1 (2000 + (i + 1)) := (tcS_c q5 (by omega) (by omega)).up (by omega)
              have ht9 : cBd (tcS 4 (lat q.2.2.2.1 4) s1).2.2.2 (2000 + (i + 1)) := (tcS_t q6 (by omega) (by omega)).up (by omega)
              have el9 : lat s1.2.2.1 4 + 1 = lat (tcS 4 (lat q.2.2.2.1 4) s1).2.2.1 4 := (bump_at (by omega) (by rw [q2.2.2.2.1.1]; omega)).symm
              rw [el9]
              exact ih (i + 1) _ (tcS 4 (lat q.2.2.2.1 4) s1) _ _ (by omega) (by omega) (by omega) hw2 (q3.trans hf2.wk) q4 hc9 ht9 q7.bmp (fun z => by omega) (fun z => by rw [q9 z, if_neg (by omega)])
            · refine gX_aloadn dX12_doDrop_56 rfl ?_
              refine gX_iload dX12_doDrop_57 rfl ?_
              refine gX_virt (J := iX12_goes) (av := [gi i]) (a := 775) (st := []) dX12_doDrop_59 lkX12_353 kX12_goes vX12_goes (gFit_m (by decide)) hM.1 rfl rfl (Nat.le_of_ble_eq_true rfl) (Nat.zero_le _) (Nat.zero_le _) rfl ?_
              refine m_goesW hM hw2 q0 (by show i < (s1.2.1.length : Int); omega) (by show (gq s1.2.1 i).2.2.2.2.1 = 0; omega) (fun V3 hw3 hf3 => ?_)
              show gX l E _ 62 [some (ga 775), some (gi h), some (gi (lat q.2.2.2.1 4)), some (gi ((lat s1.2.2.1 4) + 1)), some (gi i)] [] (K, R, V3) _ _
              refine gX_iinc dX12_doDrop_62 rfl (show (4 : Nat) < 5 from by decide) ⟨by omega, by omega⟩ (ls2 := [some (ga 775), some (gi h), some (gi (lat q.2.2.2.1 4)), some (gi ((lat s1.2.2.1 4) + 1)), some (gi (i + 1))]) rfl ?_
              refine gX_goto (tgt := 17) dX12_doDrop_65 (by decide) ?_
              have e6 : drS (lat q.2.2.2.1 4) (s.2.1.length - i.toNat) i.toNat s1 = if (gq s1.2.1 i).2.2.2.2.1 = 0 then (if tkn (lat s1.2.2.1 4 + 1) (lat q.2.2.2.1 4) = 1 then drS (lat q.2.2.2.1 4) (s.2.1.length - (i + 1).toNat) (i + 1).toNat (s1.1, awayG s1.2.1 i, (tcS 4 (lat q.2.2.2.1 4) s1).2.2) else drS (lat q.2.2.2.1 4) (s.2.1.length - (i + 1).toNat) (i + 1).toNat (tcS 4 (lat q.2.2.2.1 4) s1)) else drS (lat q.2.2.2.1 4) (s.2.1.length - (i + 1).toNat) (i + 1).toNat s1 := by
                rw [show s.2.1.length - i.toNat = (s.2.1.length - (i + 1).toNat) + 1 by omega, show (i + 1).toNat = i.toNat + 1 by omega]
                have en : ((i.toNat : Nat) : Int) = i := by omega
                show (if (gq s1.2.1 ((i.toNat : Nat) : Int)).2.2.2.2.1 = 0 then (if _ then drS _ _ _ (s1.1, awayG s1.2.1 ((i.toNat : Nat) : Int), _) else _) else _) = _
                rw [en]
              rw [e6] at q9
              rw [if_pos (by omega)] at q9
              have et := tkn_01 (lat s1.2.2.1 4 + 1) (lat q.2.2.2.1 4)
              have hc9 : cBd (tcS 4 (lat q.2.2.2.1 4) s1).2.2.1 (2000 + (i + 1)) := (tcS_c q5 (by omega) (by omega)).up (by omega)
              have ht9 : cBd (tcS 4 (lat q.2.2.2.1 4) s1).2.2.2 (2000 + (i + 1)) := (tcS_t q6 (by omega) (by omega)).up (by omega)
              have el9 : lat s1.2.2.1 4 + 1 = lat (tcS 4 (lat q.2.2.2.1 4) s1).2.2.1 4 := (bump_at (by omega) (by rw [q2.2.2.2.1.1]; omega)).symm
              rw [el9]
              exact ih (i + 1) _ (s1.1, awayG s1.2.1 i, (tcS 4 (lat q.2.2.2.1 4) s1).2.2) _ _ (by omega) (by omega) (by omega) hw3 ((q3.trans hf2.wk).trans hf3.wk) ((awLen q2.2.2.2.2.1.2.2.1 q0 (by omega)).trans q4) hc9 ht9 q7.bmp (fun z => by omega) (fun z => by rw [q9 z, if_pos (by omega)])
  refine gX_aloadn dX12_doDrop_0 rfl ?_
  refine gX_gR 33 dX12_doDrop_1 fdX12_77 rfl rfl hM.1 (mR33 hM) ?_
  refine gX_bipush dX12_doDrop_4 (by decide) ⟨by decide, by decide⟩ ?_
  refine gX_iloadn dX12_doDrop_6 rfl ?_
  refine gX_imul dX12_doDrop_7 ⟨by omega, by omega⟩ ?_
  refine gX_iconst dX12_doDrop_8 ⟨by decide, by decide⟩ ?_
  refine gX_iadd dX12_doDrop_9 ⟨by omega, by omega⟩ ?_
  refine gX_iald dX12_doDrop_10 (mA33 hM) (by omega) (by omega) ?_
  rw [hm]
  refine gX_istoren dX12_doDrop_11 (show (2 : Nat) < 5 from by decide) (ls2 := [some (ga 775), some (gi h), some (gi (lat q.2.2.2.1 4)), none, none]) rfl ?_
  refine gX_iconst dX12_doDrop_12 ⟨by decide, by decide⟩ ?_
  refine gX_istoren dX12_doDrop_13 (show (3 : Nat) < 5 from by decide) (ls2 := [some (ga 775), some (gi h), some (gi (lat q.2.2.2.1 4)), some (gi 0), none]) rfl ?_
  refine gX_iconst dX12_doDrop_14 ⟨by decide, by decide⟩ ?_
  refine gX_istore dX12_doDrop_15 (show (4 : Nat) < 5 from by decide) (ls2 := [some (ga 775), some (gi h), some (gi (lat q.2.2.2.1 4)), some (gi 0), some (gi 0)]) rfl ?_
  have z9 := fun bc bs => lp (s.2.1.length + 1) 0 V s bc bs (by omega) (by omega) (by omega) hs wkF.rf rfl (hc0.up (by omega)) (ht0.up (by omega)) (chK.rf 4 s) (fun _ => rfl) (fun _ => rfl)
  rw [hz] at z9
  exact z9 _ _
end MD25
