/-! The reference: a for clause. Written by wip/whole/tools/mk_md17.py. -/
/-- only what a hand's reading uses has changed -/
def hRF (V V' : Int → Int → Int) : Prop := (∀ a, a < 775 ∨ (775 < a ∧ a < 800) ∨ 803 < a → V' a = V a) ∧ ∀ k, ¬ ((17 ≤ k ∧ k ≤ 20) ∨ k = 36 ∨ (41 ≤ k ∧ k ≤ 44)) → V' 775 k = V 775 k
theorem hRF.rf {V : Int → Int → Int} : hRF V V := ⟨fun _ _ => rfl, fun _ _ => rfl⟩
theorem hRF.trans {V V1 V2 : Int → Int → Int} (h : hRF V V1) (h2 : hRF V1 V2) : hRF V V2 := ⟨fun a ha => (h2.1 a ha).trans (h.1 a ha), fun k hk => (h2.2 k hk).trans (h.2 k hk)⟩
theorem rdR.h {V V' : Int → Int → Int} (h : rdR V V') : hRF V V' := ⟨fun a ha => h.1 a (by omega), fun k hk => h.2 k (by omega) (by omega) (by omega) (by omega)⟩
theorem hRF.up {V V1 : Int → Int → Int} (h : hRF V V1) {a k x : Int} (ha : 800 ≤ a ∧ a ≤ 803) : hRF V (gup V1 a k x) := ⟨fun b hb => by rw [gup_ne (by omega)]; exact h.1 b hb, fun j hj => by rw [gup_ne (by omega)]; exact h.2 j hj⟩
theorem hRF.uf {V V1 : Int → Int → Int} (h : hRF V V1) {k x : Int} (hk : (17 ≤ k ∧ k ≤ 20) ∨ k = 36 ∨ (41 ≤ k ∧ k ≤ 44)) : hRF V (gup V1 775 k x) := ⟨fun b hb => by rw [gup_ne (by omega)]; exact h.1 b hb, fun j hj => by rw [gup_k (fun z => hj (by rw [z]; exact hk))]; exact h.2 j hj⟩
theorem tdIs.h {V V' : Int → Int → Int} {ys : List Int} (h : tdIs V ys) (hf : hRF V V') : tdIs V' ys := ⟨by rw [hf.2 16 (by omega)]; exact h.1, h.2.1, fun j x hj => by rw [hf.1 790 (by omega)]; exact h.2.2 j x hj⟩
theorem tkNum_cs {ys : List Int} {low high : Int} {t : tS} (hl : 0 ≤ low) (hz : t.2.2.1 = 0 ∧ t.2.2.2 = -1) : ((tkNum ys low high t).1 = -1 ∧ ((tkNum ys low high t).2.2.2.1 = 1 ∨ (tkNum ys low high t).2.2.2.1 = 2)) ∨ (low ≤ (tkNum ys low high t).1 ∧ (tkNum ys low high t).1 ≤ high ∧ (tkNum ys low high t).2.2.2.1 = 0 ∧ (tkNum ys low high t).2.2.2.2 = -1) := by
  unfold tkNum
  split
  · split
    · exact Or.inl ⟨rfl, Or.inr rfl⟩
    · next h =>
      unfold nuB at h
      rw [decide_eq_true_eq] at h
      exact Or.inr ⟨by show low ≤ (fiF ys (pkB ys t.1) 321 (pkB ys t.1) 0).2; omega, by show (fiF ys (pkB ys t.1) 321 (pkB ys t.1) 0).2 ≤ high; omega, hz.1, hz.2⟩
  · exact Or.inl ⟨rfl, Or.inl rfl⟩
/-- a reading of a hand that stands without a fault -/
def hRl (V : Int → Int → Int) (ys : List Int) (s : hR) : Prop := tdIs V ys ∧ V 775 18 = s.1.1 ∧ (0 ≤ s.1.1 ∧ s.1.1 ≤ ys.length) ∧ (s.1.2.2.1 = 0 ∧ s.1.2.2.2 = -1 ∧ V 775 17 = -1) ∧ rrH V s.2
theorem mem_lat {xs : List Int} {x : Int} : x ∈ xs ↔ ∃ k : Int, 0 ≤ k ∧ k < xs.length ∧ lat xs k = x := by
  constructor
  · intro h
    obtain ⟨i, hi, e⟩ := List.getElem_of_mem h
    exact ⟨i, by omega, by omega, by rw [lat_in (by omega) (by omega)]; exact e⟩
  · rintro ⟨k, k0, k1, e⟩
    rw [← e, lat_in k0 (by omega)]
    exact List.getElem_mem _
section MD17
variable {l : Launch} {E : gE} {d : Nat} {K : List gK} {R V : Int → Int → Int} {Q : gQ} {ys : List Int} {s : hR}
set_option maxRecDepth 4000 in
theorem m_takeFor (hM : mdK K R) (hs : hRl V ys s) (h4 : s.2.1.length < 4) (hto : s.2.2.1.length = s.2.1.length) (hfe : s.2.2.2.1.length = s.2.1.length) (hQ : ∀ V', ((rdFor ys s).2.1.2.2.1 = 0 → hRl V' ys (rdFor ys s).2) → V' 775 17 = (rdFor ys s).2.1.2.2.2 → hRF V V' → Q (some (gi (rdFor ys s).2.1.2.2.1)) (K, R, V')) : gC l E (d + 3) iX12_takeFor [ga 775] (K, R, V) Q := by
  refine gC_of kX12_takeFor (ls := [some (ga 775), none, none]) rfl (Nat.le_of_ble_eq_true rfl) ?_
  have ht := hs.1
  have hu1 := tkNum_cs (ys := ys) (low := 0) (high := 63) (t := s.1) (by omega) ⟨hs.2.2.2.1.1, hs.2.2.2.1.2.1⟩
  have h0b := tkNum_at (lo := 0) (hi := 63) (t := s.1) hs.2.2.1.1 hs.2.2.1.2
  have h0c := tkNum_at (lo := 0) (hi := 63) (t := (tkNum ys 0 63 s.1).2) h0b.1 h0b.2
  have tT : ∀ (f : Int) (k2 : Option gV) (V1 : Int → Int → Int) (bc bs : Nat), 0 < f → f = (rdFor ys s).2.1.2.2.1 → V1 775 17 = (rdFor ys s).2.1.2.2.2 → V1 775 36 = (s.2.1.length : Int) → hRF V V1 → gX l E (gFm E (d + 3) iX12_takeFor Q) 131 [some (ga 775), some (gi f), k2] [] (K, R, V1) bc bs := by
    intro f k2 V1 bc bs hf0 hfe hfa h36 hfr
    refine gX_iloadn dX12_takeFor_131 rfl ?_
    refine gX_ifle (tgt := 139) dX12_takeFor_132 (by decide) (fun t1 => ?_) (fun t1 => ?_)
    · exfalso
      omega
    · refine gX_iloadn dX12_takeFor_135 rfl ?_
      refine gX_goto (tgt := 146) dX12_takeFor_136 (by decide) ?_
      refine gX_istoren dX12_takeFor_146 (show (1 : Nat) < 3 from by decide) (ls2 := [some (ga 775), some (gi f), k2]) rfl ?_
      refine gX_aloadn dX12_takeFor_147 rfl ?_
      refine gX_gR 39 dX12_takeFor_148 fdX12_92 rfl rfl hM.1 (mR39 hM) ?_
      refine gX_aloadn dX12_takeFor_151 rfl ?_
      refine gX_gI 36 dX12_takeFor_152 fdX12_242 rfl (Or.inl rfl) hM.1 ?_
      rw [h36]
      refine gX_aloadn dX12_takeFor_155 rfl ?_
      refine gX_gI 19 dX12_takeFor_156 fdX12_185 rfl (Or.inl rfl) hM.1 ?_
      refine gX_iast dX12_takeFor_159 (mA39 hM) (by omega) (by omega) ?_
      refine gX_aloadn dX12_takeFor_160 rfl ?_
      refine gX_dup dX12_takeFor_161 rfl ?_
      refine gX_gI 36 dX12_takeFor_162 fdX12_242 rfl (Or.inl rfl) hM.1 ?_
      rw [show gup V1 802 (s.2.1.length : Int) (V1 775 19) 775 36 = (s.2.1.length : Int) by rw [gup_ne (by omega)]; exact h36]
      refine gX_iconst dX12_takeFor_165 ⟨by decide, by decide⟩ ?_
      refine gX_iadd dX12_takeFor_166 ⟨by omega, by omega⟩ ?_
      refine gX_pI 36 dX12_takeFor_167 fdX12_242 fpX12_242 rfl (Or.inl rfl) hM.1 ?_
      refine gX_iloadn dX12_takeFor_170 rfl ?_
      refine gX_iret dX12_takeFor_171 (Or.inl rfl) ?_
      rw [hfe]
      exact hQ _ (fun z => by omega) (by rw [gup_k (by omega), gup_ne (by omega)]; exact hfa) ((hfr.up (by omega)).uf (by omega))
  have tF : ∀ (f : Int) (k2 : Option gV) (V1 : Int → Int → Int) (bc bs : Nat), 0 < f → f = (rdFor ys s).2.1.2.2.1 → V1 775 17 = (rdFor ys s).2.1.2.2.2 → V1 775 36 = (s.2.1.length : Int) → hRF V V1 → gX l E (gFm E (d + 3) iX12_takeFor Q) 68 [some (ga 775), some (gi f), k2] [] (K, R, V1) bc bs := by
    intro f k2 V1 bc bs hf0 hfe hfa h36 hfr
    refine gX_iloadn dX12_takeFor_68 rfl ?_
    refine gX_ifle (tgt := 76) dX12_takeFor_69 (by decide) (fun u1 => ?_) (fun u1 => ?_)
    · exfalso
      omega
    · refine gX_iloadn dX12_takeFor_72 rfl ?_
      refine gX_goto (tgt := 83) dX12_takeFor_73 (by decide) ?_
      refine gX_istoren dX12_takeFor_83 (show (1 : Nat) < 3 from by decide) (ls2 := [some (ga 775), some (gi f), k2]) rfl ?_
      refine gX_aloadn dX12_takeFor_84 rfl ?_
      refine gX_gR 38 dX12_takeFor_85 fdX12_89 rfl rfl hM.1 (mR38 hM) ?_
      refine gX_aloadn dX12_takeFor_88 rfl ?_
      refine gX_gI 36 dX12_takeFor_89 fdX12_242 rfl (Or.inl rfl) hM.1 ?_
      rw [h36]
      refine gX_aloadn dX12_takeFor_92 rfl ?_
      refine gX_gI 19 dX12_takeFor_93 fdX12_185 rfl (Or.inl rfl) hM.1 ?_
      refine gX_iast dX12_takeFor_96 (mA38 hM) (by omega) (by omega) ?_
      refine gX_iloadn dX12_takeFor_97 rfl ?_
      refine gX_ifne (tgt := 129) dX12_takeFor_98 (by decide) (fun u2 => ?_) (fun u2 => ?_)
      · refine gX_iloadn dX12_takeFor_129 rfl ?_
        refine gX_istoren dX12_takeFor_130 (show (1 : Nat) < 3 from by decide) (ls2 := [some (ga 775), some (gi f), k2]) rfl ?_
        exact tT f _ _ _ _ hf0 hfe (by rw [gup_ne (by omega)]; exact hfa) (by rw [gup_ne (by omega)]; exact h36) (hfr.up (by omega))
      · exfalso
        omega
  have t3 : ∀ (k2 : Option gV) (V1 : Int → Int → Int) (bc bs : Nat), (tkNum ys 0 63 s.1).1 ≠ -1 → ¬ (tkNum ys 0 63 s.1).1 ∈ s.2.1 → (tkNum ys 0 63 (tkNum ys 0 63 s.1).2).1 ≠ -1 → ¬ (tkNum ys 0 63 (tkNum ys 0 63 s.1).2).1 = (tkNum ys 0 63 s.1).1 → (tkNum ys 0 63 (tkNum ys 0 63 s.1).2).2.2.2.1 = 0 → (tkNum ys 0 63 (tkNum ys 0 63 s.1).2).2.2.2.2 = -1 → V1 775 18 = (tkNum ys 0 63 (tkNum ys 0 63 s.1).2).2.1 → V1 775 17 = -1 → V1 775 36 = (s.2.1.length : Int) → hRF V V1 → V1 800 (s.2.1.length : Int) = (tkNum ys 0 63 s.1).1 → V1 801 (s.2.1.length : Int) = (tkNum ys 0 63 (tkNum ys 0 63 s.1).2).1 → (∀ j : Int, 0 ≤ j → j < s.2.1.length → V1 800 j = lat s.2.1 j ∧ V1 801 j = lat s.2.2.1 j ∧ V1 802 j = lat s.2.2.2.1 j) → V1 803 = V 803 → (∀ k, k = 41 ∨ k = 42 → V1 775 k = V 775 k) → gX l E (gFm E (d + 3) iX12_takeFor Q) 131 [some (ga 775), some (gi 0), k2] [] (K, R, V1) bc bs := by
    intro k2 V1 bc bs hn1 hnm hn2 hne2 hz1 hz2 h18 h17 h36 hfr hA hB hold h803 hkp
    have hu3 := tkNum_cs (ys := ys) (low := 1) (high := 99) (t := (tkNum ys 0 63 (tkNum ys 0 63 s.1).2).2) (by omega) ⟨hz1, hz2⟩
    refine gX_iloadn dX12_takeFor_131 rfl ?_
    refine gX_ifle (tgt := 139) dX12_takeFor_132 (by decide) (fun v1 => ?_) (fun v1 => by exfalso; omega)
    refine gX_aloadn dX12_takeFor_139 rfl ?_
    refine gX_iconst dX12_takeFor_140 ⟨by decide, by decide⟩ ?_
    refine gX_bipush dX12_takeFor_141 (by decide) ⟨by decide, by decide⟩ ?_
    refine gX_virt (J := iX12_takeNumber) (av := [gi 1, gi 99]) (a := 775) (st := []) dX12_takeFor_143 lkX12_188 kX12_takeNumber vX12_takeNumber (gFit_m (by decide)) hM.1 rfl rfl (Nat.le_of_ble_eq_true rfl) (Nat.zero_le _) (Nat.zero_le _) rfl ?_
    refine m_takeNumber (t := (tkNum ys 0 63 (tkNum ys 0 63 s.1).2).2) hM (ht.h hfr) h18 h0c.1 h0c.2 ⟨hz1, hz2, h17⟩ (fun Vc hc18 hc17 hcn hrc => ?_)
    show gX l E _ 146 [some (ga 775), some (gi 0), k2] [gi ((tkNum ys 1 99 (tkNum ys 0 63 (tkNum ys 0 63 s.1).2).2).2.2.2.1)] (K, R, Vc) _ _
    refine gX_istoren dX12_takeFor_146 (show (1 : Nat) < 3 from by decide) (ls2 := [some (ga 775), some (gi ((tkNum ys 1 99 (tkNum ys 0 63 (tkNum ys 0 63 s.1).2).2).2.2.2.1)), k2]) rfl ?_
    refine gX_aloadn dX12_takeFor_147 rfl ?_
    refine gX_gR 39 dX12_takeFor_148 fdX12_92 rfl rfl hM.1 (mR39 hM) ?_
    refine gX_aloadn dX12_takeFor_151 rfl ?_
    refine gX_gI 36 dX12_takeFor_152 fdX12_242 rfl (Or.inl rfl) hM.1 ?_
    rw [show Vc 775 36 = (s.2.1.length : Int) by rw [hrc.2 36 (by omega) (by omega) (by omega) (by omega)]; exact h36]
    refine gX_aloadn dX12_takeFor_155 rfl ?_
    refine gX_gI 19 dX12_takeFor_156 fdX12_185 rfl (Or.inl rfl) hM.1 ?_
    refine gX_iast dX12_takeFor_159 (mA39 hM) (by omega) (by omega) ?_
    refine gX_aloadn dX12_takeFor_160 rfl ?_
    refine gX_dup dX12_takeFor_161 rfl ?_
    refine gX_gI 36 dX12_takeFor_162 fdX12_242 rfl (Or.inl rfl) hM.1 ?_
    rw [show gup Vc 802 (s.2.1.length : Int) (Vc 775 19) 775 36 = (s.2.1.length : Int) by rw [gup_ne (by omega), hrc.2 36 (by omega) (by omega) (by omega) (by omega)]; exact h36]
    refine gX_iconst dX12_takeFor_165 ⟨by decide, by decide⟩ ?_
    refine gX_iadd dX12_takeFor_166 ⟨by omega, by omega⟩ ?_
    refine gX_pI 36 dX12_takeFor_167 fdX12_242 fpX12_242 rfl (Or.inl rfl) hM.1 ?_
    refine gX_iloadn dX12_takeFor_170 rfl ?_
    refine gX_iret dX12_takeFor_171 (Or.inl rfl) ?_
    rcases hu3 with z | z
    · have er : (rdFor ys s) = (0, (tkNum ys 1 99 (tkNum ys 0 63 (tkNum ys 0 63 s.1).2).2).2, s.2) := by
        unfold rdFor rf3 rf2 rf1
        rw [if_neg (by omega), if_neg hnm, if_neg (by omega), if_neg hne2, if_pos z.1]
      rw [er] at hQ
      exact hQ _ (fun y => by have y2 : (tkNum ys 1 99 (tkNum ys 0 63 (tkNum ys 0 63 s.1).2).2).2.2.2.1 = 0 := y; omega) (by rw [gup_k (by omega), gup_ne (by omega)]; exact hc17) (((hfr.trans hrc.h).up (by omega)).uf (by omega))
    · have er : (rdFor ys s) = (1, (tkNum ys 1 99 (tkNum ys 0 63 (tkNum ys 0 63 s.1).2).2).2, ladd 4 s.2.1 (tkNum ys 0 63 s.1).1, ladd 4 s.2.2.1 (tkNum ys 0 63 (tkNum ys 0 63 s.1).2).1, ladd 4 s.2.2.2.1 (tkNum ys 1 99 (tkNum ys 0 63 (tkNum ys 0 63 s.1).2).2).1, s.2.2.2.2) := by
        unfold rdFor rf3 rf2 rf1
        rw [if_neg (by omega), if_neg hnm, if_neg (by omega), if_neg hne2, if_neg (by omega)]
      have hc9 := hcn z.2.2.1
      rw [er] at hQ
      refine hQ _ (fun _ => ⟨(ht.h ((hfr.trans hrc.h).up (by omega))).h (hRF.rf.uf (by omega)), by rw [gup_k (by omega), gup_ne (by omega)]; exact hc18, tkNum_at h0c.1 h0c.2, ⟨z.2.2.1, z.2.2.2, by rw [gup_k (by omega), gup_ne (by omega), hc17]; exact z.2.2.2⟩, ?_⟩) (by rw [gup_k (by omega), gup_ne (by omega)]; exact hc17) (((hfr.trans hrc.h).up (by omega)).uf (by omega))
      have eA : ladd 4 s.2.1 (tkNum ys 0 63 s.1).1 = s.2.1 ++ [(tkNum ys 0 63 s.1).1] := if_pos (by omega)
      have eB : ladd 4 s.2.2.1 (tkNum ys 0 63 (tkNum ys 0 63 s.1).2).1 = s.2.2.1 ++ [(tkNum ys 0 63 (tkNum ys 0 63 s.1).2).1] := if_pos (by omega)
      have eC : ladd 4 s.2.2.2.1 (tkNum ys 1 99 (tkNum ys 0 63 (tkNum ys 0 63 s.1).2).2).1 = s.2.2.2.1 ++ [(tkNum ys 1 99 (tkNum ys 0 63 (tkNum ys 0 63 s.1).2).2).1] := if_pos (by omega)
      refine ⟨?_, ?_, fun j j0 j1 => ?_, fun j j0 j1 => ?_, ?_, ?_⟩
      · rw [show gup _ 775 36 _ 775 36 = _ from gup_s]; show _ = ((ladd 4 s.2.1 (tkNum ys 0 63 s.1).1).length : Int); rw [eA, List.length_append]; rfl
      · show (ladd 4 s.2.1 (tkNum ys 0 63 s.1).1).length ≤ 4; rw [eA, List.length_append]; show s.2.1.length + 1 ≤ 4; omega
      · have j2 : j < ((ladd 4 s.2.1 (tkNum ys 0 63 s.1).1).length : Int) := j1
        rw [eA, List.length_append] at j2
        have j3 : j < ((s.2.1.length + 1 : Nat) : Int) := j2
        show _ = lat (ladd 4 s.2.1 (tkNum ys 0 63 s.1).1) j ∧ _ = lat (ladd 4 s.2.2.1 (tkNum ys 0 63 (tkNum ys 0 63 s.1).2).1) j ∧ _ = lat (ladd 4 s.2.2.2.1 (tkNum ys 1 99 (tkNum ys 0 63 (tkNum ys 0 63 s.1).2).2).1) j
        rw [eA, eB, eC]
        by_cases ej : j = s.2.1.length
        · rw [lat_app_s ej, lat_app_s (by omega), lat_app_s (by omega), ej]
          refine ⟨by rw [gup_ne (by omega), gup_ne (by omega), hrc.1 800 (by omega)]; exact hA, by rw [gup_ne (by omega), gup_ne (by omega), hrc.1 801 (by omega)]; exact hB, ?_⟩
          rw [gup_ne (by omega), show gup _ 802 _ _ 802 _ = _ from gup_s]; exact hc9.1
        · rw [lat_app_l j0 (by omega), lat_app_l j0 (by omega), lat_app_l j0 (by omega)]
          have z9 := hold j j0 (by omega)
          exact ⟨by rw [gup_ne (by omega), gup_ne (by omega), hrc.1 800 (by omega)]; exact z9.1, by rw [gup_ne (by omega), gup_ne (by omega), hrc.1 801 (by omega)]; exact z9.2.1, by rw [gup_ne (by omega), gup_k ej, hrc.1 802 (by omega)]; exact z9.2.2⟩
      · rw [gup_ne (by omega), gup_ne (by omega), hrc.1 803 (by omega), h803]; exact hs.2.2.2.2.2.2.2.1 j j0 j1
      · rw [gup_k (by omega), gup_ne (by omega), hrc.2 41 (by omega) (by omega) (by omega) (by omega), hkp 41 (by omega)]; exact hs.2.2.2.2.2.2.2.2.1
      · rw [gup_k (by omega), gup_ne (by omega), hrc.2 42 (by omega) (by omega) (by omega) (by omega), hkp 42 (by omega)]; exact hs.2.2.2.2.2.2.2.2.2
  have t2 : ∀ (k2 : Option gV) (V1 : Int → Int → Int) (bc bs : Nat), (tkNum ys 0 63 s.1).1 ≠ -1 → ¬ (tkNum ys 0 63 s.1).1 ∈ s.2.1 → (tkNum ys 0 63 s.1).2.2.2.1 = 0 → (tkNum ys 0 63 s.1).2.2.2.2 = -1 → V1 775 18 = (tkNum ys 0 63 s.1).2.1 → V1 775 17 = -1 → V1 775 36 = (s.2.1.length : Int) → hRF V V1 → V1 800 (s.2.1.length : Int) = (tkNum ys 0 63 s.1).1 → (∀ j : Int, 0 ≤ j → j < s.2.1.length → V1 800 j = lat s.2.1 j ∧ V1 801 j = lat s.2.2.1 j ∧ V1 802 j = lat s.2.2.2.1 j) → V1 803 = V 803 → (∀ k, k = 41 ∨ k = 42 → V1 775 k = V 775 k) → gX l E (gFm E (d + 3) iX12_takeFor Q) 68 [some (ga 775), some (gi 0), k2] [] (K, R, V1) bc bs := by
    intro k2 V1 bc bs hn1 hnm hz1 hz2 h18 h17 h36 hfr hA hold h803 hkp
    have hu2 := tkNum_cs (ys := ys) (low := 0) (high := 63) (t := (tkNum ys 0 63 s.1).2) (by omega) ⟨hz1, hz2⟩
    refine gX_iloadn dX12_takeFor_68 rfl ?_
    refine gX_ifle (tgt := 76) dX12_takeFor_69 (by decide) (fun w1 => ?_) (fun w1 => by exfalso; omega)
    refine gX_aloadn dX12_takeFor_76 rfl ?_
    refine gX_iconst dX12_takeFor_77 ⟨by decide, by decide⟩ ?_
    refine gX_bipush dX12_takeFor_78 (by decide) ⟨by decide, by decide⟩ ?_
    refine gX_virt (J := iX12_takeNumber) (av := [gi 0, gi 63]) (a := 775) (st := []) dX12_takeFor_80 lkX12_188 kX12_takeNumber vX12_takeNumber (gFit_m (by decide)) hM.1 rfl rfl (Nat.le_of_ble_eq_true rfl) (Nat.zero_le _) (Nat.zero_le _) rfl ?_
    refine m_takeNumber (t := (tkNum ys 0 63 s.1).2) hM (ht.h hfr) h18 h0b.1 h0b.2 ⟨hz1, hz2, h17⟩ (fun Vb hb18 hb17 hbn hrb => ?_)
    show gX l E _ 83 [some (ga 775), some (gi 0), k2] [gi ((tkNum ys 0 63 (tkNum ys 0 63 s.1).2).2.2.2.1)] (K, R, Vb) _ _
    refine gX_istoren dX12_takeFor_83 (show (1 : Nat) < 3 from by decide) (ls2 := [some (ga 775), some (gi ((tkNum ys 0 63 (tkNum ys 0 63 s.1).2).2.2.2.1)), k2]) rfl ?_
    refine gX_aloadn dX12_takeFor_84 rfl ?_
    refine gX_gR 38 dX12_takeFor_85 fdX12_89 rfl rfl hM.1 (mR38 hM) ?_
    refine gX_aloadn dX12_takeFor_88 rfl ?_
    refine gX_gI 36 dX12_takeFor_89 fdX12_242 rfl (Or.inl rfl) hM.1 ?_
    rw [show Vb 775 36 = (s.2.1.length : Int) by rw [hrb.2 36 (by omega) (by omega) (by omega) (by omega)]; exact h36]
    refine gX_aloadn dX12_takeFor_92 rfl ?_
    refine gX_gI 19 dX12_takeFor_93 fdX12_185 rfl (Or.inl rfl) hM.1 ?_
    refine gX_iast dX12_takeFor_96 (mA38 hM) (by omega) (by omega) ?_
    rcases hu2 with z | z
    · have er : (rdFor ys s) = (0, (tkNum ys 0 63 (tkNum ys 0 63 s.1).2).2, s.2) := by
        unfold rdFor rf3 rf2 rf1
        rw [if_neg (by omega), if_neg hnm, if_pos z.1]
      refine gX_iloadn dX12_takeFor_97 rfl ?_
      refine gX_ifne (tgt := 129) dX12_takeFor_98 (by decide) (fun x1 => ?_) (fun x1 => ?_)
      · refine gX_iloadn dX12_takeFor_129 rfl ?_
        refine gX_istoren dX12_takeFor_130 (show (1 : Nat) < 3 from by decide) (ls2 := [some (ga 775), some (gi ((tkNum ys 0 63 (tkNum ys 0 63 s.1).2).2.2.2.1)), k2]) rfl ?_
        exact tT _ _ _ _ _ (by omega) (by rw [er]) (by rw [er, gup_ne (by omega)]; exact hb17) (by rw [gup_ne (by omega), hrb.2 36 (by omega) (by omega) (by omega) (by omega)]; exact h36) ((hfr.trans hrb.h).up (by omega))
      · exfalso
        omega
    · refine gX_iloadn dX12_takeFor_97 rfl ?_
      refine gX_ifne (tgt := 129) dX12_takeFor_98 (by decide) (fun y1 => ?_) (fun y1 => ?_)
      · refine gX_iloadn dX12_takeFor_129 rfl ?_
        refine gX_istoren dX12_takeFor_130 (show (1 : Nat) < 3 from by decide) (ls2 := [some (ga 775), some (gi ((tkNum ys 0 63 (tkNum ys 0 63 s.1).2).2.2.2.1)), k2]) rfl ?_
        rw [z.2.2.1]
        exact t3 _ _ _ _ hn1 hnm (by omega) (by omega) z.2.2.1 z.2.2.2 (by rw [gup_ne (by omega)]; exact hb18) (by rw [gup_ne (by omega), hb17]; exact z.2.2.2) (by rw [gup_ne (by omega), hrb.2 36 (by omega) (by omega) (by omega) (by omega)]; exact h36) ((hfr.trans hrb.h).up (by omega)) (by rw [gup_ne (by omega), hrb.1 800 (by omega)]; exact hA) (by rw [show gup Vb 801 (s.2.1.length : Int) (Vb 775 19) 801 (s.2.1.length : Int) = Vb 775 19 from gup_s]; exact (hbn z.2.2.1).1) (fun j j0 j1 => ⟨by rw [gup_ne (by omega), hrb.1 800 (by omega)]; exact (hold j j0 j1).1, by rw [gup_k (by omega), hrb.1 801 (by omega)]; exact (hold j j0 j1).2.1, by rw [gup_ne (by omega), hrb.1 802 (by omega)]; exact (hold j j0 j1).2.2⟩) (by rw [gup_ne (by omega), hrb.1 803 (by omega)]; exact h803) (fun k hk => by rw [gup_ne (by omega), hrb.2 k (by omega) (by omega) (by omega) (by omega)]; exact hkp k hk)
      · refine gX_aloadn dX12_takeFor_101 rfl ?_
        refine gX_gI 19 dX12_takeFor_102 fdX12_185 rfl (Or.inl rfl) hM.1 ?_
        rw [show gup Vb 801 (s.2.1.length : Int) (Vb 775 19) 775 19 = (tkNum ys 0 63 (tkNum ys 0 63 s.1).2).1 by rw [gup_ne (by omega)]; exact (hbn z.2.2.1).1]
        refine gX_aloadn dX12_takeFor_105 rfl ?_
        refine gX_gR 37 dX12_takeFor_106 fdX12_86 rfl rfl hM.1 (mR37 hM) ?_
        refine gX_aloadn dX12_takeFor_109 rfl ?_
        refine gX_gI 36 dX12_takeFor_110 fdX12_242 rfl (Or.inl rfl) hM.1 ?_
        rw [show gup Vb 801 (s.2.1.length : Int) (Vb 775 19) 775 36 = (s.2.1.length : Int) by rw [gup_ne (by omega), hrb.2 36 (by omega) (by omega) (by omega) (by omega)]; exact h36]
        refine gX_iald dX12_takeFor_113 (mA37 hM) (by omega) (by omega) ?_
        rw [show gup Vb 801 (s.2.1.length : Int) (Vb 775 19) 800 (s.2.1.length : Int) = (tkNum ys 0 63 s.1).1 by rw [gup_ne (by omega), hrb.1 800 (by omega)]; exact hA]
        refine gX_icmpne (tgt := 129) dX12_takeFor_114 (by decide) (fun y2 => ?_) (fun y2 => ?_)
        · refine gX_iloadn dX12_takeFor_129 rfl ?_
          refine gX_istoren dX12_takeFor_130 (show (1 : Nat) < 3 from by decide) (ls2 := [some (ga 775), some (gi ((tkNum ys 0 63 (tkNum ys 0 63 s.1).2).2.2.2.1)), k2]) rfl ?_
          rw [z.2.2.1]
          exact t3 _ _ _ _ hn1 hnm (by omega) (by omega) z.2.2.1 z.2.2.2 (by rw [gup_ne (by omega)]; exact hb18) (by rw [gup_ne (by omega), hb17]; exact z.2.2.2) (by rw [gup_ne (by omega), hrb.2 36 (by omega) (by omega) (by omega) (by omega)]; exact h36) ((hfr.trans hrb.h).up (by omega)) (by rw [gup_ne (by omega), hrb.1 800 (by omega)]; exact hA) (by rw [show gup Vb 801 (s.2.1.length : Int) (Vb 775 19) 801 (s.2.1.length : Int) = Vb 775 19 from gup_s]; exact (hbn z.2.2.1).1) (fun j j0 j1 => ⟨by rw [gup_ne (by omega), hrb.1 800 (by omega)]; exact (hold j j0 j1).1, by rw [gup_k (by omega), hrb.1 801 (by omega)]; exact (hold j j0 j1).2.1, by rw [gup_ne (by omega), hrb.1 802 (by omega)]; exact (hold j j0 j1).2.2⟩) (by rw [gup_ne (by omega), hrb.1 803 (by omega)]; exact h803) (fun k hk => by rw [gup_ne (by omega), hrb.2 k (by omega) (by omega) (by omega) (by omega)]; exact hkp k hk)
        · refine gX_aloadn dX12_takeFor_117 rfl ?_
          refine gX_iconst dX12_takeFor_118 ⟨by decide, by decide⟩ ?_
          refine gX_aloadn dX12_takeFor_119 rfl ?_
          refine gX_gI 20 dX12_takeFor_120 fdX12_182 rfl (Or.inl rfl) hM.1 ?_
          rw [show gup Vb 801 (s.2.1.length : Int) (Vb 775 19) 775 20 = (tkNum ys 0 63 (tkNum ys 0 63 s.1).2).2.2.1 by rw [gup_ne (by omega)]; exact (hbn z.2.2.1).2]
          refine gX_virt (J := iX12_fails) (av := [gi 3, gi ((tkNum ys 0 63 (tkNum ys 0 63 s.1).2).2.2.1)]) (a := 775) (st := []) dX12_takeFor_123 lkX12_178 kX12_fails vX12_fails (gFit_m (by decide)) hM.1 rfl rfl (Nat.le_of_ble_eq_true rfl) (Nat.zero_le _) (Nat.zero_le _) rfl ?_
          refine m_fails hM ?_
          show gX l E _ 126 [some (ga 775), some (gi ((tkNum ys 0 63 (tkNum ys 0 63 s.1).2).2.2.2.1)), k2] [gi 3] (K, R, gup (gup Vb 801 (s.2.1.length : Int) (Vb 775 19)) 775 17 (tkNum ys 0 63 (tkNum ys 0 63 s.1).2).2.2.1) _ _
          refine gX_goto (tgt := 130) dX12_takeFor_126 (by decide) ?_
          refine gX_istoren dX12_takeFor_130 (show (1 : Nat) < 3 from by decide) (ls2 := [some (ga 775), some (gi 3), k2]) rfl ?_
          have er : (rdFor ys s) = (0, hF 3 (tkNum ys 0 63 (tkNum ys 0 63 s.1).2).2.2.1 ((tkNum ys 0 63 (tkNum ys 0 63 s.1).2).2, s.2)) := by
            unfold rdFor rf3 rf2 rf1
            rw [if_neg (by omega), if_neg hnm, if_neg (by omega), if_pos (by omega)]
          exact tT 3 _ _ _ _ (by omega) (by rw [er]; rfl) (by rw [er]; exact gup_s) (by rw [gup_k (by omega), gup_ne (by omega), hrb.2 36 (by omega) (by omega) (by omega) (by omega)]; exact h36) (((hfr.trans hrb.h).up (by omega)).uf (by omega))
  refine gX_aloadn dX12_takeFor_0 rfl ?_
  refine gX_iconst dX12_takeFor_1 ⟨by decide, by decide⟩ ?_
  refine gX_bipush dX12_takeFor_2 (by decide) ⟨by decide, by decide⟩ ?_
  refine gX_virt (J := iX12_takeNumber) (av := [gi 0, gi 63]) (a := 775) (st := []) dX12_takeFor_4 lkX12_188 kX12_takeNumber vX12_takeNumber (gFit_m (by decide)) hM.1 rfl rfl (Nat.le_of_ble_eq_true rfl) (Nat.zero_le _) (Nat.zero_le _) rfl ?_
  refine m_takeNumber (t := s.1) hM ht hs.2.1 hs.2.2.1.1 hs.2.2.1.2 hs.2.2.2.1 (fun Va ha18 ha17 han hra => ?_)
  show gX l E _ 7 [some (ga 775), none, none] [gi ((tkNum ys 0 63 s.1).2.2.2.1)] (K, R, Va) _ _
  refine gX_istoren dX12_takeFor_7 (show (1 : Nat) < 3 from by decide) (ls2 := [some (ga 775), some (gi ((tkNum ys 0 63 s.1).2.2.2.1)), none]) rfl ?_
  refine gX_aloadn dX12_takeFor_8 rfl ?_
  refine gX_gR 37 dX12_takeFor_9 fdX12_86 rfl rfl hM.1 (mR37 hM) ?_
  refine gX_aloadn dX12_takeFor_12 rfl ?_
  refine gX_gI 36 dX12_takeFor_13 fdX12_242 rfl (Or.inl rfl) hM.1 ?_
  rw [show Va 775 36 = (s.2.1.length : Int) by rw [hra.2 36 (by omega) (by omega) (by omega) (by omega)]; exact hs.2.2.2.2.1]
  refine gX_aloadn dX12_takeFor_16 rfl ?_
  refine gX_gI 19 dX12_takeFor_17 fdX12_185 rfl (Or.inl rfl) hM.1 ?_
  refine gX_iast dX12_takeFor_20 (mA37 hM) (by omega) (by omega) ?_
  refine gX_iconst dX12_takeFor_21 ⟨by decide, by decide⟩ ?_
  refine gX_istoren dX12_takeFor_22 (show (2 : Nat) < 3 from by decide) (ls2 := [some (ga 775), some (gi ((tkNum ys 0 63 s.1).2.2.2.1)), some (gi 0)]) rfl ?_
  rcases hu1 with z | z
  · have er : (rdFor ys s) = (0, (tkNum ys 0 63 s.1).2, s.2) := by
      unfold rdFor rf3 rf2 rf1
      rw [if_pos z.1]
    refine gX_iloadn dX12_takeFor_23 rfl ?_
    refine gX_aloadn dX12_takeFor_24 rfl ?_
    refine gX_gI 36 dX12_takeFor_25 fdX12_242 rfl (Or.inl rfl) hM.1 ?_
    rw [show (gup Va 800 (s.2.1.length : Int) (Va 775 19)) 775 36 = (s.2.1.length : Int) by rw [gup_ne (by omega), hra.2 36 (by omega) (by omega) (by omega) (by omega)]; exact hs.2.2.2.2.1]
    refine gX_icmpge (tgt := 68) dX12_takeFor_28 (by decide) (fun f1 => ?_) (fun f1 => ?_)
    · exact tF _ _ _ _ _ (by omega) (by rw [er]) (by rw [er, gup_ne (by omega)]; exact ha17) (by rw [gup_ne (by omega), hra.2 36 (by omega) (by omega) (by omega) (by omega)]; exact hs.2.2.2.2.1) (hra.h.up (by omega))
    · refine gX_iloadn dX12_takeFor_31 rfl ?_
      refine gX_ifne (tgt := 68) dX12_takeFor_32 (by decide) (fun f2 => ?_) (fun f2 => ?_)
      · exact tF _ _ _ _ _ (by omega) (by rw [er]) (by rw [er, gup_ne (by omega)]; exact ha17) (by rw [gup_ne (by omega), hra.2 36 (by omega) (by omega) (by omega) (by omega)]; exact hs.2.2.2.2.1) (hra.h.up (by omega))
      · exfalso
        omega
  · rw [z.2.2.1]
    have l23 : ∀ (jj : Nat) (k : Int) (bc bs : Nat), (s.2.1.length : Int) - k < (jj : Int) → 0 ≤ k → k ≤ (s.2.1.length : Int) → (∀ j : Int, 0 ≤ j → j < k → lat s.2.1 j ≠ (tkNum ys 0 63 s.1).1) → gX l E (gFm E (d + 3) iX12_takeFor Q) 23 [some (ga 775), some (gi 0), some (gi k)] [] (K, R, gup Va 800 (s.2.1.length : Int) (Va 775 19)) bc bs := by
      intro jj
      induction jj with
      | zero =>
        intro k bc bs hj k0 k1 hno
        exfalso; omega
      | succ jj ih =>
        intro k bc bs hj k0 k1 hno
        refine gX_iloadn dX12_takeFor_23 rfl ?_
        refine gX_aloadn dX12_takeFor_24 rfl ?_
        refine gX_gI 36 dX12_takeFor_25 fdX12_242 rfl (Or.inl rfl) hM.1 ?_
        rw [show (gup Va 800 (s.2.1.length : Int) (Va 775 19)) 775 36 = (s.2.1.length : Int) by rw [gup_ne (by omega), hra.2 36 (by omega) (by omega) (by omega) (by omega)]; exact hs.2.2.2.2.1]
        refine gX_icmpge (tgt := 68) dX12_takeFor_28 (by decide) (fun s1 => ?_) (fun s1 => ?_)
        · have hnm : ¬ (tkNum ys 0 63 s.1).1 ∈ s.2.1 := fun z9 => by
            obtain ⟨j, j0, j1, e9⟩ := mem_lat.mp z9
            exact hno j j0 (by omega) e9
          exact t2 _ _ _ _ (by omega) hnm z.2.2.1 z.2.2.2 (by rw [gup_ne (by omega)]; exact ha18) (by rw [gup_ne (by omega), ha17]; exact z.2.2.2) (by rw [gup_ne (by omega), hra.2 36 (by omega) (by omega) (by omega) (by omega)]; exact hs.2.2.2.2.1) (hra.h.up (by omega)) (by rw [show (gup Va 800 (s.2.1.length : Int) (Va 775 19)) 800 (s.2.1.length : Int) = Va 775 19 from gup_s]; exact (han z.2.2.1).1) (fun j j0 j1 => ⟨by rw [gup_k (by omega), hra.1 800 (by omega)]; exact (hs.2.2.2.2.2.2.1 j j0 j1).1, by rw [gup_ne (by omega), hra.1 801 (by omega)]; exact (hs.2.2.2.2.2.2.1 j j0 j1).2.1, by rw [gup_ne (by omega), hra.1 802 (by omega)]; exact (hs.2.2.2.2.2.2.1 j j0 j1).2.2⟩) (by rw [gup_ne (by omega), hra.1 803 (by omega)]) (fun k hk => by rw [gup_ne (by omega), hra.2 k (by omega) (by omega) (by omega) (by omega)])
        · refine gX_iloadn dX12_takeFor_31 rfl ?_
          refine gX_ifne (tgt := 68) dX12_takeFor_32 (by decide) (fun s2 => by exfalso; omega) (fun s2 => ?_)
          refine gX_aloadn dX12_takeFor_35 rfl ?_
          refine gX_gR 37 dX12_takeFor_36 fdX12_86 rfl rfl hM.1 (mR37 hM) ?_
          refine gX_iloadn dX12_takeFor_39 rfl ?_
          refine gX_iald dX12_takeFor_40 (mA37 hM) (by omega) (by omega) ?_
          rw [show (gup Va 800 (s.2.1.length : Int) (Va 775 19)) 800 k = lat s.2.1 k by rw [gup_k (by omega), hra.1 800 (by omega)]; exact (hs.2.2.2.2.2.2.1 k (by omega) (by omega)).1]
          refine gX_aloadn dX12_takeFor_41 rfl ?_
          refine gX_gI 19 dX12_takeFor_42 fdX12_185 rfl (Or.inl rfl) hM.1 ?_
          rw [show (gup Va 800 (s.2.1.length : Int) (Va 775 19)) 775 19 = (tkNum ys 0 63 s.1).1 by rw [gup_ne (by omega)]; exact (han z.2.2.1).1]
          refine gX_icmpne (tgt := 60) dX12_takeFor_45 (by decide) (fun s3 => ?_) (fun s3 => ?_)
          · refine gX_iconst dX12_takeFor_60 ⟨by decide, by decide⟩ ?_
            refine gX_istoren dX12_takeFor_61 (show (1 : Nat) < 3 from by decide) (ls2 := [some (ga 775), some (gi 0), some (gi k)]) rfl ?_
            refine gX_iinc dX12_takeFor_62 rfl (show (2 : Nat) < 3 from by decide) ⟨by omega, by omega⟩ (ls2 := [some (ga 775), some (gi 0), some (gi (k + 1))]) rfl ?_
            refine gX_goto (tgt := 23) dX12_takeFor_65 (by decide) ?_
            exact ih (k + 1) _ _ (by omega) (by omega) (by omega) (fun j j0 j1 => by by_cases ej : j = k; (rw [ej]; omega); exact hno j j0 (by omega))
          · refine gX_aloadn dX12_takeFor_48 rfl ?_
            refine gX_iconst dX12_takeFor_49 ⟨by decide, by decide⟩ ?_
            refine gX_aloadn dX12_takeFor_50 rfl ?_
            refine gX_gI 20 dX12_takeFor_51 fdX12_182 rfl (Or.inl rfl) hM.1 ?_
            rw [show (gup Va 800 (s.2.1.length : Int) (Va 775 19)) 775 20 = (tkNum ys 0 63 s.1).2.2.1 by rw [gup_ne (by omega)]; exact (han z.2.2.1).2]
            refine gX_virt (J := iX12_fails) (av := [gi 3, gi ((tkNum ys 0 63 s.1).2.2.1)]) (a := 775) (st := []) dX12_takeFor_54 lkX12_178 kX12_fails vX12_fails (gFit_m (by decide)) hM.1 rfl rfl (Nat.le_of_ble_eq_true rfl) (Nat.zero_le _) (Nat.zero_le _) rfl ?_
            refine m_fails hM ?_
            show gX l E _ 57 [some (ga 775), some (gi 0), some (gi k)] [gi 3] (K, R, gup (gup Va 800 (s.2.1.length : Int) (Va 775 19)) 775 17 (tkNum ys 0 63 s.1).2.2.1) _ _
            refine gX_goto (tgt := 61) dX12_takeFor_57 (by decide) ?_
            refine gX_istoren dX12_takeFor_61 (show (1 : Nat) < 3 from by decide) (ls2 := [some (ga 775), some (gi 3), some (gi k)]) rfl ?_
            refine gX_iinc dX12_takeFor_62 rfl (show (2 : Nat) < 3 from by decide) ⟨by omega, by omega⟩ (ls2 := [some (ga 775), some (gi 3), some (gi (k + 1))]) rfl ?_
            refine gX_goto (tgt := 23) dX12_takeFor_65 (by decide) ?_
            have hmem : (tkNum ys 0 63 s.1).1 ∈ s.2.1 := mem_lat.mpr ⟨k, by omega, by omega, by omega⟩
            have er : (rdFor ys s) = (0, hF 3 (tkNum ys 0 63 s.1).2.2.1 ((tkNum ys 0 63 s.1).2, s.2)) := by
              unfold rdFor rf3 rf2 rf1
              rw [if_neg (by omega), if_pos hmem]
            refine gX_iloadn dX12_takeFor_23 rfl ?_
            refine gX_aloadn dX12_takeFor_24 rfl ?_
            refine gX_gI 36 dX12_takeFor_25 fdX12_242 rfl (Or.inl rfl) hM.1 ?_
            rw [show (gup (gup Va 800 (s.2.1.length : Int) (Va 775 19)) 775 17 (tkNum ys 0 63 s.1).2.2.1) 775 36 = (s.2.1.length : Int) by rw [gup_k (by omega), gup_ne (by omega), hra.2 36 (by omega) (by omega) (by omega) (by omega)]; exact hs.2.2.2.2.1]
            refine gX_icmpge (tgt := 68) dX12_takeFor_28 (by decide) (fun g1 => ?_) (fun g1 => ?_)
            · exact tF 3 _ _ _ _ (by omega) (by rw [er]; rfl) (by rw [er]; exact gup_s) (by rw [gup_k (by omega), gup_ne (by omega), hra.2 36 (by omega) (by omega) (by omega) (by omega)]; exact hs.2.2.2.2.1) ((hra.h.up (by omega)).uf (by omega))
            · refine gX_iloadn dX12_takeFor_31 rfl ?_
              refine gX_ifne (tgt := 68) dX12_takeFor_32 (by decide) (fun g2 => ?_) (fun g2 => by exfalso; omega)
              exact tF 3 _ _ _ _ (by omega) (by rw [er]; rfl) (by rw [er]; exact gup_s) (by rw [gup_k (by omega), gup_ne (by omega), hra.2 36 (by omega) (by omega) (by omega) (by omega)]; exact hs.2.2.2.2.1) ((hra.h.up (by omega)).uf (by omega))
    exact l23 (s.2.1.length + 1) 0 _ _ (by omega) (by omega) (by omega) (fun j j0 j1 => by omega)
end MD17
