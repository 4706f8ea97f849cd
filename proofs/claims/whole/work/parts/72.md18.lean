/-! The reference: a clause of a hand. Written by wip/whole/tools/mk_md18.py. -/
theorem hbO_rg (w : Int) : -1 ≤ hbO w ∧ hbO w ≤ 5 := by unfold hbO; (repeat' split) <;> omega
theorem wyO_rg (w : Int) : -1 ≤ wyO w ∧ wyO w ≤ 2 := by unfold wyO; (repeat' split) <;> omega
theorem rdFor_cs {ys : List Int} {s : hR} (hz : s.1.2.2.1 = 0 ∧ s.1.2.2.2 = -1) : ((rdFor ys s).1 = 0 ∧ 1 ≤ (rdFor ys s).2.1.2.2.1) ∨ ((rdFor ys s).1 = 1 ∧ (rdFor ys s).2.1.2.2.1 = 0) := by
  have u1 := tkNum_cs (ys := ys) (low := 0) (high := 63) (t := s.1) (by omega) hz
  unfold rdFor rf3 rf2 rf1
  rcases u1 with z | z
  · rw [if_pos z.1]; exact Or.inl ⟨rfl, by show 1 ≤ (tkNum ys 0 63 s.1).2.2.2.1; omega⟩
  · rw [if_neg (by omega)]
    split
    · exact Or.inl ⟨rfl, by show (1 : Int) ≤ 3; omega⟩
    · have u2 := tkNum_cs (ys := ys) (low := 0) (high := 63) (t := (tkNum ys 0 63 s.1).2) (by omega) ⟨z.2.2.1, z.2.2.2⟩
      rcases u2 with y | y
      · rw [if_pos y.1]; exact Or.inl ⟨rfl, by show 1 ≤ (tkNum ys 0 63 (tkNum ys 0 63 s.1).2).2.2.2.1; omega⟩
      · rw [if_neg (by omega)]
        split
        · exact Or.inl ⟨rfl, by show (1 : Int) ≤ 3; omega⟩
        · have u3 := tkNum_cs (ys := ys) (low := 1) (high := 99) (t := (tkNum ys 0 63 (tkNum ys 0 63 s.1).2).2) (by omega) ⟨y.2.2.1, y.2.2.2⟩
          rcases u3 with x | x
          · rw [if_pos x.1]; exact Or.inl ⟨rfl, by show 1 ≤ (tkNum ys 1 99 (tkNum ys 0 63 (tkNum ys 0 63 s.1).2).2).2.2.2.1; omega⟩
          · rw [if_neg (by omega)]; exact Or.inr ⟨rfl, x.2.2.1⟩
theorem rrH.k {V V' : Int → Int → Int} {q : gbH} (h : rrH V q) (h36 : V' 775 36 = V 775 36) (h41 : V' 775 41 = V 775 41) (h42 : V' 775 42 = V 775 42) (ha : ∀ a, 800 ≤ a → a ≤ 803 → V' a = V a) : rrH V' q := by
  unfold rrH
  rw [h36, h41, h42, ha 800 (by omega) (by omega), ha 801 (by omega) (by omega), ha 802 (by omega) (by omega), ha 803 (by omega) (by omega)]
  exact h
theorem hwF'.h {V V' : Int → Int → Int} (h : hwF' V V') : hRF V V' := ⟨fun a ha => h.1 a (by omega), fun k hk => h.2 k (by omega) (by omega) (by omega)⟩
section MD18
variable {l : Launch} {E : gE} {d : Nat} {K : List gK} {R V : Int → Int → Int} {Q : gQ} {ys : List Int} {s : hR}
set_option maxRecDepth 4000 in
theorem m_takeHabit (hM : mdK K R) (hs : hRl V ys s) (hsz : s.2.2.1.length = s.2.1.length ∧ s.2.2.2.1.length = s.2.1.length ∧ s.2.2.2.2.1.length = 6 ∧ ∀ j, -1 ≤ lat s.2.2.2.2.1 j) (hQ : ∀ V', ((rdCl ys s).2.1.2.2.1 = 0 → hRl V' ys (rdCl ys s).2) → V' 775 17 = (rdCl ys s).2.1.2.2.2 → hRF V V' → Q (some (gi (rdCl ys s).2.1.2.2.1)) (K, R, V')) : gC l E (d + 4) iX12_takeHabit [ga 775] (K, R, V) Q := by
  refine gC_of kX12_takeHabit (ls := [some (ga 775), none, none, none]) rfl (Nat.le_of_ble_eq_true rfl) ?_
  have hRFh : ∀ {A B : Int → Int → Int}, ((∀ a, a ≠ 775 → B a = A a) ∧ ∀ k, k ≠ 18 → B 775 k = A 775 k) → hRF A B := fun h => ⟨fun a ha => h.1 a (by omega), fun k hk => h.2 k (by omega)⟩
  have hyl := hs.1.2.1
  have hs00 := hs.2.2.1.1
  have hs01 := hs.2.2.1.2
  have hl4 := hs.2.2.2.2.2.1
  have hpk := pkB_in (ys := ys) hs.2.2.1.1 hs.2.2.1.2
  have hle := leF_sp (ys := ys) 321 (pkB ys s.1.1) (by omega) hpk.2
  have tF : ∀ (f : Int) (k1 k2 : Option gV) (V1 : Int → Int → Int) (bc bs : Nat), 0 < f → f = (rdCl ys s).2.1.2.2.1 → V1 775 17 = (rdCl ys s).2.1.2.2.2 → hRF V V1 → gX l E (gFm E (d + 4) iX12_takeHabit Q) 200 [some (ga 775), k1, k2, some (gi f)] [] (K, R, V1) bc bs := by
    intro f k1 k2 V1 bc bs hf0 hfe hfa hfr
    refine gX_iloadn dX12_takeHabit_200 rfl ?_
    refine gX_ifle (tgt := 206) dX12_takeHabit_201 (by decide) (fun t1 => ?_) (fun t1 => ?_)
    · exfalso
      omega
    · refine gX_iloadn dX12_takeHabit_204 rfl ?_
      refine gX_iret dX12_takeHabit_205 (Or.inl rfl) ?_
      rw [hfe]
      exact hQ V1 (fun z => by omega) hfa hfr
  have tS : ∀ (u : hR) (k1 k2 : Option gV) (V1 : Int → Int → Int) (bc bs : Nat), (rdCl ys s) = ((tkSig ys 59 u.1).1, (tkSig ys 59 u.1).2, u.2) → hRl V1 ys u → hRF V V1 → gX l E (gFm E (d + 4) iX12_takeHabit Q) 200 [some (ga 775), k1, k2, some (gi 0)] [] (K, R, V1) bc bs := by
    intro u k1 k2 V1 bc bs ecl hu hfr
    have hup := pkB_in (ys := ys) hu.2.2.1.1 hu.2.2.1.2
    have hyl := hu.1.2.1
    have hu00 := hu.2.2.1.1
    have hu01 := hu.2.2.1.2
    refine gX_iloadn dX12_takeHabit_200 rfl ?_
    refine gX_ifle (tgt := 206) dX12_takeHabit_201 (by decide) (fun v1 => ?_) (fun v1 => by exfalso; omega)
    refine gX_aloadn dX12_takeHabit_206 rfl ?_
    refine gX_virt (J := iX12_here) (av := []) (a := 775) (st := []) dX12_takeHabit_207 lkX12_170 kX12_here vX12_here (gFit_m (by decide)) hM.1 rfl rfl (Nat.le_of_ble_eq_true rfl) (Nat.zero_le _) (Nat.zero_le _) rfl ?_
    refine m_here hM hu.1 hu.2.1 hu.2.2.1.1 hu.2.2.1.2 (fun V2 h218 hf2 => ?_)
    show gX l E _ 210 [some (ga 775), k1, k2, some (gi 0)] [gi (lat ys (pkB ys u.1.1))] (K, R, V2) _ _
    refine gX_bipush dX12_takeHabit_210 (by decide) ⟨by decide, by decide⟩ ?_
    refine gX_icmpeq (tgt := 225) dX12_takeHabit_212 (by decide) (fun v2 => ?_) (fun v2 => ?_)
    · refine gX_aloadn dX12_takeHabit_225 rfl ?_
      refine gX_dup dX12_takeHabit_226 rfl ?_
      refine gX_gI 18 dX12_takeHabit_227 fdX12_167 rfl (Or.inl rfl) hM.1 ?_
      rw [h218]
      refine gX_iconst dX12_takeHabit_230 ⟨by decide, by decide⟩ ?_
      refine gX_iadd dX12_takeHabit_231 ⟨by omega, by omega⟩ ?_
      refine gX_pI 18 dX12_takeHabit_232 fdX12_167 fpX12_167 rfl (Or.inl rfl) hM.1 ?_
      refine gX_iconst dX12_takeHabit_235 ⟨by decide, by decide⟩ ?_
      refine gX_iret dX12_takeHabit_236 (Or.inl rfl) ?_
      have er : (rdCl ys s) = (1, ((pkB ys u.1.1) + 1, u.1.2.1, u.1.2.2.1, u.1.2.2.2), u.2) := by rw [ecl]; unfold tkSig; rw [if_pos (by omega)]
      have hlt : (pkB ys u.1.1) < ys.length := Decidable.byContradiction fun z => by rw [lat_out (by omega)] at *; omega
      rw [er, hu.2.2.2.1.1, hu.2.2.2.1.2.1] at hQ
      exact hQ _ (fun _ => ⟨(hu.1.h (hRFh hf2)).h (hRF.rf.uf (by omega)), gup_s, ⟨by show 0 ≤ (pkB ys u.1.1) + 1; omega, by show (pkB ys u.1.1) + 1 ≤ ys.length; omega⟩, ⟨rfl, rfl, by rw [gup_k (by omega), hf2.2 17 (by omega)]; exact hu.2.2.2.1.2.2⟩, hu.2.2.2.2.k (by rw [gup_k (by omega), hf2.2 36 (by omega)]) (by rw [gup_k (by omega), hf2.2 41 (by omega)]) (by rw [gup_k (by omega), hf2.2 42 (by omega)]) (fun a a0 a1 => by rw [gup_ne (by omega)]; exact hf2.1 a (by omega))⟩) (by rw [gup_k (by omega), hf2.2 17 (by omega)]; exact hu.2.2.2.1.2.2) ((hfr.trans (hRFh hf2)).uf (by omega))
    · refine gX_aloadn dX12_takeHabit_215 rfl ?_
      refine gX_iconst dX12_takeHabit_216 ⟨by decide, by decide⟩ ?_
      refine gX_aloadn dX12_takeHabit_217 rfl ?_
      refine gX_gI 18 dX12_takeHabit_218 fdX12_167 rfl (Or.inl rfl) hM.1 ?_
      rw [h218]
      refine gX_virt (J := iX12_fails) (av := [gi 1, gi (pkB ys u.1.1)]) (a := 775) (st := []) dX12_takeHabit_221 lkX12_178 kX12_fails vX12_fails (gFit_m (by decide)) hM.1 rfl rfl (Nat.le_of_ble_eq_true rfl) (Nat.zero_le _) (Nat.zero_le _) rfl ?_
      refine m_fails hM ?_
      show gX l E _ 224 [some (ga 775), k1, k2, some (gi 0)] [gi 1] (K, R, gup V2 775 17 (pkB ys u.1.1)) _ _
      refine gX_iret dX12_takeHabit_224 (Or.inl rfl) ?_
      have er : (rdCl ys s) = (0, ((pkB ys u.1.1), u.1.2.1, 1, (pkB ys u.1.1)), u.2) := by rw [ecl]; unfold tkSig; rw [if_neg (by omega)]
      rw [er] at hQ
      exact hQ _ (fun z => by have z9 : (1 : Int) = 0 := z; omega) gup_s ((hfr.trans (hRFh hf2)).uf (by omega))
  have tN : ∀ (u : hR) (k2 : Option gV) (V1 : Int → Int → Int) (bc bs : Nat), (1 ≤ (clN ys s) ∧ (clN ys s) ≤ 5) → (rdCl ys s) = (if (rhC ys (clN ys s) u).1 = 0 then (0, (rhC ys (clN ys s) u).2) else ((tkSig ys 59 (rhC ys (clN ys s) u).2.1).1, (tkSig ys 59 (rhC ys (clN ys s) u).2.1).2, (rhC ys (clN ys s) u).2.2)) → u.2.2.2.2.1.length = 6 → hRl V1 ys u → hRF V V1 → gX l E (gFm E (d + 4) iX12_takeHabit Q) 174 [some (ga 775), some (gi (clN ys s)), k2, some (gi 0)] [] (K, R, V1) bc bs := by
    intro u k2 V1 bc bs hc1 ecl hl6 hu hfr
    have hun := tkNum_cs (ys := ys) (low := 1) (high := 99) (t := u.1) (by omega) ⟨hu.2.2.2.1.1, hu.2.2.2.1.2.1⟩
    refine gX_iloadn dX12_takeHabit_174 rfl ?_
    refine gX_ifle (tgt := 182) dX12_takeHabit_175 (by decide) (fun n1 => ?_) (fun n1 => by exfalso; omega)
    refine gX_aloadn dX12_takeHabit_182 rfl ?_
    refine gX_iconst dX12_takeHabit_183 ⟨by decide, by decide⟩ ?_
    refine gX_bipush dX12_takeHabit_184 (by decide) ⟨by decide, by decide⟩ ?_
    refine gX_virt (J := iX12_takeNumber) (av := [gi 1, gi 99]) (a := 775) (st := []) dX12_takeHabit_186 lkX12_188 kX12_takeNumber vX12_takeNumber (gFit_m (by decide)) hM.1 rfl rfl (Nat.le_of_ble_eq_true rfl) (Nat.zero_le _) (Nat.zero_le _) rfl ?_
    refine m_takeNumber (t := u.1) hM hu.1 hu.2.1 hu.2.2.1.1 hu.2.2.1.2 hu.2.2.2.1 (fun Vc hc18 hc17 hcn hrc => ?_)
    show gX l E _ 189 [some (ga 775), some (gi (clN ys s)), k2, some (gi 0)] [gi ((tkNum ys 1 99 u.1).2.2.2.1)] (K, R, Vc) _ _
    refine gX_istoren dX12_takeHabit_189 (show (3 : Nat) < 4 from by decide) (ls2 := [some (ga 775), some (gi (clN ys s)), gkl k2, some (gi ((tkNum ys 1 99 u.1).2.2.2.1))]) rfl ?_
    refine gX_aloadn dX12_takeHabit_190 rfl ?_
    refine gX_gR 40 dX12_takeHabit_191 fdX12_95 rfl rfl hM.1 (mR40 hM) ?_
    refine gX_iloadn dX12_takeHabit_194 rfl ?_
    refine gX_aloadn dX12_takeHabit_195 rfl ?_
    refine gX_gI 19 dX12_takeHabit_196 fdX12_185 rfl (Or.inl rfl) hM.1 ?_
    refine gX_iast dX12_takeHabit_199 (mA40 hM) (by omega) (by omega) ?_
    rcases hun with z | z
    · have er : (rdCl ys s) = (0, (tkNum ys 1 99 u.1).2, u.2.1, u.2.2.1, u.2.2.2.1, lput u.2.2.2.2.1 (clN ys s) (tkNum ys 1 99 u.1).1, u.2.2.2.2.2) := by
        rw [ecl]
        unfold rhC
        rw [if_pos z.1, if_pos rfl]
      exact tF _ _ _ _ _ _ (by omega) (by rw [er]) (by rw [er, gup_ne (by omega)]; exact hc17) ((hfr.trans hrc.h).up (by omega))
    · rw [z.2.2.1]
      have er : (rdCl ys s) = ((tkSig ys 59 (tkNum ys 1 99 u.1).2).1, (tkSig ys 59 (tkNum ys 1 99 u.1).2).2, u.2.1, u.2.2.1, u.2.2.2.1, lput u.2.2.2.2.1 (clN ys s) (tkNum ys 1 99 u.1).1, u.2.2.2.2.2) := by
        rw [ecl]
        unfold rhC
        rw [if_neg (show ¬ (tkNum ys 1 99 u.1).1 = -1 by omega), if_neg (show ¬ (1 : Int) = 0 by omega)]
      refine tS ((tkNum ys 1 99 u.1).2, u.2.1, u.2.2.1, u.2.2.2.1, lput u.2.2.2.2.1 (clN ys s) (tkNum ys 1 99 u.1).1, u.2.2.2.2.2) _ _ _ _ _ er ⟨(hu.1.h hrc.h).h (hRF.rf.up (by omega)), by rw [gup_ne (by omega)]; exact hc18, tkNum_at hu.2.2.1.1 hu.2.2.1.2, ⟨z.2.2.1, z.2.2.2, by rw [gup_ne (by omega), hc17]; exact z.2.2.2⟩, ?_⟩ ((hfr.trans hrc.h).up (by omega))
      have hr9 := hu.2.2.2.2
      refine ⟨by rw [gup_ne (by omega), hrc.2 36 (by omega) (by omega) (by omega) (by omega)]; exact hr9.1, hr9.2.1, fun j j0 j1 => by rw [gup_ne (by omega), gup_ne (by omega), gup_ne (by omega), hrc.1 800 (by omega), hrc.1 801 (by omega), hrc.1 802 (by omega)]; exact hr9.2.2.1 j j0 j1, fun j j0 j1 => ?_, by rw [gup_ne (by omega), hrc.2 41 (by omega) (by omega) (by omega) (by omega)]; exact hr9.2.2.2.2.1, by rw [gup_ne (by omega), hrc.2 42 (by omega) (by omega) (by omega) (by omega)]; exact hr9.2.2.2.2.2⟩
      show _ = lat (lput u.2.2.2.2.1 (clN ys s) (tkNum ys 1 99 u.1).1) j
      rw [latP (by omega) (by omega) (by omega)]
      by_cases ej : j = (clN ys s)
      · rw [if_pos ej, ej, show gup _ 803 _ _ 803 _ = _ from gup_s]; exact (hcn z.2.2.1).1
      · rw [if_neg ej, gup_k ej, hrc.1 803 (by omega)]; exact hr9.2.2.2.1 j j0 j1
  refine gX_aloadn dX12_takeHabit_0 rfl ?_
  refine gX_virt (J := iX12_readWord) (av := []) (a := 775) (st := []) dX12_takeHabit_1 lkX12_282 kX12_readWord vX12_readWord (gFit_m (by decide)) hM.1 rfl rfl (Nat.le_of_ble_eq_true rfl) (Nat.zero_le _) (Nat.zero_le _) rfl ?_
  refine m_readWord hM hs.1 hs.2.1 hs.2.2.1.1 hs.2.2.1.2 (fun Va ha18 ha44 ha43 hal hfa => ?_)
  show gX l E _ 4 [some (ga 775), none, none, none] [] (K, R, Va) _ _
  refine gX_aloadn dX12_takeHabit_4 rfl ?_
  refine gX_virt (J := iX12_habitOf) (av := []) (a := 775) (st := []) dX12_takeHabit_5 lkX12_285 kX12_habitOf vX12_habitOf (gFit_m (by decide)) hM.1 rfl rfl (Nat.le_of_ble_eq_true rfl) (Nat.zero_le _) (Nat.zero_le _) rfl ?_
  refine m_habitOf hM ha43 ?_
  show gX l E _ 8 [some (ga 775), none, none, none] [gi (hbO (wc ys (pkB ys s.1.1) ((leF ys 321 (pkB ys s.1.1)) - (pkB ys s.1.1)).toNat))] (K, R, Va) _ _
  rw [show hbO (wc ys (pkB ys s.1.1) ((leF ys 321 (pkB ys s.1.1)) - (pkB ys s.1.1)).toNat) = (clN ys s) from (clT_h (t := (tkLet ys s.1)) (n := ((leF ys 321 (pkB ys s.1.1)) - (pkB ys s.1.1)).toNat) (by show (leF ys 321 (pkB ys s.1.1)) - (pkB ys s.1.1) = (((leF ys 321 (pkB ys s.1.1)) - (pkB ys s.1.1)).toNat : Int); omega) hal).symm]
  have hcr : -1 ≤ (clN ys s) ∧ (clN ys s) ≤ 5 := by unfold clN; rw [clT_h (t := (tkLet ys s.1)) (n := ((leF ys 321 (pkB ys s.1.1)) - (pkB ys s.1.1)).toNat) (by show (leF ys 321 (pkB ys s.1.1)) - (pkB ys s.1.1) = (((leF ys 321 (pkB ys s.1.1)) - (pkB ys s.1.1)).toNat : Int); omega) hal]; exact hbO_rg _
  refine gX_istoren dX12_takeHabit_8 (show (1 : Nat) < 4 from by decide) (ls2 := [some (ga 775), some (gi (clN ys s)), none, none]) rfl ?_
  refine gX_iloadn dX12_takeHabit_9 rfl ?_
  refine gX_ifne (tgt := 29) dX12_takeHabit_10 (by decide) (fun m1 => ?_) (fun m1 => ?_)
  · refine gX_iloadn dX12_takeHabit_29 rfl ?_
    refine gX_ifle (tgt := 46) dX12_takeHabit_30 (by decide) (fun m2 => ?_) (fun m2 => ?_)
    · refine gX_iconst dX12_takeHabit_46 ⟨by decide, by decide⟩ ?_
      refine gX_istoren dX12_takeHabit_47 (show (2 : Nat) < 4 from by decide) (ls2 := [some (ga 775), some (gi (clN ys s)), some (gi 0), none]) rfl ?_
      refine gX_iloadn dX12_takeHabit_48 rfl ?_
      refine gX_iflt (tgt := 56) dX12_takeHabit_49 (by decide) (fun m3 => ?_) (fun m3 => ?_)
      · refine gX_aloadn dX12_takeHabit_56 rfl ?_
        refine gX_iloadn dX12_takeHabit_57 rfl ?_
        refine gX_ifeq (tgt := 65) dX12_takeHabit_58 (by decide) (fun m4 => ?_) (fun m4 => by exfalso; omega)
        refine gX_iconst dX12_takeHabit_65 ⟨by decide, by decide⟩ ?_
        refine gX_aloadn dX12_takeHabit_66 rfl ?_
        refine gX_gI 18 dX12_takeHabit_67 fdX12_167 rfl (Or.inl rfl) hM.1 ?_
        rw [ha18]
        refine gX_virt (J := iX12_fails) (av := [gi 1, gi (pkB ys s.1.1)]) (a := 775) (st := []) dX12_takeHabit_70 lkX12_178 kX12_fails vX12_fails (gFit_m (by decide)) hM.1 rfl rfl (Nat.le_of_ble_eq_true rfl) (Nat.zero_le _) (Nat.zero_le _) rfl ?_
        refine m_fails hM ?_
        show gX l E _ 73 [some (ga 775), some (gi (clN ys s)), some (gi 0), none] [gi 1] (K, R, gup Va 775 17 (pkB ys s.1.1)) _ _
        refine gX_iret dX12_takeHabit_73 (Or.inl rfl) ?_
        have er : (rdCl ys s) = (0, hF 1 (pkB ys s.1.1) ((tkLet ys s.1), s.2)) := by
          unfold rdCl
          rw [if_pos (by omega)]
          rfl
        rw [er] at hQ
        exact hQ _ (fun z => by have z9 : (1 : Int) = 0 := z; omega) gup_s (hfa.h.uf (by omega))
      · refine gX_iloadn dX12_takeHabit_52 rfl ?_
        refine gX_ifeq (tgt := 74) dX12_takeHabit_53 (by decide) (fun m5 => ?_) (fun m5 => by exfalso; omega)
        refine gX_aloadn dX12_takeHabit_74 rfl ?_
        refine gX_aloadn dX12_takeHabit_75 rfl ?_
        refine gX_gI 44 dX12_takeHabit_76 fdX12_255 rfl (Or.inl rfl) hM.1 ?_
        rw [ha44]
        refine gX_pI 18 dX12_takeHabit_79 fdX12_167 fpX12_167 rfl (Or.inl rfl) hM.1 ?_
        refine gX_iconst dX12_takeHabit_82 ⟨by decide, by decide⟩ ?_
        refine gX_istoren dX12_takeHabit_83 (show (3 : Nat) < 4 from by decide) (ls2 := [some (ga 775), some (gi (clN ys s)), some (gi 0), some (gi 0)]) rfl ?_
        have hnr : ¬ noRm s.2.1 s.2.2.2.2.1 (clN ys s) = 1 := by
          unfold noRm
          first
          | (rw [if_pos (by omega), if_neg (by omega)]; decide)
          | (rw [if_neg (by omega), if_pos (by omega)]; decide)
        have er0 : (rdCl ys s) = (if (clR ys s).1 = 0 then (0, (clR ys s).2) else ((tkSig ys 59 (clR ys s).2.1).1, (tkSig ys 59 (clR ys s).2.1).2, (clR ys s).2.2)) := by
          unfold rdCl
          rw [if_neg (by omega), if_neg hnr]
        have hs1 : hRl (gup Va 775 18 (leF ys 321 (pkB ys s.1.1))) ys ((tkLet ys s.1), s.2) := ⟨(hs.1.h hfa.h).h (hRF.rf.uf (by omega)), gup_s, ⟨by show 0 ≤ (leF ys 321 (pkB ys s.1.1)); omega, by show (leF ys 321 (pkB ys s.1.1)) ≤ ys.length; omega⟩, ⟨hs.2.2.2.1.1, hs.2.2.2.1.2.1, by rw [gup_k (by omega), hfa.2 17 (by omega) (by omega) (by omega)]; exact hs.2.2.2.1.2.2⟩, hs.2.2.2.2.k (by rw [gup_k (by omega), hfa.2 36 (by omega) (by omega) (by omega)]) (by rw [gup_k (by omega), hfa.2 41 (by omega) (by omega) (by omega)]) (by rw [gup_k (by omega), hfa.2 42 (by omega) (by omega) (by omega)]) (fun a a0 a1 => by rw [gup_ne (by omega)]; exact hfa.1 a (by omega))⟩
        have hfs : hRF V (gup Va 775 18 (leF ys 321 (pkB ys s.1.1))) := hfa.h.uf (by omega)
        by_cases hc0 : (clN ys s) = 0
        · have ecr : clR ys s = (rdFor ys ((tkLet ys s.1), s.2)) := if_pos hc0
          rw [ecr] at er0
          have hcs := rdFor_cs (ys := ys) (s := ((tkLet ys s.1), s.2)) ⟨hs.2.2.2.1.1, hs.2.2.2.1.2.1⟩
          refine gX_iloadn dX12_takeHabit_84 rfl ?_
          refine gX_ifne (tgt := 96) dX12_takeHabit_85 (by decide) (fun f1 => ?_) (fun f1 => ?_)
          · exfalso
            omega
          · refine gX_aloadn dX12_takeHabit_88 rfl ?_
            refine gX_virt (J := iX12_takeFor) (av := []) (a := 775) (st := []) dX12_takeHabit_89 lkX12_288 kX12_takeFor vX12_takeFor (gFit_m (by decide)) hM.1 rfl rfl (Nat.le_of_ble_eq_true rfl) (Nat.zero_le _) (Nat.zero_le _) rfl ?_
            refine m_takeFor hM hs1 (by show s.2.1.length < 4; omega) hsz.1 hsz.2.1 (fun Vf hok hff hfrf => ?_)
            show gX l E _ 92 [some (ga 775), some (gi (clN ys s)), some (gi 0), some (gi 0)] [gi ((rdFor ys ((tkLet ys s.1), s.2)).2.1.2.2.1)] (K, R, Vf) _ _
            refine gX_istoren dX12_takeHabit_92 (show (3 : Nat) < 4 from by decide) (ls2 := [some (ga 775), some (gi (clN ys s)), some (gi 0), some (gi ((rdFor ys ((tkLet ys s.1), s.2)).2.1.2.2.1))]) rfl ?_
            refine gX_goto (tgt := 200) dX12_takeHabit_93 (by decide) ?_
            rcases hcs with z | z
            · rw [if_pos z.1] at er0
              exact tF _ _ _ _ _ _ (by omega) (by rw [er0]) (by rw [er0]; exact hff) (hfs.trans hfrf)
            · rw [if_neg (by omega)] at er0
              rw [z.2]
              exact tS (rdFor ys ((tkLet ys s.1), s.2)).2 _ _ _ _ _ er0 (hok z.2) (hfs.trans hfrf)
        by_cases hc1 : (clN ys s) = 1
        · have hud := tkNum_cs (ys := ys) (low := 1) (high := 20) (t := (tkLet ys s.1)) (by omega) ⟨hs.2.2.2.1.1, hs.2.2.2.1.2.1⟩
          have erh : rh1 ys (clN ys s) ((tkLet ys s.1), s.2) = ((tkNum ys 1 20 (tkLet ys s.1)).2, s.2.1, s.2.2.1, s.2.2.2.1, s.2.2.2.2.1, (tkNum ys 1 20 (tkLet ys s.1)).1, s.2.2.2.2.2.2) := if_pos hc1
          refine gX_iloadn dX12_takeHabit_84 rfl ?_
          refine gX_ifne (tgt := 96) dX12_takeHabit_85 (by decide) (fun k1 => ?_) (fun k1 => ?_)
          · refine gX_iloadn dX12_takeHabit_96 rfl ?_
            refine gX_iconst dX12_takeHabit_97 ⟨by decide, by decide⟩ ?_
            refine gX_icmpne (tgt := 117) dX12_takeHabit_98 (by decide) (fun k2 => ?_) (fun k2 => ?_)
            · refine gX_iloadn dX12_takeHabit_117 rfl ?_
              refine gX_iconst dX12_takeHabit_118 ⟨by decide, by decide⟩ ?_
              refine gX_icmpne (tgt := 174) dX12_takeHabit_119 (by decide) (fun k3 => ?_) (fun k3 => ?_)
              · exfalso
                omega
              · exfalso
                omega
            · refine gX_aloadn dX12_takeHabit_101 rfl ?_
              refine gX_iconst dX12_takeHabit_102 ⟨by decide, by decide⟩ ?_
              refine gX_bipush dX12_takeHabit_103 (by decide) ⟨by decide, by decide⟩ ?_
              refine gX_virt (J := iX12_takeNumber) (av := [gi 1, gi 20]) (a := 775) (st := []) dX12_takeHabit_105 lkX12_188 kX12_takeNumber vX12_takeNumber (gFit_m (by decide)) hM.1 rfl rfl (Nat.le_of_ble_eq_true rfl) (Nat.zero_le _) (Nat.zero_le _) rfl ?_
              refine m_takeNumber (t := (tkLet ys s.1)) hM hs1.1 hs1.2.1 hs1.2.2.1.1 hs1.2.2.1.2 hs1.2.2.2.1 (fun Vd hd18 hd17 hdn hrd => ?_)
              show gX l E _ 108 [some (ga 775), some (gi (clN ys s)), some (gi 0), some (gi 0)] [gi ((tkNum ys 1 20 (tkLet ys s.1)).2.2.2.1)] (K, R, Vd) _ _
              refine gX_istoren dX12_takeHabit_108 (show (3 : Nat) < 4 from by decide) (ls2 := [some (ga 775), some (gi (clN ys s)), some (gi 0), some (gi ((tkNum ys 1 20 (tkLet ys s.1)).2.2.2.1))]) rfl ?_
              refine gX_aloadn dX12_takeHabit_109 rfl ?_
              refine gX_aloadn dX12_takeHabit_110 rfl ?_
              refine gX_gI 19 dX12_takeHabit_111 fdX12_185 rfl (Or.inl rfl) hM.1 ?_
              refine gX_pI 41 dX12_takeHabit_114 fdX12_245 fpX12_245 rfl (Or.inl rfl) hM.1 ?_
              refine gX_iloadn dX12_takeHabit_117 rfl ?_
              refine gX_iconst dX12_takeHabit_118 ⟨by decide, by decide⟩ ?_
              refine gX_icmpne (tgt := 174) dX12_takeHabit_119 (by decide) (fun k4 => ?_) (fun k4 => ?_)
              · rcases hud with z | z
                · have er : (rdCl ys s) = (0, ((tkNum ys 1 20 (tkLet ys s.1)).2, s.2.1, s.2.2.1, s.2.2.2.1, s.2.2.2.2.1, (tkNum ys 1 20 (tkLet ys s.1)).1, s.2.2.2.2.2.2)) := by
                    rw [er0]
                    have e5 : clR ys s = (0, ((tkNum ys 1 20 (tkLet ys s.1)).2, s.2.1, s.2.2.1, s.2.2.2.1, s.2.2.2.2.1, (tkNum ys 1 20 (tkLet ys s.1)).1, s.2.2.2.2.2.2)) := by
                      unfold clR rdHab
                      rw [if_neg (by omega), if_pos ⟨hc1, by rw [erh]; exact z.1⟩, erh]
                    rw [e5, if_pos rfl]
                  refine gX_iloadn dX12_takeHabit_174 rfl ?_
                  refine gX_ifle (tgt := 182) dX12_takeHabit_175 (by decide) (fun q1 => ?_) (fun q1 => ?_)
                  · exfalso
                    omega
                  · refine gX_iloadn dX12_takeHabit_178 rfl ?_
                    refine gX_goto (tgt := 189) dX12_takeHabit_179 (by decide) ?_
                    refine gX_istoren dX12_takeHabit_189 (show (3 : Nat) < 4 from by decide) (ls2 := [some (ga 775), some (gi (clN ys s)), some (gi 0), some (gi ((tkNum ys 1 20 (tkLet ys s.1)).2.2.2.1))]) rfl ?_
                    refine gX_aloadn dX12_takeHabit_190 rfl ?_
                    refine gX_gR 40 dX12_takeHabit_191 fdX12_95 rfl rfl hM.1 (mR40 hM) ?_
                    refine gX_iloadn dX12_takeHabit_194 rfl ?_
                    refine gX_aloadn dX12_takeHabit_195 rfl ?_
                    refine gX_gI 19 dX12_takeHabit_196 fdX12_185 rfl (Or.inl rfl) hM.1 ?_
                    refine gX_iast dX12_takeHabit_199 (mA40 hM) (by omega) (by omega) ?_
                    exact tF _ _ _ _ _ _ (by omega) (by rw [er]) (by rw [er, gup_ne (by omega), gup_k (by omega)]; exact hd17) (((hfs.trans hrd.h).uf (by omega)).up (by omega))
                · rw [z.2.2.1]
                  refine tN ((tkNum ys 1 20 (tkLet ys s.1)).2, s.2.1, s.2.2.1, s.2.2.2.1, s.2.2.2.2.1, (tkNum ys 1 20 (tkLet ys s.1)).1, s.2.2.2.2.2.2) _ _ _ _ ⟨by omega, by omega⟩ ?_ hsz.2.2.1 ⟨(hs1.1.h hrd.h).h (hRF.rf.uf (by omega)), by rw [gup_k (by omega)]; exact hd18, tkNum_at hs1.2.2.1.1 hs1.2.2.1.2, ⟨z.2.2.1, z.2.2.2, by rw [gup_k (by omega), hd17]; exact z.2.2.2⟩, ?_⟩ ((hfs.trans hrd.h).uf (by omega))
                  · rw [er0]
                    have e5 : clR ys s = rhC ys (clN ys s) ((tkNum ys 1 20 (tkLet ys s.1)).2, s.2.1, s.2.2.1, s.2.2.2.1, s.2.2.2.2.1, (tkNum ys 1 20 (tkLet ys s.1)).1, s.2.2.2.2.2.2) := by
                      unfold clR rdHab
                      rw [if_neg (by omega), if_neg (fun y => by have y2 := y.2; rw [erh] at y2; have y3 : (tkNum ys 1 20 (tkLet ys s.1)).1 = -1 := y2; omega), if_neg (fun y => by omega), erh]
                    rw [e5]
                  · have hr9 := hs1.2.2.2.2
                    exact ⟨by rw [gup_k (by omega), hrd.2 36 (by omega) (by omega) (by omega) (by omega)]; exact hr9.1, hr9.2.1, fun j j0 j1 => by rw [gup_ne (by omega), gup_ne (by omega), gup_ne (by omega), hrd.1 800 (by omega), hrd.1 801 (by omega), hrd.1 802 (by omega)]; exact hr9.2.2.1 j j0 j1, fun j j0 j1 => by rw [gup_ne (by omega), hrd.1 803 (by omega)]; exact hr9.2.2.2.1 j j0 j1, by rw [show gup _ 775 41 _ 775 41 = _ from gup_s]; exact (hdn z.2.2.1).1, by rw [gup_k (by omega), hrd.2 42 (by omega) (by omega) (by omega) (by omega)]; exact hr9.2.2.2.2.2⟩
              · exfalso
                omega
          · exfalso
            omega
        by_cases hc3 : (clN ys s) = 3
        · have erh : rh1 ys (clN ys s) ((tkLet ys s.1), s.2) = ((tkLet ys (tkLet ys s.1)), s.2.1, s.2.2.1, s.2.2.2.1, s.2.2.2.2.1, s.2.2.2.2.2.1, (clT ys (tkLet ys (tkLet ys s.1)) 6 3 0)) := (if_neg (by omega)).trans (if_pos hc3)
          have hle2 := leF_sp (ys := ys) 321 (pkB ys (leF ys 321 (pkB ys s.1.1))) (by have := pkB_in (ys := ys) (a := (leF ys 321 (pkB ys s.1.1))) (by omega) (by omega); omega) (pkB_in (ys := ys) (a := (leF ys 321 (pkB ys s.1.1))) (by omega) (by omega)).2
          have hp22 := pkB_in (ys := ys) (a := (leF ys 321 (pkB ys s.1.1))) (by omega) (by omega)
          refine gX_iloadn dX12_takeHabit_84 rfl ?_
          refine gX_ifne (tgt := 96) dX12_takeHabit_85 (by decide) (fun i1 => ?_) (fun i1 => ?_)
          · refine gX_iloadn dX12_takeHabit_96 rfl ?_
            refine gX_iconst dX12_takeHabit_97 ⟨by decide, by decide⟩ ?_
            refine gX_icmpne (tgt := 117) dX12_takeHabit_98 (by decide) (fun i2 => ?_) (fun i2 => ?_)
            · refine gX_iloadn dX12_takeHabit_117 rfl ?_
              refine gX_iconst dX12_takeHabit_118 ⟨by decide, by decide⟩ ?_
              refine gX_icmpne (tgt := 174) dX12_takeHabit_119 (by decide) (fun i3 => ?_) (fun i3 => ?_)
              · exfalso
                omega
              · refine gX_aloadn dX12_takeHabit_122 rfl ?_
                refine gX_virt (J := iX12_readWord) (av := []) (a := 775) (st := []) dX12_takeHabit_123 lkX12_282 kX12_readWord vX12_readWord (gFit_m (by decide)) hM.1 rfl rfl (Nat.le_of_ble_eq_true rfl) (Nat.zero_le _) (Nat.zero_le _) rfl ?_
                refine m_readWord hM hs1.1 hs1.2.1 hs1.2.2.1.1 hs1.2.2.1.2 (fun Vw hw18 hw44 hw43 hwl hfw => ?_)
                show gX l E _ 126 [some (ga 775), some (gi (clN ys s)), some (gi 0), some (gi 0)] [] (K, R, Vw) _ _
                refine gX_aloadn dX12_takeHabit_126 rfl ?_
                refine gX_aloadn dX12_takeHabit_127 rfl ?_
                refine gX_virt (J := iX12_wayOf) (av := []) (a := 775) (st := [ga 775]) dX12_takeHabit_128 lkX12_291 kX12_wayOf vX12_wayOf (gFit_m (by decide)) hM.1 rfl rfl (Nat.le_of_ble_eq_true rfl) (Nat.zero_le _) (Nat.zero_le _) rfl ?_
                refine m_wayOf hM hw43 ?_
                show gX l E _ 131 [some (ga 775), some (gi (clN ys s)), some (gi 0), some (gi 0)] [gi (wyO (wc ys (pkB ys (leF ys 321 (pkB ys s.1.1))) ((leF ys 321 (pkB ys (leF ys 321 (pkB ys s.1.1)))) - (pkB ys (leF ys 321 (pkB ys s.1.1)))).toNat)), ga 775] (K, R, Vw) _ _
                rw [show wyO (wc ys (pkB ys (leF ys 321 (pkB ys s.1.1))) ((leF ys 321 (pkB ys (leF ys 321 (pkB ys s.1.1)))) - (pkB ys (leF ys 321 (pkB ys s.1.1)))).toNat) = (clT ys (tkLet ys (tkLet ys s.1)) 6 3 0) from (clT_w (t := (tkLet ys (tkLet ys s.1))) (n := ((leF ys 321 (pkB ys (leF ys 321 (pkB ys s.1.1)))) - (pkB ys (leF ys 321 (pkB ys s.1.1)))).toNat) (by show (leF ys 321 (pkB ys (leF ys 321 (pkB ys s.1.1)))) - (pkB ys (leF ys 321 (pkB ys s.1.1))) = (((leF ys 321 (pkB ys (leF ys 321 (pkB ys s.1.1)))) - (pkB ys (leF ys 321 (pkB ys s.1.1)))).toNat : Int); omega) hwl).symm]
                have hwr : -1 ≤ (clT ys (tkLet ys (tkLet ys s.1)) 6 3 0) ∧ (clT ys (tkLet ys (tkLet ys s.1)) 6 3 0) ≤ 2 := by rw [clT_w (t := (tkLet ys (tkLet ys s.1))) (n := ((leF ys 321 (pkB ys (leF ys 321 (pkB ys s.1.1)))) - (pkB ys (leF ys 321 (pkB ys s.1.1)))).toNat) (by show (leF ys 321 (pkB ys (leF ys 321 (pkB ys s.1.1)))) - (pkB ys (leF ys 321 (pkB ys s.1.1))) = (((leF ys 321 (pkB ys (leF ys 321 (pkB ys s.1.1)))) - (pkB ys (leF ys 321 (pkB ys s.1.1)))).toNat : Int); omega) hwl]; exact wyO_rg _
                refine gX_pI 42 dX12_takeHabit_131 fdX12_248 fpX12_248 rfl (Or.inl rfl) hM.1 ?_
                refine gX_aloadn dX12_takeHabit_134 rfl ?_
                refine gX_gI 42 dX12_takeHabit_135 fdX12_248 rfl (Or.inl rfl) hM.1 ?_
                rw [show (gup Vw 775 42 (clT ys (tkLet ys (tkLet ys s.1)) 6 3 0)) 775 42 = (clT ys (tkLet ys (tkLet ys s.1)) 6 3 0) from gup_s]
                refine gX_ifge (tgt := 153) dX12_takeHabit_138 (by decide) (fun i4 => ?_) (fun i4 => ?_)
                · refine gX_iconst dX12_takeHabit_153 ⟨by decide, by decide⟩ ?_
                  refine gX_istoren dX12_takeHabit_154 (show (3 : Nat) < 4 from by decide) (ls2 := [some (ga 775), some (gi (clN ys s)), some (gi 0), some (gi 0)]) rfl ?_
                  refine gX_aloadn dX12_takeHabit_155 rfl ?_
                  refine gX_iloadn dX12_takeHabit_156 rfl ?_
                  refine gX_ifle (tgt := 167) dX12_takeHabit_157 (by decide) (fun i5 => ?_) (fun i5 => by exfalso; omega)
                  refine gX_aloadn dX12_takeHabit_167 rfl ?_
                  refine gX_gI 44 dX12_takeHabit_168 fdX12_255 rfl (Or.inl rfl) hM.1 ?_
                  rw [show (gup Vw 775 42 (clT ys (tkLet ys (tkLet ys s.1)) 6 3 0)) 775 44 = (leF ys 321 (pkB ys (leF ys 321 (pkB ys s.1.1)))) by rw [gup_k (by omega)]; exact hw44]
                  refine gX_pI 18 dX12_takeHabit_171 fdX12_167 fpX12_167 rfl (Or.inl rfl) hM.1 ?_
                  refine tN ((tkLet ys (tkLet ys s.1)), s.2.1, s.2.2.1, s.2.2.2.1, s.2.2.2.2.1, s.2.2.2.2.2.1, (clT ys (tkLet ys (tkLet ys s.1)) 6 3 0)) _ _ _ _ ⟨by omega, by omega⟩ ?_ hsz.2.2.1 ⟨((hs1.1.h hfw.h).h (hRF.rf.uf (k := 42) (by omega))).h (hRF.rf.uf (by omega)), gup_s, ⟨by show 0 ≤ (leF ys 321 (pkB ys (leF ys 321 (pkB ys s.1.1)))); omega, by show (leF ys 321 (pkB ys (leF ys 321 (pkB ys s.1.1)))) ≤ ys.length; omega⟩, ⟨hs.2.2.2.1.1, hs.2.2.2.1.2.1, by rw [gup_k (by omega), gup_k (by omega), hfw.2 17 (by omega) (by omega) (by omega)]; exact hs1.2.2.2.1.2.2⟩, ?_⟩ (((hfs.trans hfw.h).uf (by omega)).uf (by omega))
                  · rw [er0]
                    have e5 : clR ys s = rhC ys (clN ys s) ((tkLet ys (tkLet ys s.1)), s.2.1, s.2.2.1, s.2.2.2.1, s.2.2.2.2.1, s.2.2.2.2.2.1, (clT ys (tkLet ys (tkLet ys s.1)) 6 3 0)) := by
                      unfold clR rdHab
                      rw [if_neg (by omega), if_neg (fun y => by omega), if_neg (fun y => by have y2 := y.2; rw [erh] at y2; have y3 : (clT ys (tkLet ys (tkLet ys s.1)) 6 3 0) = -1 := y2; omega), erh]
                    rw [e5]
                  · have hr9 := hs1.2.2.2.2
                    exact ⟨by rw [gup_k (by omega), gup_k (by omega), hfw.2 36 (by omega) (by omega) (by omega)]; exact hr9.1, hr9.2.1, fun j j0 j1 => by rw [gup_ne (by omega), gup_ne (by omega), gup_ne (by omega), gup_ne (by omega), gup_ne (by omega), gup_ne (by omega), hfw.1 800 (by omega), hfw.1 801 (by omega), hfw.1 802 (by omega)]; exact hr9.2.2.1 j j0 j1, fun j j0 j1 => by rw [gup_ne (by omega), gup_ne (by omega), hfw.1 803 (by omega)]; exact hr9.2.2.2.1 j j0 j1, by rw [gup_k (by omega), gup_k (by omega), hfw.2 41 (by omega) (by omega) (by omega)]; exact hr9.2.2.2.2.1, by rw [gup_k (by omega)]; exact gup_s⟩
                · refine gX_aloadn dX12_takeHabit_141 rfl ?_
                  refine gX_iconst dX12_takeHabit_142 ⟨by decide, by decide⟩ ?_
                  refine gX_aloadn dX12_takeHabit_143 rfl ?_
                  refine gX_gI 18 dX12_takeHabit_144 fdX12_167 rfl (Or.inl rfl) hM.1 ?_
                  rw [show (gup Vw 775 42 (clT ys (tkLet ys (tkLet ys s.1)) 6 3 0)) 775 18 = (pkB ys (leF ys 321 (pkB ys s.1.1))) by rw [gup_k (by omega)]; exact hw18]
                  refine gX_virt (J := iX12_fails) (av := [gi 1, gi (pkB ys (leF ys 321 (pkB ys s.1.1)))]) (a := 775) (st := []) dX12_takeHabit_147 lkX12_178 kX12_fails vX12_fails (gFit_m (by decide)) hM.1 rfl rfl (Nat.le_of_ble_eq_true rfl) (Nat.zero_le _) (Nat.zero_le _) rfl ?_
                  refine m_fails hM ?_
                  show gX l E _ 150 [some (ga 775), some (gi (clN ys s)), some (gi 0), some (gi 0)] [gi 1] (K, R, gup (gup Vw 775 42 (clT ys (tkLet ys (tkLet ys s.1)) 6 3 0)) 775 17 (pkB ys (leF ys 321 (pkB ys s.1.1)))) _ _
                  refine gX_goto (tgt := 154) dX12_takeHabit_150 (by decide) ?_
                  refine gX_istoren dX12_takeHabit_154 (show (3 : Nat) < 4 from by decide) (ls2 := [some (ga 775), some (gi (clN ys s)), some (gi 0), some (gi 1)]) rfl ?_
                  refine gX_aloadn dX12_takeHabit_155 rfl ?_
                  refine gX_iloadn dX12_takeHabit_156 rfl ?_
                  refine gX_ifle (tgt := 167) dX12_takeHabit_157 (by decide) (fun i6 => by exfalso; omega) (fun i6 => ?_)
                  refine gX_aloadn dX12_takeHabit_160 rfl ?_
                  refine gX_gI 18 dX12_takeHabit_161 fdX12_167 rfl (Or.inl rfl) hM.1 ?_
                  rw [show gup (gup Vw 775 42 (clT ys (tkLet ys (tkLet ys s.1)) 6 3 0)) 775 17 (pkB ys (leF ys 321 (pkB ys s.1.1))) 775 18 = (pkB ys (leF ys 321 (pkB ys s.1.1))) by rw [gup_k (by omega), gup_k (by omega)]; exact hw18]
                  refine gX_goto (tgt := 171) dX12_takeHabit_164 (by decide) ?_
                  refine gX_pI 18 dX12_takeHabit_171 fdX12_167 fpX12_167 rfl (Or.inl rfl) hM.1 ?_
                  have er : (rdCl ys s) = (0, hF 1 (pkB ys (leF ys 321 (pkB ys s.1.1))) ((tkLet ys (tkLet ys s.1)), s.2.1, s.2.2.1, s.2.2.2.1, s.2.2.2.2.1, s.2.2.2.2.2.1, (clT ys (tkLet ys (tkLet ys s.1)) 6 3 0))) := by
                    rw [er0]
                    have e5 : clR ys s = (0, hF 1 (pkB ys (leF ys 321 (pkB ys s.1.1))) ((tkLet ys (tkLet ys s.1)), s.2.1, s.2.2.1, s.2.2.2.1, s.2.2.2.2.1, s.2.2.2.2.2.1, (clT ys (tkLet ys (tkLet ys s.1)) 6 3 0))) := by
                      unfold clR rdHab
                      rw [if_neg (by omega), if_neg (fun y => by omega), if_pos ⟨hc3, by rw [erh]; show (clT ys (tkLet ys (tkLet ys s.1)) 6 3 0) = -1; omega⟩, erh]
                      rfl
                    rw [e5, if_pos rfl]
                  refine gX_iloadn dX12_takeHabit_174 rfl ?_
                  refine gX_ifle (tgt := 182) dX12_takeHabit_175 (by decide) (fun j1 => by exfalso; omega) (fun j1 => ?_)
                  refine gX_iloadn dX12_takeHabit_178 rfl ?_
                  refine gX_goto (tgt := 189) dX12_takeHabit_179 (by decide) ?_
                  refine gX_istoren dX12_takeHabit_189 (show (3 : Nat) < 4 from by decide) (ls2 := [some (ga 775), some (gi (clN ys s)), some (gi 0), some (gi 1)]) rfl ?_
                  refine gX_aloadn dX12_takeHabit_190 rfl ?_
                  refine gX_gR 40 dX12_takeHabit_191 fdX12_95 rfl rfl hM.1 (mR40 hM) ?_
                  refine gX_iloadn dX12_takeHabit_194 rfl ?_
                  refine gX_aloadn dX12_takeHabit_195 rfl ?_
                  refine gX_gI 19 dX12_takeHabit_196 fdX12_185 rfl (Or.inl rfl) hM.1 ?_
                  refine gX_iast dX12_takeHabit_199 (mA40 hM) (by omega) (by omega) ?_
                  exact tF _ _ _ _ _ _ (by omega) (by rw [er]; rfl) (by rw [er, gup_ne (by omega), gup_k (by omega)]; exact gup_s) (((((hfs.trans hfw.h).uf (by omega)).uf (by omega)).uf (by omega)).up (by omega))
            · exfalso
              omega
          · exfalso
            omega
        have erh : rh1 ys (clN ys s) ((tkLet ys s.1), s.2) = ((tkLet ys s.1), s.2) := (if_neg (by omega)).trans (if_neg (by omega))
        refine gX_iloadn dX12_takeHabit_84 rfl ?_
        refine gX_ifne (tgt := 96) dX12_takeHabit_85 (by decide) (fun o1 => ?_) (fun o1 => ?_)
        · refine gX_iloadn dX12_takeHabit_96 rfl ?_
          refine gX_iconst dX12_takeHabit_97 ⟨by decide, by decide⟩ ?_
          refine gX_icmpne (tgt := 117) dX12_takeHabit_98 (by decide) (fun o2 => ?_) (fun o2 => ?_)
          · refine gX_iloadn dX12_takeHabit_117 rfl ?_
            refine gX_iconst dX12_takeHabit_118 ⟨by decide, by decide⟩ ?_
            refine gX_icmpne (tgt := 174) dX12_takeHabit_119 (by decide) (fun o3 => ?_) (fun o3 => ?_)
            · refine tN ((tkLet ys s.1), s.2) _ _ _ _ ⟨by omega, by omega⟩ ?_ hsz.2.2.1 hs1 hfs
              rw [er0]
              have e5 : clR ys s = rhC ys (clN ys s) ((tkLet ys s.1), s.2) := by
                unfold clR rdHab
                rw [if_neg (by omega), if_neg (fun y => by omega), if_neg (fun y => by omega), erh]
              rw [e5]
            · exfalso
              omega
          · exfalso
            omega
        · exfalso
          omega
    · refine gX_aloadn dX12_takeHabit_33 rfl ?_
      refine gX_gR 40 dX12_takeHabit_34 fdX12_95 rfl rfl hM.1 (mR40 hM) ?_
      refine gX_iloadn dX12_takeHabit_37 rfl ?_
      refine gX_iald dX12_takeHabit_38 (mA40 hM) (by omega) (by omega) ?_
      rw [show Va 803 (clN ys s) = lat s.2.2.2.2.1 (clN ys s) by rw [hfa.1 803 (by omega)]; exact hs.2.2.2.2.2.2.2.1 (clN ys s) (by omega) (by omega)]
      have hea9 := hsz.2.2.2 (clN ys s)
      refine gX_iflt (tgt := 46) dX12_takeHabit_39 (by decide) (fun m6 => ?_) (fun m6 => ?_)
      · refine gX_iconst dX12_takeHabit_46 ⟨by decide, by decide⟩ ?_
        refine gX_istoren dX12_takeHabit_47 (show (2 : Nat) < 4 from by decide) (ls2 := [some (ga 775), some (gi (clN ys s)), some (gi 0), none]) rfl ?_
        refine gX_iloadn dX12_takeHabit_48 rfl ?_
        refine gX_iflt (tgt := 56) dX12_takeHabit_49 (by decide) (fun m7 => ?_) (fun m7 => ?_)
        · refine gX_aloadn dX12_takeHabit_56 rfl ?_
          refine gX_iloadn dX12_takeHabit_57 rfl ?_
          refine gX_ifeq (tgt := 65) dX12_takeHabit_58 (by decide) (fun m8 => ?_) (fun m8 => by exfalso; omega)
          refine gX_iconst dX12_takeHabit_65 ⟨by decide, by decide⟩ ?_
          refine gX_aloadn dX12_takeHabit_66 rfl ?_
          refine gX_gI 18 dX12_takeHabit_67 fdX12_167 rfl (Or.inl rfl) hM.1 ?_
          rw [ha18]
          refine gX_virt (J := iX12_fails) (av := [gi 1, gi (pkB ys s.1.1)]) (a := 775) (st := []) dX12_takeHabit_70 lkX12_178 kX12_fails vX12_fails (gFit_m (by decide)) hM.1 rfl rfl (Nat.le_of_ble_eq_true rfl) (Nat.zero_le _) (Nat.zero_le _) rfl ?_
          refine m_fails hM ?_
          show gX l E _ 73 [some (ga 775), some (gi (clN ys s)), some (gi 0), none] [gi 1] (K, R, gup Va 775 17 (pkB ys s.1.1)) _ _
          refine gX_iret dX12_takeHabit_73 (Or.inl rfl) ?_
          have er : (rdCl ys s) = (0, hF 1 (pkB ys s.1.1) ((tkLet ys s.1), s.2)) := by
            unfold rdCl
            rw [if_pos (by omega)]
            rfl
          rw [er] at hQ
          exact hQ _ (fun z => by have z9 : (1 : Int) = 0 := z; omega) gup_s (hfa.h.uf (by omega))
        · refine gX_iloadn dX12_takeHabit_52 rfl ?_
          refine gX_ifeq (tgt := 74) dX12_takeHabit_53 (by decide) (fun m9 => ?_) (fun m9 => by exfalso; omega)
          refine gX_aloadn dX12_takeHabit_74 rfl ?_
          refine gX_aloadn dX12_takeHabit_75 rfl ?_
          refine gX_gI 44 dX12_takeHabit_76 fdX12_255 rfl (Or.inl rfl) hM.1 ?_
          rw [ha44]
          refine gX_pI 18 dX12_takeHabit_79 fdX12_167 fpX12_167 rfl (Or.inl rfl) hM.1 ?_
          refine gX_iconst dX12_takeHabit_82 ⟨by decide, by decide⟩ ?_
          refine gX_istoren dX12_takeHabit_83 (show (3 : Nat) < 4 from by decide) (ls2 := [some (ga 775), some (gi (clN ys s)), some (gi 0), some (gi 0)]) rfl ?_
          have hnr : ¬ noRm s.2.1 s.2.2.2.2.1 (clN ys s) = 1 := by
            unfold noRm
            first
            | (rw [if_pos (by omega), if_neg (by omega)]; decide)
            | (rw [if_neg (by omega), if_pos (by omega)]; decide)
          have er0 : (rdCl ys s) = (if (clR ys s).1 = 0 then (0, (clR ys s).2) else ((tkSig ys 59 (clR ys s).2.1).1, (tkSig ys 59 (clR ys s).2.1).2, (clR ys s).2.2)) := by
            unfold rdCl
            rw [if_neg (by omega), if_neg hnr]
          have hs1 : hRl (gup Va 775 18 (leF ys 321 (pkB ys s.1.1))) ys ((tkLet ys s.1), s.2) := ⟨(hs.1.h hfa.h).h (hRF.rf.uf (by omega)), gup_s, ⟨by show 0 ≤ (leF ys 321 (pkB ys s.1.1)); omega, by show (leF ys 321 (pkB ys s.1.1)) ≤ ys.length; omega⟩, ⟨hs.2.2.2.1.1, hs.2.2.2.1.2.1, by rw [gup_k (by omega), hfa.2 17 (by omega) (by omega) (by omega)]; exact hs.2.2.2.1.2.2⟩, hs.2.2.2.2.k (by rw [gup_k (by omega), hfa.2 36 (by omega) (by omega) (by omega)]) (by rw [gup_k (by omega), hfa.2 41 (by omega) (by omega) (by omega)]) (by rw [gup_k (by omega), hfa.2 42 (by omega) (by omega) (by omega)]) (fun a a0 a1 => by rw [gup_ne (by omega)]; exact hfa.1 a (by omega))⟩
          have hfs : hRF V (gup Va 775 18 (leF ys 321 (pkB ys s.1.1))) := hfa.h.uf (by omega)
          by_cases hc0 : (clN ys s) = 0
          · have ecr : clR ys s = (rdFor ys ((tkLet ys s.1), s.2)) := if_pos hc0
            rw [ecr] at er0
            have hcs := rdFor_cs (ys := ys) (s := ((tkLet ys s.1), s.2)) ⟨hs.2.2.2.1.1, hs.2.2.2.1.2.1⟩
            refine gX_iloadn dX12_takeHabit_84 rfl ?_
            refine gX_ifne (tgt := 96) dX12_takeHabit_85 (by decide) (fun f1 => ?_) (fun f1 => ?_)
            · exfalso
              omega
            · refine gX_aloadn dX12_takeHabit_88 rfl ?_
              refine gX_virt (J := iX12_takeFor) (av := []) (a := 775) (st := []) dX12_takeHabit_89 lkX12_288 kX12_takeFor vX12_takeFor (gFit_m (by decide)) hM.1 rfl rfl (Nat.le_of_ble_eq_true rfl) (Nat.zero_le _) (Nat.zero_le _) rfl ?_
              refine m_takeFor hM hs1 (by show s.2.1.length < 4; omega) hsz.1 hsz.2.1 (fun Vf hok hff hfrf => ?_)
              show gX l E _ 92 [some (ga 775), some (gi (clN ys s)), some (gi 0), some (gi 0)] [gi ((rdFor ys ((tkLet ys s.1), s.2)).2.1.2.2.1)] (K, R, Vf) _ _
              refine gX_istoren dX12_takeHabit_92 (show (3 : Nat) < 4 from by decide) (ls2 := [some (ga 775), some (gi (clN ys s)), some (gi 0), some (gi ((rdFor ys ((tkLet ys s.1), s.2)).2.1.2.2.1))]) rfl ?_
              refine gX_goto (tgt := 200) dX12_takeHabit_93 (by decide) ?_
              rcases hcs with z | z
              · rw [if_pos z.1] at er0
                exact tF _ _ _ _ _ _ (by omega) (by rw [er0]) (by rw [er0]; exact hff) (hfs.trans hfrf)
              · rw [if_neg (by omega)] at er0
                rw [z.2]
                exact tS (rdFor ys ((tkLet ys s.1), s.2)).2 _ _ _ _ _ er0 (hok z.2) (hfs.trans hfrf)
          by_cases hc1 : (clN ys s) = 1
          · have hud := tkNum_cs (ys := ys) (low := 1) (high := 20) (t := (tkLet ys s.1)) (by omega) ⟨hs.2.2.2.1.1, hs.2.2.2.1.2.1⟩
            have erh : rh1 ys (clN ys s) ((tkLet ys s.1), s.2) = ((tkNum ys 1 20 (tkLet ys s.1)).2, s.2.1, s.2.2.1, s.2.2.2.1, s.2.2.2.2.1, (tkNum ys 1 20 (tkLet ys s.1)).1, s.2.2.2.2.2.2) := if_pos hc1
            refine gX_iloadn dX12_takeHabit_84 rfl ?_
            refine gX_ifne (tgt := 96) dX12_takeHabit_85 (by decide) (fun k1 => ?_) (fun k1 => ?_)
            · refine gX_iloadn dX12_takeHabit_96 rfl ?_
              refine gX_iconst dX12_takeHabit_97 ⟨by decide, by decide⟩ ?_
              refine gX_icmpne (tgt := 117) dX12_takeHabit_98 (by decide) (fun k2 => ?_) (fun k2 => ?_)
              · refine gX_iloadn dX12_takeHabit_117 rfl ?_
                refine gX_iconst dX12_takeHabit_118 ⟨by decide, by decide⟩ ?_
                refine gX_icmpne (tgt := 174) dX12_takeHabit_119 (by decide) (fun k3 => ?_) (fun k3 => ?_)
                · exfalso
                  omega
                · exfalso
                  omega
              · refine gX_aloadn dX12_takeHabit_101 rfl ?_
                refine gX_iconst dX12_takeHabit_102 ⟨by decide, by decide⟩ ?_
                refine gX_bipush dX12_takeHabit_103 (by decide) ⟨by decide, by decide⟩ ?_
                refine gX_virt (J := iX12_takeNumber) (av := [gi 1, gi 20]) (a := 775) (st := []) dX12_takeHabit_105 lkX12_188 kX12_takeNumber vX12_takeNumber (gFit_m (by decide)) hM.1 rfl rfl (Nat.le_of_ble_eq_true rfl) (Nat.zero_le _) (Nat.zero_le _) rfl ?_
                refine m_takeNumber (t := (tkLet ys s.1)) hM hs1.1 hs1.2.1 hs1.2.2.1.1 hs1.2.2.1.2 hs1.2.2.2.1 (fun Vd hd18 hd17 hdn hrd => ?_)
                show gX l E _ 108 [some (ga 775), some (gi (clN ys s)), some (gi 0), some (gi 0)] [gi ((tkNum ys 1 20 (tkLet ys s.1)).2.2.2.1)] (K, R, Vd) _ _
                refine gX_istoren dX12_takeHabit_108 (show (3 : Nat) < 4 from by decide) (ls2 := [some (ga 775), some (gi (clN ys s)), some (gi 0), some (gi ((tkNum ys 1 20 (tkLet ys s.1)).2.2.2.1))]) rfl ?_
                refine gX_aloadn dX12_takeHabit_109 rfl ?_
                refine gX_aloadn dX12_takeHabit_110 rfl ?_
                refine gX_gI 19 dX12_takeHabit_111 fdX12_185 rfl (Or.inl rfl) hM.1 ?_
                refine gX_pI 41 dX12_takeHabit_114 fdX12_245 fpX12_245 rfl (Or.inl rfl) hM.1 ?_
                refine gX_iloadn dX12_takeHabit_117 rfl ?_
                refine gX_iconst dX12_takeHabit_118 ⟨by decide, by decide⟩ ?_
                refine gX_icmpne (tgt := 174) dX12_takeHabit_119 (by decide) (fun k4 => ?_) (fun k4 => ?_)
                · rcases hud with z | z
                  · have er : (rdCl ys s) = (0, ((tkNum ys 1 20 (tkLet ys s.1)).2, s.2.1, s.2.2.1, s.2.2.2.1, s.2.2.2.2.1, (tkNum ys 1 20 (tkLet ys s.1)).1, s.2.2.2.2.2.2)) := by
                      rw [er0]
                      have e5 : clR ys s = (0, ((tkNum ys 1 20 (tkLet ys s.1)).2, s.2.1, s.2.2.1, s.2.2.2.1, s.2.2.2.2.1, (tkNum ys 1 20 (tkLet ys s.1)).1, s.2.2.2.2.2.2)) := by
                        unfold clR rdHab
                        rw [if_neg (by omega), if_pos ⟨hc1, by rw [erh]; exact z.1⟩, erh]
                      rw [e5, if_pos rfl]
                    refine gX_iloadn dX12_takeHabit_174 rfl ?_
                    refine gX_ifle (tgt := 182) dX12_takeHabit_175 (by decide) (fun q1 => ?_) (fun q1 => ?_)
                    · exfalso
                      omega
                    · refine gX_iloadn dX12_takeHabit_178 rfl ?_
                      refine gX_goto (tgt := 189) dX12_takeHabit_179 (by decide) ?_
                      refine gX_istoren dX12_takeHabit_189 (show (3 : Nat) < 4 from by decide) (ls2 := [some (ga 775), some (gi (clN ys s)), some (gi 0), some (gi ((tkNum ys 1 20 (tkLet ys s.1)).2.2.2.1))]) rfl ?_
                      refine gX_aloadn dX12_takeHabit_190 rfl ?_
                      refine gX_gR 40 dX12_takeHabit_191 fdX12_95 rfl rfl hM.1 (mR40 hM) ?_
                      refine gX_iloadn dX12_takeHabit_194 rfl ?_
                      refine gX_aloadn dX12_takeHabit_195 rfl ?_
                      refine gX_gI 19 dX12_takeHabit_196 fdX12_185 rfl (Or.inl rfl) hM.1 ?_
                      refine gX_iast dX12_takeHabit_199 (mA40 hM) (by omega) (by omega) ?_
                      exact tF _ _ _ _ _ _ (by omega) (by rw [er]) (by rw [er, gup_ne (by omega), gup_k (by omega)]; exact hd17) (((hfs.trans hrd.h).uf (by omega)).up (by omega))
                  · rw [z.2.2.1]
                    refine tN ((tkNum ys 1 20 (tkLet ys s.1)).2, s.2.1, s.2.2.1, s.2.2.2.1, s.2.2.2.2.1, (tkNum ys 1 20 (tkLet ys s.1)).1, s.2.2.2.2.2.2) _ _ _ _ ⟨by omega, by omega⟩ ?_ hsz.2.2.1 ⟨(hs1.1.h hrd.h).h (hRF.rf.uf (by omega)), by rw [gup_k (by omega)]; exact hd18, tkNum_at hs1.2.2.1.1 hs1.2.2.1.2, ⟨z.2.2.1, z.2.2.2, by rw [gup_k (by omega), hd17]; exact z.2.2.2⟩, ?_⟩ ((hfs.trans hrd.h).uf (by omega))
                    · rw [er0]
                      have e5 : clR ys s = rhC ys (clN ys s) ((tkNum ys 1 20 (tkLet ys s.1)).2, s.2.1, s.2.2.1, s.2.2.2.1, s.2.2.2.2.1, (tkNum ys 1 20 (tkLet ys s.1)).1, s.2.2.2.2.2.2) := by
                        unfold clR rdHab
                        rw [if_neg (by omega), if_neg (fun y => by have y2 := y.2; rw [erh] at y2; have y3 : (tkNum ys 1 20 (tkLet ys s.1)).1 = -1 := y2; omega), if_neg (fun y => by omega), erh]
                      rw [e5]
                    · have hr9 := hs1.2.2.2.2
                      exact ⟨by rw [gup_k (by omega), hrd.2 36 (by omega) (by omega) (by omega) (by omega)]; exact hr9.1, hr9.2.1, fun j j0 j1 => by rw [gup_ne (by omega), gup_ne (by omega), gup_ne (by omega), hrd.1 800 (by omega), hrd.1 801 (by omega), hrd.1 802 (by omega)]; exact hr9.2.2.1 j j0 j1, fun j j0 j1 => by rw [gup_ne (by omega), hrd.1 803 (by omega)]; exact hr9.2.2.2.1 j j0 j1, by rw [show gup _ 775 41 _ 775 41 = _ from gup_s]; exact (hdn z.2.2.1).1, by rw [gup_k (by omega), hrd.2 42 (by omega) (by omega) (by omega) (by omega)]; exact hr9.2.2.2.2.2⟩
                · exfalso
                  omega
            · exfalso
              omega
          by_cases hc3 : (clN ys s) = 3
          · have erh : rh1 ys (clN ys s) ((tkLet ys s.1), s.2) = ((tkLet ys (tkLet ys s.1)), s.2.1, s.2.2.1, s.2.2.2.1, s.2.2.2.2.1, s.2.2.2.2.2.1, (clT ys (tkLet ys (tkLet ys s.1)) 6 3 0)) := (if_neg (by omega)).trans (if_pos hc3)
            have hle2 := leF_sp (ys := ys) 321 (pkB ys (leF ys 321 (pkB ys s.1.1))) (by have := pkB_in (ys := ys) (a := (leF ys 321 (pkB ys s.1.1))) (by omega) (by omega); omega) (pkB_in (ys := ys) (a := (leF ys 321 (pkB ys s.1.1))) (by omega) (by omega)).2
            have hp22 := pkB_in (ys := ys) (a := (leF ys 321 (pkB ys s.1.1))) (by omega) (by omega)
            refine gX_iloadn dX12_takeHabit_84 rfl ?_
            refine gX_ifne (tgt := 96) dX12_takeHabit_85 (by decide) (fun i1 => ?_) (fun i1 => ?_)
            · refine gX_iloadn dX12_takeHabit_96 rfl ?_
              refine gX_iconst dX12_takeHabit_97 ⟨by decide, by decide⟩ ?_
              refine gX_icmpne (tgt := 117) dX12_takeHabit_98 (by decide) (fun i2 => ?_) (fun i2 => ?_)
              · refine gX_iloadn dX12_takeHabit_117 rfl ?_
                refine gX_iconst dX12_takeHabit_118 ⟨by decide, by decide⟩ ?_
                refine gX_icmpne (tgt := 174) dX12_takeHabit_119 (by decide) (fun i3 => ?_) (fun i3 => ?_)
                · exfalso
                  omega
                · refine gX_aloadn dX12_takeHabit_122 rfl ?_
                  refine gX_virt (J := iX12_readWord) (av := []) (a := 775) (st := []) dX12_takeHabit_123 lkX12_282 kX12_readWord vX12_readWord (gFit_m (by decide)) hM.1 rfl rfl (Nat.le_of_ble_eq_true rfl) (Nat.zero_le _) (Nat.zero_le _) rfl ?_
                  refine m_readWord hM hs1.1 hs1.2.1 hs1.2.2.1.1 hs1.2.2.1.2 (fun Vw hw18 hw44 hw43 hwl hfw => ?_)
                  show gX l E _ 126 [some (ga 775), some (gi (clN ys s)), some (gi 0), some (gi 0)] [] (K, R, Vw) _ _
                  refine gX_aloadn dX12_takeHabit_126 rfl ?_
                  refine gX_aloadn dX12_takeHabit_127 rfl ?_
                  refine gX_virt (J := iX12_wayOf) (av := []) (a := 775) (st := [ga 775]) dX12_takeHabit_128 lkX12_291 kX12_wayOf vX12_wayOf (gFit_m (by decide)) hM.1 rfl rfl (Nat.le_of_ble_eq_true rfl) (Nat.zero_le _) (Nat.zero_le _) rfl ?_
                  refine m_wayOf hM hw43 ?_
                  show gX l E _ 131 [some (ga 775), some (gi (clN ys s)), some (gi 0), some (gi 0)] [gi (wyO (wc ys (pkB ys (leF ys 321 (pkB ys s.1.1))) ((leF ys 321 (pkB ys (leF ys 321 (pkB ys s.1.1)))) - (pkB ys (leF ys 321 (pkB ys s.1.1)))).toNat)), ga 775] (K, R, Vw) _ _
                  rw [show wyO (wc ys (pkB ys (leF ys 321 (pkB ys s.1.1))) ((leF ys 321 (pkB ys (leF ys 321 (pkB ys s.1.1)))) - (pkB ys (leF ys 321 (pkB ys s.1.1)))).toNat) = (clT ys (tkLet ys (tkLet ys s.1)) 6 3 0) from (clT_w (t := (tkLet ys (tkLet ys s.1))) (n := ((leF ys 321 (pkB ys (leF ys 321 (pkB ys s.1.1)))) - (pkB ys (leF ys 321 (pkB ys s.1.1)))).toNat) (by show (leF ys 321 (pkB ys (leF ys 321 (pkB ys s.1.1)))) - (pkB ys (leF ys 321 (pkB ys s.1.1))) = (((leF ys 321 (pkB ys (leF ys 321 (pkB ys s.1.1)))) - (pkB ys (leF ys 321 (pkB ys s.1.1)))).toNat : Int); omega) hwl).symm]
                  have hwr : -1 ≤ (clT ys (tkLet ys (tkLet ys s.1)) 6 3 0) ∧ (clT ys (tkLet ys (tkLet ys s.1)) 6 3 0) ≤ 2 := by rw [clT_w (t := (tkLet ys (tkLet ys s.1))) (n := ((leF ys 321 (pkB ys (leF ys 321 (pkB ys s.1.1)))) - (pkB ys (leF ys 321 (pkB ys s.1.1)))).toNat) (by show (leF ys 321 (pkB ys (leF ys 321 (pkB ys s.1.1)))) - (pkB ys (leF ys 321 (pkB ys s.1.1))) = (((leF ys 321 (pkB ys (leF ys 321 (pkB ys s.1.1)))) - (pkB ys (leF ys 321 (pkB ys s.1.1)))).toNat : Int); omega) hwl]; exact wyO_rg _
                  refine gX_pI 42 dX12_takeHabit_131 fdX12_248 fpX12_248 rfl (Or.inl rfl) hM.1 ?_
                  refine gX_aloadn dX12_takeHabit_134 rfl ?_
                  refine gX_gI 42 dX12_takeHabit_135 fdX12_248 rfl (Or.inl rfl) hM.1 ?_
                  rw [show (gup Vw 775 42 (clT ys (tkLet ys (tkLet ys s.1)) 6 3 0)) 775 42 = (clT ys (tkLet ys (tkLet ys s.1)) 6 3 0) from gup_s]
                  refine gX_ifge (tgt := 153) dX12_takeHabit_138 (by decide) (fun i4 => ?_) (fun i4 => ?_)
                  · refine gX_iconst dX12_takeHabit_153 ⟨by decide, by decide⟩ ?_
                    refine gX_istoren dX12_takeHabit_154 (show (3 : Nat) < 4 from by decide) (ls2 := [some (ga 775), some (gi (clN ys s)), some (gi 0), some (gi 0)]) rfl ?_
                    refine gX_aloadn dX12_takeHabit_155 rfl ?_
                    refine gX_iloadn dX12_takeHabit_156 rfl ?_
                    refine gX_ifle (tgt := 167) dX12_takeHabit_157 (by decide) (fun i5 => ?_) (fun i5 => by exfalso; omega)
                    refine gX_aloadn dX12_takeHabit_167 rfl ?_
                    refine gX_gI 44 dX12_takeHabit_168 fdX12_255 rfl (Or.inl rfl) hM.1 ?_
                    rw [show (gup Vw 775 42 (clT ys (tkLet ys (tkLet ys s.1)) 6 3 0)) 775 44 = (leF ys 321 (pkB ys (leF ys 321 (pkB ys s.1.1)))) by rw [gup_k (by omega)]; exact hw44]
                    refine gX_pI 18 dX12_takeHabit_171 fdX12_167 fpX12_167 rfl (Or.inl rfl) hM.1 ?_
                    refine tN ((tkLet ys (tkLet ys s.1)), s.2.1, s.2.2.1, s.2.2.2.1, s.2.2.2.2.1, s.2.2.2.2.2.1, (clT ys (tkLet ys (tkLet ys s.1)) 6 3 0)) _ _ _ _ ⟨by omega, by omega⟩ ?_ hsz.2.2.1 ⟨((hs1.1.h hfw.h).h (hRF.rf.uf (k := 42) (by omega))).h (hRF.rf.uf (by omega)), gup_s, ⟨by show 0 ≤ (leF ys 321 (pkB ys (leF ys 321 (pkB ys s.1.1)))); omega, by show (leF ys 321 (pkB ys (leF ys 321 (pkB ys s.1.1)))) ≤ ys.length; omega⟩, ⟨hs.2.2.2.1.1, hs.2.2.2.1.2.1, by rw [gup_k (by omega), gup_k (by omega), hfw.2 17 (by omega) (by omega) (by omega)]; exact hs1.2.2.2.1.2.2⟩, ?_⟩ (((hfs.trans hfw.h).uf (by omega)).uf (by omega))
                    · rw [er0]
                      have e5 : clR ys s = rhC ys (clN ys s) ((tkLet ys (tkLet ys s.1)), s.2.1, s.2.2.1, s.2.2.2.1, s.2.2.2.2.1, s.2.2.2.2.2.1, (clT ys (tkLet ys (tkLet ys s.1)) 6 3 0)) := by
                        unfold clR rdHab
                        rw [if_neg (by omega), if_neg (fun y => by omega), if_neg (fun y => by have y2 := y.2; rw [erh] at y2; have y3 : (clT ys (tkLet ys (tkLet ys s.1)) 6 3 0) = -1 := y2; omega), erh]
                      rw [e5]
                    · have hr9 := hs1.2.2.2.2
                      exact ⟨by rw [gup_k (by omega), gup_k (by omega), hfw.2 36 (by omega) (by omega) (by omega)]; exact hr9.1, hr9.2.1, fun j j0 j1 => by rw [gup_ne (by omega), gup_ne (by omega), gup_ne (by omega), gup_ne (by omega), gup_ne (by omega), gup_ne (by omega), hfw.1 800 (by omega), hfw.1 801 (by omega), hfw.1 802 (by omega)]; exact hr9.2.2.1 j j0 j1, fun j j0 j1 => by rw [gup_ne (by omega), gup_ne (by omega), hfw.1 803 (by omega)]; exact hr9.2.2.2.1 j j0 j1, by rw [gup_k (by omega), gup_k (by omega), hfw.2 41 (by omega) (by omega) (by omega)]; exact hr9.2.2.2.2.1, by rw [gup_k (by omega)]; exact gup_s⟩
                  · refine gX_aloadn dX12_takeHabit_141 rfl ?_
                    refine gX_iconst dX12_takeHabit_142 ⟨by decide, by decide⟩ ?_
                    refine gX_aloadn dX12_takeHabit_143 rfl ?_
                    refine gX_gI 18 dX12_takeHabit_144 fdX12_167 rfl (Or.inl rfl) hM.1 ?_
                    rw [show (gup Vw 775 42 (clT ys (tkLet ys (tkLet ys s.1)) 6 3 0)) 775 18 = (pkB ys (leF ys 321 (pkB ys s.1.1))) by rw [gup_k (by omega)]; exact hw18]
                    refine gX_virt (J := iX12_fails) (av := [gi 1, gi (pkB ys (leF ys 321 (pkB ys s.1.1)))]) (a := 775) (st := []) dX12_takeHabit_147 lkX12_178 kX12_fails vX12_fails (gFit_m (by decide)) hM.1 rfl rfl (Nat.le_of_ble_eq_true rfl) (Nat.zero_le _) (Nat.zero_le _) rfl ?_
                    refine m_fails hM ?_
                    show gX l E _ 150 [some (ga 775), some (gi (clN ys s)), some (gi 0), some (gi 0)] [gi 1] (K, R, gup (gup Vw 775 42 (clT ys (tkLet ys (tkLet ys s.1)) 6 3 0)) 775 17 (pkB ys (leF ys 321 (pkB ys s.1.1)))) _ _
                    refine gX_goto (tgt := 154) dX12_takeHabit_150 (by decide) ?_
                    refine gX_istoren dX12_takeHabit_154 (show (3 : Nat) < 4 from by decide) (ls2 := [some (ga 775), some (gi (clN ys s)), some (gi 0), some (gi 1)]) rfl ?_
                    refine gX_aloadn dX12_takeHabit_155 rfl ?_
                    refine gX_iloadn dX12_takeHabit_156 rfl ?_
                    refine gX_ifle (tgt := 167) dX12_takeHabit_157 (by decide) (fun i6 => by exfalso; omega) (fun i6 => ?_)
                    refine gX_aloadn dX12_takeHabit_160 rfl ?_
                    refine gX_gI 18 dX12_takeHabit_161 fdX12_167 rfl (Or.inl rfl) hM.1 ?_
                    rw [show gup (gup Vw 775 42 (clT ys (tkLet ys (tkLet ys s.1)) 6 3 0)) 775 17 (pkB ys (leF ys 321 (pkB ys s.1.1))) 775 18 = (pkB ys (leF ys 321 (pkB ys s.1.1))) by rw [gup_k (by omega), gup_k (by omega)]; exact hw18]
                    refine gX_goto (tgt := 171) dX12_takeHabit_164 (by decide) ?_
                    refine gX_pI 18 dX12_takeHabit_171 fdX12_167 fpX12_167 rfl (Or.inl rfl) hM.1 ?_
                    have er : (rdCl ys s) = (0, hF 1 (pkB ys (leF ys 321 (pkB ys s.1.1))) ((tkLet ys (tkLet ys s.1)), s.2.1, s.2.2.1, s.2.2.2.1, s.2.2.2.2.1, s.2.2.2.2.2.1, (clT ys (tkLet ys (tkLet ys s.1)) 6 3 0))) := by
                      rw [er0]
                      have e5 : clR ys s = (0, hF 1 (pkB ys (leF ys 321 (pkB ys s.1.1))) ((tkLet ys (tkLet ys s.1)), s.2.1, s.2.2.1, s.2.2.2.1, s.2.2.2.2.1, s.2.2.2.2.2.1, (clT ys (tkLet ys (tkLet ys s.1)) 6 3 0))) := by
                        unfold clR rdHab
                        rw [if_neg (by omega), if_neg (fun y => by omega), if_pos ⟨hc3, by rw [erh]; show (clT ys (tkLet ys (tkLet ys s.1)) 6 3 0) = -1; omega⟩, erh]
                        rfl
                      rw [e5, if_pos rfl]
                    refine gX_iloadn dX12_takeHabit_174 rfl ?_
                    refine gX_ifle (tgt := 182) dX12_takeHabit_175 (by decide) (fun j1 => by exfalso; omega) (fun j1 => ?_)
                    refine gX_iloadn dX12_takeHabit_178 rfl ?_
                    refine gX_goto (tgt := 189) dX12_takeHabit_179 (by decide) ?_
                    refine gX_istoren dX12_takeHabit_189 (show (3 : Nat) < 4 from by decide) (ls2 := [some (ga 775), some (gi (clN ys s)), some (gi 0), some (gi 1)]) rfl ?_
                    refine gX_aloadn dX12_takeHabit_190 rfl ?_
                    refine gX_gR 40 dX12_takeHabit_191 fdX12_95 rfl rfl hM.1 (mR40 hM) ?_
                    refine gX_iloadn dX12_takeHabit_194 rfl ?_
                    refine gX_aloadn dX12_takeHabit_195 rfl ?_
                    refine gX_gI 19 dX12_takeHabit_196 fdX12_185 rfl (Or.inl rfl) hM.1 ?_
                    refine gX_iast dX12_takeHabit_199 (mA40 hM) (by omega) (by omega) ?_
                    exact tF _ _ _ _ _ _ (by omega) (by rw [er]; rfl) (by rw [er, gup_ne (by omega), gup_k (by omega)]; exact gup_s) (((((hfs.trans hfw.h).uf (by omega)).uf (by omega)).uf (by omega)).up (by omega))
              · exfalso
                omega
            · exfalso
              omega
          have erh : rh1 ys (clN ys s) ((tkLet ys s.1), s.2) = ((tkLet ys s.1), s.2) := (if_neg (by omega)).trans (if_neg (by omega))
          refine gX_iloadn dX12_takeHabit_84 rfl ?_
          refine gX_ifne (tgt := 96) dX12_takeHabit_85 (by decide) (fun o1 => ?_) (fun o1 => ?_)
          · refine gX_iloadn dX12_takeHabit_96 rfl ?_
            refine gX_iconst dX12_takeHabit_97 ⟨by decide, by decide⟩ ?_
            refine gX_icmpne (tgt := 117) dX12_takeHabit_98 (by decide) (fun o2 => ?_) (fun o2 => ?_)
            · refine gX_iloadn dX12_takeHabit_117 rfl ?_
              refine gX_iconst dX12_takeHabit_118 ⟨by decide, by decide⟩ ?_
              refine gX_icmpne (tgt := 174) dX12_takeHabit_119 (by decide) (fun o3 => ?_) (fun o3 => ?_)
              · refine tN ((tkLet ys s.1), s.2) _ _ _ _ ⟨by omega, by omega⟩ ?_ hsz.2.2.1 hs1 hfs
                rw [er0]
                have e5 : clR ys s = rhC ys (clN ys s) ((tkLet ys s.1), s.2) := by
                  unfold clR rdHab
                  rw [if_neg (by omega), if_neg (fun y => by omega), if_neg (fun y => by omega), erh]
                rw [e5]
              · exfalso
                omega
            · exfalso
              omega
          · exfalso
            omega
      · refine gX_iconst dX12_takeHabit_42 ⟨by decide, by decide⟩ ?_
        refine gX_goto (tgt := 47) dX12_takeHabit_43 (by decide) ?_
        refine gX_istoren dX12_takeHabit_47 (show (2 : Nat) < 4 from by decide) (ls2 := [some (ga 775), some (gi (clN ys s)), some (gi 1), none]) rfl ?_
        refine gX_iloadn dX12_takeHabit_48 rfl ?_
        refine gX_iflt (tgt := 56) dX12_takeHabit_49 (by decide) (fun m10 => ?_) (fun m10 => ?_)
        · refine gX_aloadn dX12_takeHabit_56 rfl ?_
          refine gX_iloadn dX12_takeHabit_57 rfl ?_
          refine gX_ifeq (tgt := 65) dX12_takeHabit_58 (by decide) (fun m11 => by exfalso; omega) (fun m11 => ?_)
          refine gX_iconst dX12_takeHabit_61 ⟨by decide, by decide⟩ ?_
          refine gX_goto (tgt := 66) dX12_takeHabit_62 (by decide) ?_
          refine gX_aloadn dX12_takeHabit_66 rfl ?_
          refine gX_gI 18 dX12_takeHabit_67 fdX12_167 rfl (Or.inl rfl) hM.1 ?_
          rw [ha18]
          refine gX_virt (J := iX12_fails) (av := [gi 3, gi (pkB ys s.1.1)]) (a := 775) (st := []) dX12_takeHabit_70 lkX12_178 kX12_fails vX12_fails (gFit_m (by decide)) hM.1 rfl rfl (Nat.le_of_ble_eq_true rfl) (Nat.zero_le _) (Nat.zero_le _) rfl ?_
          refine m_fails hM ?_
          show gX l E _ 73 [some (ga 775), some (gi (clN ys s)), some (gi 1), none] [gi 3] (K, R, gup Va 775 17 (pkB ys s.1.1)) _ _
          refine gX_iret dX12_takeHabit_73 (Or.inl rfl) ?_
          have hnr : noRm s.2.1 s.2.2.2.2.1 (clN ys s) = 1 := by
            unfold noRm
            first
            | (rw [if_pos (by omega), if_pos (by omega)])
            | (rw [if_neg (by omega), if_neg (by omega)])
          have er : (rdCl ys s) = (0, hF 3 (pkB ys s.1.1) ((tkLet ys s.1), s.2)) := by
            unfold rdCl
            rw [if_neg (by omega), if_pos hnr]
            rfl
          rw [er] at hQ
          exact hQ _ (fun z => by have z9 : (3 : Int) = 0 := z; omega) gup_s (hfa.h.uf (by omega))
        · refine gX_iloadn dX12_takeHabit_52 rfl ?_
          refine gX_ifeq (tgt := 74) dX12_takeHabit_53 (by decide) (fun m12 => by exfalso; omega) (fun m12 => ?_)
          refine gX_aloadn dX12_takeHabit_56 rfl ?_
          refine gX_iloadn dX12_takeHabit_57 rfl ?_
          refine gX_ifeq (tgt := 65) dX12_takeHabit_58 (by decide) (fun m13 => by exfalso; omega) (fun m13 => ?_)
          refine gX_iconst dX12_takeHabit_61 ⟨by decide, by decide⟩ ?_
          refine gX_goto (tgt := 66) dX12_takeHabit_62 (by decide) ?_
          refine gX_aloadn dX12_takeHabit_66 rfl ?_
          refine gX_gI 18 dX12_takeHabit_67 fdX12_167 rfl (Or.inl rfl) hM.1 ?_
          rw [ha18]
          refine gX_virt (J := iX12_fails) (av := [gi 3, gi (pkB ys s.1.1)]) (a := 775) (st := []) dX12_takeHabit_70 lkX12_178 kX12_fails vX12_fails (gFit_m (by decide)) hM.1 rfl rfl (Nat.le_of_ble_eq_true rfl) (Nat.zero_le _) (Nat.zero_le _) rfl ?_
          refine m_fails hM ?_
          show gX l E _ 73 [some (ga 775), some (gi (clN ys s)), some (gi 1), none] [gi 3] (K, R, gup Va 775 17 (pkB ys s.1.1)) _ _
          refine gX_iret dX12_takeHabit_73 (Or.inl rfl) ?_
          have hnr : noRm s.2.1 s.2.2.2.2.1 (clN ys s) = 1 := by
            unfold noRm
            first
            | (rw [if_pos (by omega), if_pos (by omega)])
            | (rw [if_neg (by omega), if_neg (by omega)])
          have er : (rdCl ys s) = (0, hF 3 (pkB ys s.1.1) ((tkLet ys s.1), s.2)) := by
            unfold rdCl
            rw [if_neg (by omega), if_pos hnr]
            rfl
          rw [er] at hQ
          exact hQ _ (fun z => by have z9 : (3 : Int) = 0 := z; omega) gup_s (hfa.h.uf (by omega))
  · refine gX_aloadn dX12_takeHabit_13 rfl ?_
    refine gX_gI 36 dX12_takeHabit_14 fdX12_242 rfl (Or.inl rfl) hM.1 ?_
    rw [show Va 775 36 = (s.2.1.length : Int) by rw [hfa.2 36 (by omega) (by omega) (by omega)]; exact hs.2.2.2.2.1]
    refine gX_iconst dX12_takeHabit_17 ⟨by decide, by decide⟩ ?_
    refine gX_icmpne (tgt := 25) dX12_takeHabit_18 (by decide) (fun m14 => ?_) (fun m14 => ?_)
    · refine gX_iconst dX12_takeHabit_25 ⟨by decide, by decide⟩ ?_
      refine gX_goto (tgt := 47) dX12_takeHabit_26 (by decide) ?_
      refine gX_istoren dX12_takeHabit_47 (show (2 : Nat) < 4 from by decide) (ls2 := [some (ga 775), some (gi (clN ys s)), some (gi 0), none]) rfl ?_
      refine gX_iloadn dX12_takeHabit_48 rfl ?_
      refine gX_iflt (tgt := 56) dX12_takeHabit_49 (by decide) (fun m15 => ?_) (fun m15 => ?_)
      · refine gX_aloadn dX12_takeHabit_56 rfl ?_
        refine gX_iloadn dX12_takeHabit_57 rfl ?_
        refine gX_ifeq (tgt := 65) dX12_takeHabit_58 (by decide) (fun m16 => ?_) (fun m16 => by exfalso; omega)
        refine gX_iconst dX12_takeHabit_65 ⟨by decide, by decide⟩ ?_
        refine gX_aloadn dX12_takeHabit_66 rfl ?_
        refine gX_gI 18 dX12_takeHabit_67 fdX12_167 rfl (Or.inl rfl) hM.1 ?_
        rw [ha18]
        refine gX_virt (J := iX12_fails) (av := [gi 1, gi (pkB ys s.1.1)]) (a := 775) (st := []) dX12_takeHabit_70 lkX12_178 kX12_fails vX12_fails (gFit_m (by decide)) hM.1 rfl rfl (Nat.le_of_ble_eq_true rfl) (Nat.zero_le _) (Nat.zero_le _) rfl ?_
        refine m_fails hM ?_
        show gX l E _ 73 [some (ga 775), some (gi (clN ys s)), some (gi 0), none] [gi 1] (K, R, gup Va 775 17 (pkB ys s.1.1)) _ _
        refine gX_iret dX12_takeHabit_73 (Or.inl rfl) ?_
        have er : (rdCl ys s) = (0, hF 1 (pkB ys s.1.1) ((tkLet ys s.1), s.2)) := by
          unfold rdCl
          rw [if_pos (by omega)]
          rfl
        rw [er] at hQ
        exact hQ _ (fun z => by have z9 : (1 : Int) = 0 := z; omega) gup_s (hfa.h.uf (by omega))
      · refine gX_iloadn dX12_takeHabit_52 rfl ?_
        refine gX_ifeq (tgt := 74) dX12_takeHabit_53 (by decide) (fun m17 => ?_) (fun m17 => by exfalso; omega)
        refine gX_aloadn dX12_takeHabit_74 rfl ?_
        refine gX_aloadn dX12_takeHabit_75 rfl ?_
        refine gX_gI 44 dX12_takeHabit_76 fdX12_255 rfl (Or.inl rfl) hM.1 ?_
        rw [ha44]
        refine gX_pI 18 dX12_takeHabit_79 fdX12_167 fpX12_167 rfl (Or.inl rfl) hM.1 ?_
        refine gX_iconst dX12_takeHabit_82 ⟨by decide, by decide⟩ ?_
        refine gX_istoren dX12_takeHabit_83 (show (3 : Nat) < 4 from by decide) (ls2 := [some (ga 775), some (gi (clN ys s)), some (gi 0), some (gi 0)]) rfl ?_
        have hnr : ¬ noRm s.2.1 s.2.2.2.2.1 (clN ys s) = 1 := by
          unfold noRm
          first
          | (rw [if_pos (by omega), if_neg (by omega)]; decide)
          | (rw [if_neg (by omega), if_pos (by omega)]; decide)
        have er0 : (rdCl ys s) = (if (clR ys s).1 = 0 then (0, (clR ys s).2) else ((tkSig ys 59 (clR ys s).2.1).1, (tkSig ys 59 (clR ys s).2.1).2, (clR ys s).2.2)) := by
          unfold rdCl
          rw [if_neg (by omega), if_neg hnr]
        have hs1 : hRl (gup Va 775 18 (leF ys 321 (pkB ys s.1.1))) ys ((tkLet ys s.1), s.2) := ⟨(hs.1.h hfa.h).h (hRF.rf.uf (by omega)), gup_s, ⟨by show 0 ≤ (leF ys 321 (pkB ys s.1.1)); omega, by show (leF ys 321 (pkB ys s.1.1)) ≤ ys.length; omega⟩, ⟨hs.2.2.2.1.1, hs.2.2.2.1.2.1, by rw [gup_k (by omega), hfa.2 17 (by omega) (by omega) (by omega)]; exact hs.2.2.2.1.2.2⟩, hs.2.2.2.2.k (by rw [gup_k (by omega), hfa.2 36 (by omega) (by omega) (by omega)]) (by rw [gup_k (by omega), hfa.2 41 (by omega) (by omega) (by omega)]) (by rw [gup_k (by omega), hfa.2 42 (by omega) (by omega) (by omega)]) (fun a a0 a1 => by rw [gup_ne (by omega)]; exact hfa.1 a (by omega))⟩
        have hfs : hRF V (gup Va 775 18 (leF ys 321 (pkB ys s.1.1))) := hfa.h.uf (by omega)
        by_cases hc0 : (clN ys s) = 0
        · have ecr : clR ys s = (rdFor ys ((tkLet ys s.1), s.2)) := if_pos hc0
          rw [ecr] at er0
          have hcs := rdFor_cs (ys := ys) (s := ((tkLet ys s.1), s.2)) ⟨hs.2.2.2.1.1, hs.2.2.2.1.2.1⟩
          refine gX_iloadn dX12_takeHabit_84 rfl ?_
          refine gX_ifne (tgt := 96) dX12_takeHabit_85 (by decide) (fun f1 => ?_) (fun f1 => ?_)
          · exfalso
            omega
          · refine gX_aloadn dX12_takeHabit_88 rfl ?_
            refine gX_virt (J := iX12_takeFor) (av := []) (a := 775) (st := []) dX12_takeHabit_89 lkX12_288 kX12_takeFor vX12_takeFor (gFit_m (by decide)) hM.1 rfl rfl (Nat.le_of_ble_eq_true rfl) (Nat.zero_le _) (Nat.zero_le _) rfl ?_
            refine m_takeFor hM hs1 (by show s.2.1.length < 4; omega) hsz.1 hsz.2.1 (fun Vf hok hff hfrf => ?_)
            show gX l E _ 92 [some (ga 775), some (gi (clN ys s)), some (gi 0), some (gi 0)] [gi ((rdFor ys ((tkLet ys s.1), s.2)).2.1.2.2.1)] (K, R, Vf) _ _
            refine gX_istoren dX12_takeHabit_92 (show (3 : Nat) < 4 from by decide) (ls2 := [some (ga 775), some (gi (clN ys s)), some (gi 0), some (gi ((rdFor ys ((tkLet ys s.1), s.2)).2.1.2.2.1))]) rfl ?_
            refine gX_goto (tgt := 200) dX12_takeHabit_93 (by decide) ?_
            rcases hcs with z | z
            · rw [if_pos z.1] at er0
              exact tF _ _ _ _ _ _ (by omega) (by rw [er0]) (by rw [er0]; exact hff) (hfs.trans hfrf)
            · rw [if_neg (by omega)] at er0
              rw [z.2]
              exact tS (rdFor ys ((tkLet ys s.1), s.2)).2 _ _ _ _ _ er0 (hok z.2) (hfs.trans hfrf)
        by_cases hc1 : (clN ys s) = 1
        · have hud := tkNum_cs (ys := ys) (low := 1) (high := 20) (t := (tkLet ys s.1)) (by omega) ⟨hs.2.2.2.1.1, hs.2.2.2.1.2.1⟩
          have erh : rh1 ys (clN ys s) ((tkLet ys s.1), s.2) = ((tkNum ys 1 20 (tkLet ys s.1)).2, s.2.1, s.2.2.1, s.2.2.2.1, s.2.2.2.2.1, (tkNum ys 1 20 (tkLet ys s.1)).1, s.2.2.2.2.2.2) := if_pos hc1
          refine gX_iloadn dX12_takeHabit_84 rfl ?_
          refine gX_ifne (tgt := 96) dX12_takeHabit_85 (by decide) (fun k1 => ?_) (fun k1 => ?_)
          · refine gX_iloadn dX12_takeHabit_96 rfl ?_
            refine gX_iconst dX12_takeHabit_97 ⟨by decide, by decide⟩ ?_
            refine gX_icmpne (tgt := 117) dX12_takeHabit_98 (by decide) (fun k2 => ?_) (fun k2 => ?_)
            · refine gX_iloadn dX12_takeHabit_117 rfl ?_
              refine gX_iconst dX12_takeHabit_118 ⟨by decide, by decide⟩ ?_
              refine gX_icmpne (tgt := 174) dX12_takeHabit_119 (by decide) (fun k3 => ?_) (fun k3 => ?_)
              · exfalso
                omega
              · exfalso
                omega
            · refine gX_aloadn dX12_takeHabit_101 rfl ?_
              refine gX_iconst dX12_takeHabit_102 ⟨by decide, by decide⟩ ?_
              refine gX_bipush dX12_takeHabit_103 (by decide) ⟨by decide, by decide⟩ ?_
              refine gX_virt (J := iX12_takeNumber) (av := [gi 1, gi 20]) (a := 775) (st := []) dX12_takeHabit_105 lkX12_188 kX12_takeNumber vX12_takeNumber (gFit_m (by decide)) hM.1 rfl rfl (Nat.le_of_ble_eq_true rfl) (Nat.zero_le _) (Nat.zero_le _) rfl ?_
              refine m_takeNumber (t := (tkLet ys s.1)) hM hs1.1 hs1.2.1 hs1.2.2.1.1 hs1.2.2.1.2 hs1.2.2.2.1 (fun Vd hd18 hd17 hdn hrd => ?_)
              show gX l E _ 108 [some (ga 775), some (gi (clN ys s)), some (gi 0), some (gi 0)] [gi ((tkNum ys 1 20 (tkLet ys s.1)).2.2.2.1)] (K, R, Vd) _ _
              refine gX_istoren dX12_takeHabit_108 (show (3 : Nat) < 4 from by decide) (ls2 := [some (ga 775), some (gi (clN ys s)), some (gi 0), some (gi ((tkNum ys 1 20 (tkLet ys s.1)).2.2.2.1))]) rfl ?_
              refine gX_aloadn dX12_takeHabit_109 rfl ?_
              refine gX_aloadn dX12_takeHabit_110 rfl ?_
              refine gX_gI 19 dX12_takeHabit_111 fdX12_185 rfl (Or.inl rfl) hM.1 ?_
              refine gX_pI 41 dX12_takeHabit_114 fdX12_245 fpX12_245 rfl (Or.inl rfl) hM.1 ?_
              refine gX_iloadn dX12_takeHabit_117 rfl ?_
              refine gX_iconst dX12_takeHabit_118 ⟨by decide, by decide⟩ ?_
              refine gX_icmpne (tgt := 174) dX12_takeHabit_119 (by decide) (fun k4 => ?_) (fun k4 => ?_)
              · rcases hud with z | z
                · have er : (rdCl ys s) = (0, ((tkNum ys 1 20 (tkLet ys s.1)).2, s.2.1, s.2.2.1, s.2.2.2.1, s.2.2.2.2.1, (tkNum ys 1 20 (tkLet ys s.1)).1, s.2.2.2.2.2.2)) := by
                    rw [er0]
                    have e5 : clR ys s = (0, ((tkNum ys 1 20 (tkLet ys s.1)).2, s.2.1, s.2.2.1, s.2.2.2.1, s.2.2.2.2.1, (tkNum ys 1 20 (tkLet ys s.1)).1, s.2.2.2.2.2.2)) := by
                      unfold clR rdHab
                      rw [if_neg (by omega), if_pos ⟨hc1, by rw [erh]; exact z.1⟩, erh]
                    rw [e5, if_pos rfl]
                  refine gX_iloadn dX12_takeHabit_174 rfl ?_
                  refine gX_ifle (tgt := 182) dX12_takeHabit_175 (by decide) (fun q1 => ?_) (fun q1 => ?_)
                  · exfalso
                    omega
                  · refine gX_iloadn dX12_takeHabit_178 rfl ?_
                    refine gX_goto (tgt := 189) dX12_takeHabit_179 (by decide) ?_
                    refine gX_istoren dX12_takeHabit_189 (show (3 : Nat) < 4 from by decide) (ls2 := [some (ga 775), some (gi (clN ys s)), some (gi 0), some (gi ((tkNum ys 1 20 (tkLet ys s.1)).2.2.2.1))]) rfl ?_
                    refine gX_aloadn dX12_takeHabit_190 rfl ?_
                    refine gX_gR 40 dX12_takeHabit_191 fdX12_95 rfl rfl hM.1 (mR40 hM) ?_
                    refine gX_iloadn dX12_takeHabit_194 rfl ?_
                    refine gX_aloadn dX12_takeHabit_195 rfl ?_
                    refine gX_gI 19 dX12_takeHabit_196 fdX12_185 rfl (Or.inl rfl) hM.1 ?_
                    refine gX_iast dX12_takeHabit_199 (mA40 hM) (by omega) (by omega) ?_
                    exact tF _ _ _ _ _ _ (by omega) (by rw [er]) (by rw [er, gup_ne (by omega), gup_k (by omega)]; exact hd17) (((hfs.trans hrd.h).uf (by omega)).up (by omega))
                · rw [z.2.2.1]
                  refine tN ((tkNum ys 1 20 (tkLet ys s.1)).2, s.2.1, s.2.2.1, s.2.2.2.1, s.2.2.2.2.1, (tkNum ys 1 20 (tkLet ys s.1)).1, s.2.2.2.2.2.2) _ _ _ _ ⟨by omega, by omega⟩ ?_ hsz.2.2.1 ⟨(hs1.1.h hrd.h).h (hRF.rf.uf (by omega)), by rw [gup_k (by omega)]; exact hd18, tkNum_at hs1.2.2.1.1 hs1.2.2.1.2, ⟨z.2.2.1, z.2.2.2, by rw [gup_k (by omega), hd17]; exact z.2.2.2⟩, ?_⟩ ((hfs.trans hrd.h).uf (by omega))
                  · rw [er0]
                    have e5 : clR ys s = rhC ys (clN ys s) ((tkNum ys 1 20 (tkLet ys s.1)).2, s.2.1, s.2.2.1, s.2.2.2.1, s.2.2.2.2.1, (tkNum ys 1 20 (tkLet ys s.1)).1, s.2.2.2.2.2.2) := by
                      unfold clR rdHab
                      rw [if_neg (by omega), if_neg (fun y => by have y2 := y.2; rw [erh] at y2; have y3 : (tkNum ys 1 20 (tkLet ys s.1)).1 = -1 := y2; omega), if_neg (fun y => by omega), erh]
                    rw [e5]
                  · have hr9 := hs1.2.2.2.2
                    exact ⟨by rw [gup_k (by omega), hrd.2 36 (by omega) (by omega) (by omega) (by omega)]; exact hr9.1, hr9.2.1, fun j j0 j1 => by rw [gup_ne (by omega), gup_ne (by omega), gup_ne (by omega), hrd.1 800 (by omega), hrd.1 801 (by omega), hrd.1 802 (by omega)]; exact hr9.2.2.1 j j0 j1, fun j j0 j1 => by rw [gup_ne (by omega), hrd.1 803 (by omega)]; exact hr9.2.2.2.1 j j0 j1, by rw [show gup _ 775 41 _ 775 41 = _ from gup_s]; exact (hdn z.2.2.1).1, by rw [gup_k (by omega), hrd.2 42 (by omega) (by omega) (by omega) (by omega)]; exact hr9.2.2.2.2.2⟩
              · exfalso
                omega
          · exfalso
            omega
        by_cases hc3 : (clN ys s) = 3
        · have erh : rh1 ys (clN ys s) ((tkLet ys s.1), s.2) = ((tkLet ys (tkLet ys s.1)), s.2.1, s.2.2.1, s.2.2.2.1, s.2.2.2.2.1, s.2.2.2.2.2.1, (clT ys (tkLet ys (tkLet ys s.1)) 6 3 0)) := (if_neg (by omega)).trans (if_pos hc3)
          have hle2 := leF_sp (ys := ys) 321 (pkB ys (leF ys 321 (pkB ys s.1.1))) (by have := pkB_in (ys := ys) (a := (leF ys 321 (pkB ys s.1.1))) (by omega) (by omega); omega) (pkB_in (ys := ys) (a := (leF ys 321 (pkB ys s.1.1))) (by omega) (by omega)).2
          have hp22 := pkB_in (ys := ys) (a := (leF ys 321 (pkB ys s.1.1))) (by omega) (by omega)
          refine gX_iloadn dX12_takeHabit_84 rfl ?_
          refine gX_ifne (tgt := 96) dX12_takeHabit_85 (by decide) (fun i1 => ?_) (fun i1 => ?_)
          · refine gX_iloadn dX12_takeHabit_96 rfl ?_
            refine gX_iconst dX12_takeHabit_97 ⟨by decide, by decide⟩ ?_
            refine gX_icmpne (tgt := 117) dX12_takeHabit_98 (by decide) (fun i2 => ?_) (fun i2 => ?_)
            · refine gX_iloadn dX12_takeHabit_117 rfl ?_
              refine gX_iconst dX12_takeHabit_118 ⟨by decide, by decide⟩ ?_
              refine gX_icmpne (tgt := 174) dX12_takeHabit_119 (by decide) (fun i3 => ?_) (fun i3 => ?_)
              · exfalso
                omega
              · refine gX_aloadn dX12_takeHabit_122 rfl ?_
                refine gX_virt (J := iX12_readWord) (av := []) (a := 775) (st := []) dX12_takeHabit_123 lkX12_282 kX12_readWord vX12_readWord (gFit_m (by decide)) hM.1 rfl rfl (Nat.le_of_ble_eq_true rfl) (Nat.zero_le _) (Nat.zero_le _) rfl ?_
                refine m_readWord hM hs1.1 hs1.2.1 hs1.2.2.1.1 hs1.2.2.1.2 (fun Vw hw18 hw44 hw43 hwl hfw => ?_)
                show gX l E _ 126 [some (ga 775), some (gi (clN ys s)), some (gi 0), some (gi 0)] [] (K, R, Vw) _ _
                refine gX_aloadn dX12_takeHabit_126 rfl ?_
                refine gX_aloadn dX12_takeHabit_127 rfl ?_
                refine gX_virt (J := iX12_wayOf) (av := []) (a := 775) (st := [ga 775]) dX12_takeHabit_128 lkX12_291 kX12_wayOf vX12_wayOf (gFit_m (by decide)) hM.1 rfl rfl (Nat.le_of_ble_eq_true rfl) (Nat.zero_le _) (Nat.zero_le _) rfl ?_
                refine m_wayOf hM hw43 ?_
                show gX l E _ 131 [some (ga 775), some (gi (clN ys s)), some (gi 0), some (gi 0)] [gi (wyO (wc ys (pkB ys (leF ys 321 (pkB ys s.1.1))) ((leF ys 321 (pkB ys (leF ys 321 (pkB ys s.1.1)))) - (pkB ys (leF ys 321 (pkB ys s.1.1)))).toNat)), ga 775] (K, R, Vw) _ _
                rw [show wyO (wc ys (pkB ys (leF ys 321 (pkB ys s.1.1))) ((leF ys 321 (pkB ys (leF ys 321 (pkB ys s.1.1)))) - (pkB ys (leF ys 321 (pkB ys s.1.1)))).toNat) = (clT ys (tkLet ys (tkLet ys s.1)) 6 3 0) from (clT_w (t := (tkLet ys (tkLet ys s.1))) (n := ((leF ys 321 (pkB ys (leF ys 321 (pkB ys s.1.1)))) - (pkB ys (leF ys 321 (pkB ys s.1.1)))).toNat) (by show (leF ys 321 (pkB ys (leF ys 321 (pkB ys s.1.1)))) - (pkB ys (leF ys 321 (pkB ys s.1.1))) = (((leF ys 321 (pkB ys (leF ys 321 (pkB ys s.1.1)))) - (pkB ys (leF ys 321 (pkB ys s.1.1)))).toNat : Int); omega) hwl).symm]
                have hwr : -1 ≤ (clT ys (tkLet ys (tkLet ys s.1)) 6 3 0) ∧ (clT ys (tkLet ys (tkLet ys s.1)) 6 3 0) ≤ 2 := by rw [clT_w (t := (tkLet ys (tkLet ys s.1))) (n := ((leF ys 321 (pkB ys (leF ys 321 (pkB ys s.1.1)))) - (pkB ys (leF ys 321 (pkB ys s.1.1)))).toNat) (by show (leF ys 321 (pkB ys (leF ys 321 (pkB ys s.1.1)))) - (pkB ys (leF ys 321 (pkB ys s.1.1))) = (((leF ys 321 (pkB ys (leF ys 321 (pkB ys s.1.1)))) - (pkB ys (leF ys 321 (pkB ys s.1.1)))).toNat : Int); omega) hwl]; exact wyO_rg _
                refine gX_pI 42 dX12_takeHabit_131 fdX12_248 fpX12_248 rfl (Or.inl rfl) hM.1 ?_
                refine gX_aloadn dX12_takeHabit_134 rfl ?_
                refine gX_gI 42 dX12_takeHabit_135 fdX12_248 rfl (Or.inl rfl) hM.1 ?_
                rw [show (gup Vw 775 42 (clT ys (tkLet ys (tkLet ys s.1)) 6 3 0)) 775 42 = (clT ys (tkLet ys (tkLet ys s.1)) 6 3 0) from gup_s]
                refine gX_ifge (tgt := 153) dX12_takeHabit_138 (by decide) (fun i4 => ?_) (fun i4 => ?_)
                · refine gX_iconst dX12_takeHabit_153 ⟨by decide, by decide⟩ ?_
                  refine gX_istoren dX12_takeHabit_154 (show (3 : Nat) < 4 from by decide) (ls2 := [some (ga 775), some (gi (clN ys s)), some (gi 0), some (gi 0)]) rfl ?_
                  refine gX_aloadn dX12_takeHabit_155 rfl ?_
                  refine gX_iloadn dX12_takeHabit_156 rfl ?_
                  refine gX_ifle (tgt := 167) dX12_takeHabit_157 (by decide) (fun i5 => ?_) (fun i5 => by exfalso; omega)
                  refine gX_aloadn dX12_takeHabit_167 rfl ?_
                  refine gX_gI 44 dX12_takeHabit_168 fdX12_255 rfl (Or.inl rfl) hM.1 ?_
                  rw [show (gup Vw 775 42 (clT ys (tkLet ys (tkLet ys s.1)) 6 3 0)) 775 44 = (leF ys 321 (pkB ys (leF ys 321 (pkB ys s.1.1)))) by rw [gup_k (by omega)]; exact hw44]
                  refine gX_pI 18 dX12_takeHabit_171 fdX12_167 fpX12_167 rfl (Or.inl rfl) hM.1 ?_
                  refine tN ((tkLet ys (tkLet ys s.1)), s.2.1, s.2.2.1, s.2.2.2.1, s.2.2.2.2.1, s.2.2.2.2.2.1, (clT ys (tkLet ys (tkLet ys s.1)) 6 3 0)) _ _ _ _ ⟨by omega, by omega⟩ ?_ hsz.2.2.1 ⟨((hs1.1.h hfw.h).h (hRF.rf.uf (k := 42) (by omega))).h (hRF.rf.uf (by omega)), gup_s, ⟨by show 0 ≤ (leF ys 321 (pkB ys (leF ys 321 (pkB ys s.1.1)))); omega, by show (leF ys 321 (pkB ys (leF ys 321 (pkB ys s.1.1)))) ≤ ys.length; omega⟩, ⟨hs.2.2.2.1.1, hs.2.2.2.1.2.1, by rw [gup_k (by omega), gup_k (by omega), hfw.2 17 (by omega) (by omega) (by omega)]; exact hs1.2.2.2.1.2.2⟩, ?_⟩ (((hfs.trans hfw.h).uf (by omega)).uf (by omega))
                  · rw [er0]
                    have e5 : clR ys s = rhC ys (clN ys s) ((tkLet ys (tkLet ys s.1)), s.2.1, s.2.2.1, s.2.2.2.1, s.2.2.2.2.1, s.2.2.2.2.2.1, (clT ys (tkLet ys (tkLet ys s.1)) 6 3 0)) := by
                      unfold clR rdHab
                      rw [if_neg (by omega), if_neg (fun y => by omega), if_neg (fun y => by have y2 := y.2; rw [erh] at y2; have y3 : (clT ys (tkLet ys (tkLet ys s.1)) 6 3 0) = -1 := y2; omega), erh]
                    rw [e5]
                  · have hr9 := hs1.2.2.2.2
                    exact ⟨by rw [gup_k (by omega), gup_k (by omega), hfw.2 36 (by omega) (by omega) (by omega)]; exact hr9.1, hr9.2.1, fun j j0 j1 => by rw [gup_ne (by omega), gup_ne (by omega), gup_ne (by omega), gup_ne (by omega), gup_ne (by omega), gup_ne (by omega), hfw.1 800 (by omega), hfw.1 801 (by omega), hfw.1 802 (by omega)]; exact hr9.2.2.1 j j0 j1, fun j j0 j1 => by rw [gup_ne (by omega), gup_ne (by omega), hfw.1 803 (by omega)]; exact hr9.2.2.2.1 j j0 j1, by rw [gup_k (by omega), gup_k (by omega), hfw.2 41 (by omega) (by omega) (by omega)]; exact hr9.2.2.2.2.1, by rw [gup_k (by omega)]; exact gup_s⟩
                · refine gX_aloadn dX12_takeHabit_141 rfl ?_
                  refine gX_iconst dX12_takeHabit_142 ⟨by decide, by decide⟩ ?_
                  refine gX_aloadn dX12_takeHabit_143 rfl ?_
                  refine gX_gI 18 dX12_takeHabit_144 fdX12_167 rfl (Or.inl rfl) hM.1 ?_
                  rw [show (gup Vw 775 42 (clT ys (tkLet ys (tkLet ys s.1)) 6 3 0)) 775 18 = (pkB ys (leF ys 321 (pkB ys s.1.1))) by rw [gup_k (by omega)]; exact hw18]
                  refine gX_virt (J := iX12_fails) (av := [gi 1, gi (pkB ys (leF ys 321 (pkB ys s.1.1)))]) (a := 775) (st := []) dX12_takeHabit_147 lkX12_178 kX12_fails vX12_fails (gFit_m (by decide)) hM.1 rfl rfl (Nat.le_of_ble_eq_true rfl) (Nat.zero_le _) (Nat.zero_le _) rfl ?_
                  refine m_fails hM ?_
                  show gX l E _ 150 [some (ga 775), some (gi (clN ys s)), some (gi 0), some (gi 0)] [gi 1] (K, R, gup (gup Vw 775 42 (clT ys (tkLet ys (tkLet ys s.1)) 6 3 0)) 775 17 (pkB ys (leF ys 321 (pkB ys s.1.1)))) _ _
                  refine gX_goto (tgt := 154) dX12_takeHabit_150 (by decide) ?_
                  refine gX_istoren dX12_takeHabit_154 (show (3 : Nat) < 4 from by decide) (ls2 := [some (ga 775), some (gi (clN ys s)), some (gi 0), some (gi 1)]) rfl ?_
                  refine gX_aloadn dX12_takeHabit_155 rfl ?_
                  refine gX_iloadn dX12_takeHabit_156 rfl ?_
                  refine gX_ifle (tgt := 167) dX12_takeHabit_157 (by decide) (fun i6 => by exfalso; omega) (fun i6 => ?_)
                  refine gX_aloadn dX12_takeHabit_160 rfl ?_
                  refine gX_gI 18 dX12_takeHabit_161 fdX12_167 rfl (Or.inl rfl) hM.1 ?_
                  rw [show gup (gup Vw 775 42 (clT ys (tkLet ys (tkLet ys s.1)) 6 3 0)) 775 17 (pkB ys (leF ys 321 (pkB ys s.1.1))) 775 18 = (pkB ys (leF ys 321 (pkB ys s.1.1))) by rw [gup_k (by omega), gup_k (by omega)]; exact hw18]
                  refine gX_goto (tgt := 171) dX12_takeHabit_164 (by decide) ?_
                  refine gX_pI 18 dX12_takeHabit_171 fdX12_167 fpX12_167 rfl (Or.inl rfl) hM.1 ?_
                  have er : (rdCl ys s) = (0, hF 1 (pkB ys (leF ys 321 (pkB ys s.1.1))) ((tkLet ys (tkLet ys s.1)), s.2.1, s.2.2.1, s.2.2.2.1, s.2.2.2.2.1, s.2.2.2.2.2.1, (clT ys (tkLet ys (tkLet ys s.1)) 6 3 0))) := by
                    rw [er0]
                    have e5 : clR ys s = (0, hF 1 (pkB ys (leF ys 321 (pkB ys s.1.1))) ((tkLet ys (tkLet ys s.1)), s.2.1, s.2.2.1, s.2.2.2.1, s.2.2.2.2.1, s.2.2.2.2.2.1, (clT ys (tkLet ys (tkLet ys s.1)) 6 3 0))) := by
                      unfold clR rdHab
                      rw [if_neg (by omega), if_neg (fun y => by omega), if_pos ⟨hc3, by rw [erh]; show (clT ys (tkLet ys (tkLet ys s.1)) 6 3 0) = -1; omega⟩, erh]
                      rfl
                    rw [e5, if_pos rfl]
                  refine gX_iloadn dX12_takeHabit_174 rfl ?_
                  refine gX_ifle (tgt := 182) dX12_takeHabit_175 (by decide) (fun j1 => by exfalso; omega) (fun j1 => ?_)
                  refine gX_iloadn dX12_takeHabit_178 rfl ?_
                  refine gX_goto (tgt := 189) dX12_takeHabit_179 (by decide) ?_
                  refine gX_istoren dX12_takeHabit_189 (show (3 : Nat) < 4 from by decide) (ls2 := [some (ga 775), some (gi (clN ys s)), some (gi 0), some (gi 1)]) rfl ?_
                  refine gX_aloadn dX12_takeHabit_190 rfl ?_
                  refine gX_gR 40 dX12_takeHabit_191 fdX12_95 rfl rfl hM.1 (mR40 hM) ?_
                  refine gX_iloadn dX12_takeHabit_194 rfl ?_
                  refine gX_aloadn dX12_takeHabit_195 rfl ?_
                  refine gX_gI 19 dX12_takeHabit_196 fdX12_185 rfl (Or.inl rfl) hM.1 ?_
                  refine gX_iast dX12_takeHabit_199 (mA40 hM) (by omega) (by omega) ?_
                  exact tF _ _ _ _ _ _ (by omega) (by rw [er]; rfl) (by rw [er, gup_ne (by omega), gup_k (by omega)]; exact gup_s) (((((hfs.trans hfw.h).uf (by omega)).uf (by omega)).uf (by omega)).up (by omega))
            · exfalso
              omega
          · exfalso
            omega
        have erh : rh1 ys (clN ys s) ((tkLet ys s.1), s.2) = ((tkLet ys s.1), s.2) := (if_neg (by omega)).trans (if_neg (by omega))
        refine gX_iloadn dX12_takeHabit_84 rfl ?_
        refine gX_ifne (tgt := 96) dX12_takeHabit_85 (by decide) (fun o1 => ?_) (fun o1 => ?_)
        · refine gX_iloadn dX12_takeHabit_96 rfl ?_
          refine gX_iconst dX12_takeHabit_97 ⟨by decide, by decide⟩ ?_
          refine gX_icmpne (tgt := 117) dX12_takeHabit_98 (by decide) (fun o2 => ?_) (fun o2 => ?_)
          · refine gX_iloadn dX12_takeHabit_117 rfl ?_
            refine gX_iconst dX12_takeHabit_118 ⟨by decide, by decide⟩ ?_
            refine gX_icmpne (tgt := 174) dX12_takeHabit_119 (by decide) (fun o3 => ?_) (fun o3 => ?_)
            · refine tN ((tkLet ys s.1), s.2) _ _ _ _ ⟨by omega, by omega⟩ ?_ hsz.2.2.1 hs1 hfs
              rw [er0]
              have e5 : clR ys s = rhC ys (clN ys s) ((tkLet ys s.1), s.2) := by
                unfold clR rdHab
                rw [if_neg (by omega), if_neg (fun y => by omega), if_neg (fun y => by omega), erh]
              rw [e5]
            · exfalso
              omega
          · exfalso
            omega
        · exfalso
          omega
    · refine gX_iconst dX12_takeHabit_21 ⟨by decide, by decide⟩ ?_
      refine gX_goto (tgt := 47) dX12_takeHabit_22 (by decide) ?_
      refine gX_istoren dX12_takeHabit_47 (show (2 : Nat) < 4 from by decide) (ls2 := [some (ga 775), some (gi (clN ys s)), some (gi 1), none]) rfl ?_
      refine gX_iloadn dX12_takeHabit_48 rfl ?_
      refine gX_iflt (tgt := 56) dX12_takeHabit_49 (by decide) (fun m18 => ?_) (fun m18 => ?_)
      · refine gX_aloadn dX12_takeHabit_56 rfl ?_
        refine gX_iloadn dX12_takeHabit_57 rfl ?_
        refine gX_ifeq (tgt := 65) dX12_takeHabit_58 (by decide) (fun m19 => by exfalso; omega) (fun m19 => ?_)
        refine gX_iconst dX12_takeHabit_61 ⟨by decide, by decide⟩ ?_
        refine gX_goto (tgt := 66) dX12_takeHabit_62 (by decide) ?_
        refine gX_aloadn dX12_takeHabit_66 rfl ?_
        refine gX_gI 18 dX12_takeHabit_67 fdX12_167 rfl (Or.inl rfl) hM.1 ?_
        rw [ha18]
        refine gX_virt (J := iX12_fails) (av := [gi 3, gi (pkB ys s.1.1)]) (a := 775) (st := []) dX12_takeHabit_70 lkX12_178 kX12_fails vX12_fails (gFit_m (by decide)) hM.1 rfl rfl (Nat.le_of_ble_eq_true rfl) (Nat.zero_le _) (Nat.zero_le _) rfl ?_
        refine m_fails hM ?_
        show gX l E _ 73 [some (ga 775), some (gi (clN ys s)), some (gi 1), none] [gi 3] (K, R, gup Va 775 17 (pkB ys s.1.1)) _ _
        refine gX_iret dX12_takeHabit_73 (Or.inl rfl) ?_
        have hnr : noRm s.2.1 s.2.2.2.2.1 (clN ys s) = 1 := by
          unfold noRm
          first
          | (rw [if_pos (by omega), if_pos (by omega)])
          | (rw [if_neg (by omega), if_neg (by omega)])
        have er : (rdCl ys s) = (0, hF 3 (pkB ys s.1.1) ((tkLet ys s.1), s.2)) := by
          unfold rdCl
          rw [if_neg (by omega), if_pos hnr]
          rfl
        rw [er] at hQ
        exact hQ _ (fun z => by have z9 : (3 : Int) = 0 := z; omega) gup_s (hfa.h.uf (by omega))
      · refine gX_iloadn dX12_takeHabit_52 rfl ?_
        refine gX_ifeq (tgt := 74) dX12_takeHabit_53 (by decide) (fun m20 => by exfalso; omega) (fun m20 => ?_)
        refine gX_aloadn dX12_takeHabit_56 rfl ?_
        refine gX_iloadn dX12_takeHabit_57 rfl ?_
        refine gX_ifeq (tgt := 65) dX12_takeHabit_58 (by decide) (fun m21 => by exfalso; omega) (fun m21 => ?_)
        refine gX_iconst dX12_takeHabit_61 ⟨by decide, by decide⟩ ?_
        refine gX_goto (tgt := 66) dX12_takeHabit_62 (by decide) ?_
        refine gX_aloadn dX12_takeHabit_66 rfl ?_
        refine gX_gI 18 dX12_takeHabit_67 fdX12_167 rfl (Or.inl rfl) hM.1 ?_
        rw [ha18]
        refine gX_virt (J := iX12_fails) (av := [gi 3, gi (pkB ys s.1.1)]) (a := 775) (st := []) dX12_takeHabit_70 lkX12_178 kX12_fails vX12_fails (gFit_m (by decide)) hM.1 rfl rfl (Nat.le_of_ble_eq_true rfl) (Nat.zero_le _) (Nat.zero_le _) rfl ?_
        refine m_fails hM ?_
        show gX l E _ 73 [some (ga 775), some (gi (clN ys s)), some (gi 1), none] [gi 3] (K, R, gup Va 775 17 (pkB ys s.1.1)) _ _
        refine gX_iret dX12_takeHabit_73 (Or.inl rfl) ?_
        have hnr : noRm s.2.1 s.2.2.2.2.1 (clN ys s) = 1 := by
          unfold noRm
          first
          | (rw [if_pos (by omega), if_pos (by omega)])
          | (rw [if_neg (by omega), if_neg (by omega)])
        have er : (rdCl ys s) = (0, hF 3 (pkB ys s.1.1) ((tkLet ys s.1), s.2)) := by
          unfold rdCl
          rw [if_neg (by omega), if_pos hnr]
          rfl
        rw [er] at hQ
        exact hQ _ (fun z => by have z9 : (3 : Int) = 0 := z; omega) gup_s (hfa.h.uf (by omega))
end MD18
