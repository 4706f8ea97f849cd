/-! The reference: chances and takes of the work. Written by wip/whole/tools/mk_md21.py. -/
/-- the chances and takes of the book at work -/
def tcI (V : Int → Int → Int) (ch tk : List Int) : Prop := ch.length = 6 ∧ tk.length = 6 ∧ ∀ j : Int, 0 ≤ j → j < 6 → V 789 (60 + j) = lat ch j ∧ V 788 (60 + j) = lat tk j
def tcF (V V' : Int → Int → Int) : Prop := ∀ a, a ≠ 788 → a ≠ 789 → V' a = V a
def tcO (V V' : Int → Int → Int) : Prop := tcF V V' ∧ ∀ k, ¬ (60 ≤ k ∧ k < 66) → V' 788 k = V 788 k ∧ V' 789 k = V 789 k
section MD21
variable {l : Launch} {E : gE} {d : Nat} {K : List gK} {R V : Int → Int → Int} {h n m : Int} {Q : gQ} {ch tk : List Int}
set_option maxRecDepth 4000 in
theorem m_isTaken (hM : mdK K R) (h0 : 0 ≤ h) (h1 : h < 6) (hm : 1 ≤ m) (hn : 0 ≤ n) (hb : 0 ≤ lat ch h ∧ lat ch h ≤ 1000000 ∧ 0 ≤ lat tk h ∧ lat tk h ≤ 1000000) (hc : tcI V ch tk) (hQ : ∀ V', tcI V' (bump ch h) (tkL tk h (tkn n m)) → tcO V V' → Q (some (gi (tkn n m))) (K, R, V')) : gC l E (d + 1) iX12_isTaken [ga 775, gi h, gi n, gi m] (K, R, V) Q := by
  refine gC_of kX12_isTaken (ls := [some (ga 775), some (gi h), some (gi n), some (gi m), none]) rfl (Nat.le_of_ble_eq_true rfl) ?_
  have hch := hc.2.2 h h0 h1
  have hl1 := hc.1
  have hl2 := hc.2.1
  refine gX_aloadn dX12_isTaken_0 rfl ?_
  refine gX_gR 14 dX12_isTaken_1 fdX12_49 rfl rfl hM.1 (mR14 hM) ?_
  refine gX_bipush dX12_isTaken_4 (by decide) ⟨by decide, by decide⟩ ?_
  refine gX_iloadn dX12_isTaken_6 rfl ?_
  refine gX_iadd dX12_isTaken_7 ⟨by omega, by omega⟩ ?_
  refine gX_dup2 dX12_isTaken_8 rfl rfl ?_
  refine gX_iald dX12_isTaken_9 (mA14 hM) (by omega) (by omega) ?_
  rw [hch.1]
  refine gX_iconst dX12_isTaken_10 ⟨by decide, by decide⟩ ?_
  refine gX_iadd dX12_isTaken_11 ⟨by omega, by omega⟩ ?_
  refine gX_iast dX12_isTaken_12 (mA14 hM) (by omega) (by omega) ?_
  refine gX_iloadn dX12_isTaken_13 rfl ?_
  refine gX_iloadn dX12_isTaken_14 rfl ?_
  refine gX_irem dX12_isTaken_15 (by omega) (by omega) ?_
  refine gX_ifne (tgt := 23) dX12_isTaken_16 (by decide) (fun w1 => ?_) (fun w1 => ?_)
  · refine gX_iconst dX12_isTaken_23 ⟨by decide, by decide⟩ ?_
    refine gX_istore dX12_isTaken_24 (show (4 : Nat) < 5 from by decide) (ls2 := [some (ga 775), some (gi h), some (gi n), some (gi m), some (gi 0)]) rfl ?_
    refine gX_aloadn dX12_isTaken_26 rfl ?_
    refine gX_gR 13 dX12_isTaken_27 fdX12_46 rfl rfl hM.1 (mR13 hM) ?_
    refine gX_bipush dX12_isTaken_30 (by decide) ⟨by decide, by decide⟩ ?_
    refine gX_iloadn dX12_isTaken_32 rfl ?_
    refine gX_iadd dX12_isTaken_33 ⟨by omega, by omega⟩ ?_
    refine gX_dup2 dX12_isTaken_34 rfl rfl ?_
    refine gX_iald dX12_isTaken_35 (mA13 hM) (by omega) (by omega) ?_
    rw [show gup V 789 (60 + h) (lat ch h + 1) 788 (60 + h) = lat tk h by rw [gup_ne (by omega)]; exact hch.2]
    refine gX_iload dX12_isTaken_36 rfl ?_
    refine gX_ifeq (tgt := 45) dX12_isTaken_38 (by decide) (fun w2 => ?_) (fun w2 => by exfalso; omega)
    refine gX_iconst dX12_isTaken_45 ⟨by decide, by decide⟩ ?_
    refine gX_iadd dX12_isTaken_46 ⟨by omega, by omega⟩ ?_
    refine gX_iast dX12_isTaken_47 (mA13 hM) (by omega) (by omega) ?_
    refine gX_iload dX12_isTaken_48 rfl ?_
    refine gX_iret dX12_isTaken_50 (Or.inr ⟨rfl, Or.inl rfl⟩) ?_
    have et : tkn n m = 0 := by
      unfold tkn
      rw [if_neg (by omega)]
    rw [et] at hQ
    have eT : tkL tk h 0 = tk := if_neg (by decide)
    rw [eT] at hQ
    refine hQ _ ⟨by unfold bump; rw [lpL]; exact hc.1, hc.2.1, fun j j0 j1 => ?_⟩ ⟨fun a h1 h2 => by rw [gup_ne h1, gup_ne h2], fun k hk => ⟨by rw [gup_k (by omega), gup_ne (by omega)], by rw [gup_ne (by omega), gup_k (by omega)]⟩⟩
    have hj := hc.2.2 j j0 j1
    unfold bump
    rw [latP (by omega) (by omega) j0]
    by_cases ej : j = h
    · rw [if_pos ej, ej]
      exact ⟨by rw [gup_ne (by omega)]; exact gup_s, by rw [show gup _ 788 _ _ 788 _ = _ from gup_s]; omega⟩
    · rw [if_neg ej, gup_ne (by omega), gup_k (by omega), gup_k (by omega), gup_ne (by omega)]
      exact hj
  · refine gX_iconst dX12_isTaken_19 ⟨by decide, by decide⟩ ?_
    refine gX_goto (tgt := 24) dX12_isTaken_20 (by decide) ?_
    refine gX_istore dX12_isTaken_24 (show (4 : Nat) < 5 from by decide) (ls2 := [some (ga 775), some (gi h), some (gi n), some (gi m), some (gi 1)]) rfl ?_
    refine gX_aloadn dX12_isTaken_26 rfl ?_
    refine gX_gR 13 dX12_isTaken_27 fdX12_46 rfl rfl hM.1 (mR13 hM) ?_
    refine gX_bipush dX12_isTaken_30 (by decide) ⟨by decide, by decide⟩ ?_
    refine gX_iloadn dX12_isTaken_32 rfl ?_
    refine gX_iadd dX12_isTaken_33 ⟨by omega, by omega⟩ ?_
    refine gX_dup2 dX12_isTaken_34 rfl rfl ?_
    refine gX_iald dX12_isTaken_35 (mA13 hM) (by omega) (by omega) ?_
    rw [show gup V 789 (60 + h) (lat ch h + 1) 788 (60 + h) = lat tk h by rw [gup_ne (by omega)]; exact hch.2]
    refine gX_iload dX12_isTaken_36 rfl ?_
    refine gX_ifeq (tgt := 45) dX12_isTaken_38 (by decide) (fun w3 => by exfalso; omega) (fun w3 => ?_)
    refine gX_iconst dX12_isTaken_41 ⟨by decide, by decide⟩ ?_
    refine gX_goto (tgt := 46) dX12_isTaken_42 (by decide) ?_
    refine gX_iadd dX12_isTaken_46 ⟨by omega, by omega⟩ ?_
    refine gX_iast dX12_isTaken_47 (mA13 hM) (by omega) (by omega) ?_
    refine gX_iload dX12_isTaken_48 rfl ?_
    refine gX_iret dX12_isTaken_50 (Or.inr ⟨rfl, Or.inr rfl⟩) ?_
    have et : tkn n m = 1 := by
      unfold tkn
      rw [if_pos (by omega)]
    rw [et] at hQ
    have eT : tkL tk h 1 = lput tk h (lat tk h + 1) := if_pos rfl
    rw [eT] at hQ
    refine hQ _ ⟨by unfold bump; rw [lpL]; exact hc.1, by rw [lpL]; exact hc.2.1, fun j j0 j1 => ?_⟩ ⟨fun a h1 h2 => by rw [gup_ne h1, gup_ne h2], fun k hk => ⟨by rw [gup_k (by omega), gup_ne (by omega)], by rw [gup_ne (by omega), gup_k (by omega)]⟩⟩
    have hj := hc.2.2 j j0 j1
    unfold bump
    rw [latP (by omega) (by omega) j0, latP (by omega) (by omega) j0]
    by_cases ej : j = h
    · rw [if_pos ej, if_pos ej, ej]
      exact ⟨by rw [gup_ne (by omega)]; exact gup_s, gup_s⟩
    · rw [if_neg ej, if_neg ej, gup_ne (by omega), gup_k (by omega), gup_k (by omega), gup_ne (by omega)]
      exact hj
end MD21
