/-! The reference: a word put for another. Written by wip/whole/tools/mk_md22.py. -/
/-- counts, chances, takes -/
abbrev ccT : Type := List Int × List Int × List Int
def chF (fr to fe : List Int) (w : Int) : Nat → Int → ccT → Int × ccT
  | 0, _, t => (w, t)
  | n + 1, k, t => if lat fr k = w then (if tkn (lat t.1 k + 1) (lat fe k) = 1 then lat to k else w, lput t.1 k (lat t.1 k + 1), bump t.2.1 0, tkL t.2.2 0 (tkn (lat t.1 k + 1) (lat fe k))) else chF fr to fe w n (k + 1) t
theorem foK_no {fr to fe : List Int} {w i : Int} : ∀ (n : Nat) (k : Int) (t : fS), (∀ j : Int, k ≤ j → j < k + n → lat fr j ≠ w) → foK fr to fe w i n k t = t
  | 0, _, _, _ => rfl
  | n + 1, k, t, h => by
    show foK fr to fe w i n (k + 1) (if _ then _ else _) = t
    rw [if_neg (h k (Int.le_refl _) (by omega))]
    exact foK_no n (k + 1) t (fun j h1 h2 => h j (by omega) (by omega))
theorem nodup_lat {fr : List Int} (h : fr.Nodup) {j k : Int} (j0 : 0 ≤ j) (j1 : j < fr.length) (k0 : 0 ≤ k) (k1 : k < fr.length) (e : lat fr j = lat fr k) : j = k := by
  rw [lat_in j0 (by omega), lat_in k0 (by omega)] at e
  have hp := List.pairwise_iff_getElem.mp (show fr.Pairwise (fun a b => a ≠ b) from h)
  rcases Nat.lt_trichotomy j.toNat k.toNat with c | c | c
  · exact absurd e (hp _ _ (by omega) (by omega) c)
  · omega
  · exact absurd e.symm (hp _ _ (by omega) (by omega) c)
/-- the class looks at all, the reference stops at the first: it is the only one -/
theorem foK_ch {fr to fe : List Int} {w i : Int} (hn : fr.Nodup) : ∀ (n : Nat) (k : Int) (t : fS), 0 ≤ k → k + n = fr.length → lat t.1 i = w → 0 ≤ i → i < t.1.length → foK fr to fe w i n k t = (lput t.1 i (chF fr to fe w n k t.2).1, (chF fr to fe w n k t.2).2)
  | 0, k, t, _, _, hw, i0, i1 => by
    show t = (lput t.1 i w, t.2)
    have e : lput t.1 i w = t.1 := by
      unfold lput
      rw [if_neg (by omega), ← hw, lat_in i0 (by omega)]
      exact List.set_getElem_self _
    rw [e]
  | n + 1, k, t, h0, h1, hw, i0, i1 => by
    have e1 : foK fr to fe w i (n + 1) k t = foK fr to fe w i n (k + 1) (if lat fr k = w then fo1 to fe i k t else t) := rfl
    have e2 : chF fr to fe w (n + 1) k t.2 = if lat fr k = w then (if tkn (lat t.2.1 k + 1) (lat fe k) = 1 then lat to k else w, lput t.2.1 k (lat t.2.1 k + 1), bump t.2.2.1 0, tkL t.2.2.2 0 (tkn (lat t.2.1 k + 1) (lat fe k))) else chF fr to fe w n (k + 1) t.2 := rfl
    rw [e1, e2]
    by_cases c : lat fr k = w
    · rw [if_pos c, if_pos c, foK_no n (k + 1) _ (fun j h2 h3 z => by have := nodup_lat hn (j := j) (k := k) (by omega) (by omega) h0 (by omega) (by rw [z, c]); omega)]
      unfold fo1
      by_cases ct : tkn (lat t.2.1 k + 1) (lat fe k) = 1
      · rw [if_pos ct, if_pos ct]
      · rw [if_neg ct, if_neg ct]
        have e : lput t.1 i w = t.1 := by
          unfold lput
          rw [if_neg (by omega), ← hw, lat_in i0 (by omega)]
          exact List.set_getElem_self _
        rw [e]
    · rw [if_neg c, if_neg c]
      exact foK_ch hn n (k + 1) t (by omega) (by omega) hw i0 i1
/-- the counts of the for clauses -/
def cnI (V : Int → Int → Int) (cs : List Int) (n : Nat) : Prop := cs.length = n ∧ ∀ j : Int, 0 ≤ j → j < n → V 812 j = lat cs j
def chO (V V' : Int → Int → Int) : Prop := (∀ a, a ≠ 788 → a ≠ 789 → a ≠ 812 → V' a = V a) ∧ ∀ k, ¬ (60 ≤ k ∧ k < 66) → V' 788 k = V 788 k ∧ V' 789 k = V 789 k
section MD22
variable {l : Launch} {E : gE} {d : Nat} {K : List gK} {R V : Int → Int → Int} {h w : Int} {Q : gQ} {t : ccT} {q : gbH}
set_option maxRecDepth 4000 in
theorem m_changed (hM : mdK K R) (hh : 0 ≤ h ∧ h < 4) (hr : rhA V h q) (hfe : ∀ k : Int, 0 ≤ k → k < q.1.length → 1 ≤ lat q.2.2.1 k) (htc : tcI V t.2.1 t.2.2) (hcn : cnI V t.1 q.1.length) (hcb : ∀ k : Int, -1 ≤ lat t.1 k ∧ lat t.1 k ≤ 1000000) (hb0 : 0 ≤ lat t.2.1 0 ∧ lat t.2.1 0 ≤ 1000000 ∧ 0 ≤ lat t.2.2 0 ∧ lat t.2.2 0 ≤ 1000000) (hQ : ∀ V', tcI V' (chF q.1 q.2.1 q.2.2.1 w q.1.length 0 t).2.2.1 (chF q.1 q.2.1 q.2.2.1 w q.1.length 0 t).2.2.2 → cnI V' (chF q.1 q.2.1 q.2.2.1 w q.1.length 0 t).2.1 q.1.length → chO V V' → Q (some (gi (chF q.1 q.2.1 q.2.2.1 w q.1.length 0 t).1)) (K, R, V')) : gC l E (d + 2) iX12_changed [ga 775, gi h, gi w] (K, R, V) Q := by
  refine gC_of kX12_changed (ls := [some (ga 775), some (gi h), some (gi w), none]) rfl (Nat.le_of_ble_eq_true rfl) ?_
  have hl40 := hr.2.1
  have lp : ∀ (jj : Nat) (k : Int) (bc bs : Nat), (q.1.length : Int) - k < (jj : Int) → 0 ≤ k → k ≤ (q.1.length : Int) → (∀ V', tcI V' (chF q.1 q.2.1 q.2.2.1 w (q.1.length - k.toNat) k t).2.2.1 (chF q.1 q.2.1 q.2.2.1 w (q.1.length - k.toNat) k t).2.2.2 → cnI V' (chF q.1 q.2.1 q.2.2.1 w (q.1.length - k.toNat) k t).2.1 q.1.length → chO V V' → Q (some (gi (chF q.1 q.2.1 q.2.2.1 w (q.1.length - k.toNat) k t).1)) (K, R, V')) → gX l E (gFm E (d + 2) iX12_changed Q) 2 [some (ga 775), some (gi h), some (gi w), some (gi k)] [] (K, R, V) bc bs := by
    intro jj
    induction jj with
    | zero =>
      intro k bc bs hj q0 q1 hq2
      exfalso; omega
    | succ jj ih =>
      intro k bc bs hj q0 q1 hq2
      refine gX_iloadn dX12_changed_2 rfl ?_
      refine gX_aloadn dX12_changed_3 rfl ?_
      refine gX_gR 29 dX12_changed_4 fdX12_65 rfl rfl hM.1 (mR29 hM) ?_
      refine gX_iloadn dX12_changed_7 rfl ?_
      refine gX_iald dX12_changed_8 (mA29 hM) (by omega) (by omega) ?_
      rw [hr.1]
      refine gX_icmpge (tgt := 81) dX12_changed_9 (by decide) (fun b1 => ?_) (fun b1 => ?_)
      · refine gX_iloadn dX12_changed_81 rfl ?_
        refine gX_iret dX12_changed_82 (Or.inl rfl) ?_
        have ei : q.1.length - k.toNat = 0 := by omega
        rw [ei] at hq2
        exact hq2 V htc hcn ⟨fun _ _ _ _ => rfl, fun _ _ => ⟨rfl, rfl⟩⟩
      · have hrk := fun z0 z1 => hr.2.2.1 k z0 z1
        have hck := hcb k
        have hl4 := hr.2.1
        have hcl := hcn.1
        refine gX_aloadn dX12_changed_12 rfl ?_
        refine gX_gR 30 dX12_changed_13 fdX12_68 rfl rfl hM.1 (mR30 hM) ?_
        refine gX_iconst dX12_changed_16 ⟨by decide, by decide⟩ ?_
        refine gX_iloadn dX12_changed_17 rfl ?_
        refine gX_imul dX12_changed_18 ⟨by omega, by omega⟩ ?_
        refine gX_iloadn dX12_changed_19 rfl ?_
        refine gX_iadd dX12_changed_20 ⟨by omega, by omega⟩ ?_
        refine gX_iald dX12_changed_21 (mA30 hM) (by omega) (by omega) ?_
        rw [(hrk (by omega) (by omega)).1]
        refine gX_iloadn dX12_changed_22 rfl ?_
        refine gX_icmpne (tgt := 75) dX12_changed_23 (by decide) (fun b2 => ?_) (fun b2 => ?_)
        · refine gX_iinc dX12_changed_75 rfl (show (3 : Nat) < 4 from by decide) ⟨by omega, by omega⟩ (ls2 := [some (ga 775), some (gi h), some (gi w), some (gi (k + 1))]) rfl ?_
          refine gX_goto (tgt := 2) dX12_changed_78 (by decide) ?_
          have ek : q.1.length - k.toNat = (q.1.length - (k + 1).toNat) + 1 := by omega
          have e1 : chF q.1 q.2.1 q.2.2.1 w (q.1.length - k.toNat) k t = if lat q.1 k = w then (if tkn (lat t.1 k + 1) (lat q.2.2.1 k) = 1 then lat q.2.1 k else w, lput t.1 k (lat t.1 k + 1), bump t.2.1 0, tkL t.2.2 0 (tkn (lat t.1 k + 1) (lat q.2.2.1 k))) else chF q.1 q.2.1 q.2.2.1 w (q.1.length - (k + 1).toNat) (k + 1) t := by rw [ek]; rfl
          rw [e1, if_neg (by omega)] at hq2
          exact ih (k + 1) _ _ (by omega) (by omega) (by omega) hq2
        · refine gX_aloadn dX12_changed_26 rfl ?_
          refine gX_gR 56 dX12_changed_27 fdX12_123 rfl rfl hM.1 (mR56 hM) ?_
          refine gX_iloadn dX12_changed_30 rfl ?_
          refine gX_dup2 dX12_changed_31 rfl rfl ?_
          refine gX_iald dX12_changed_32 (mA56 hM) (by omega) (by omega) ?_
          rw [hcn.2 k (by omega) (by omega)]
          refine gX_iconst dX12_changed_33 ⟨by decide, by decide⟩ ?_
          refine gX_iadd dX12_changed_34 ⟨by omega, by omega⟩ ?_
          refine gX_iast dX12_changed_35 (mA56 hM) (by omega) (by omega) ?_
          refine gX_aloadn dX12_changed_36 rfl ?_
          refine gX_iconst dX12_changed_37 ⟨by decide, by decide⟩ ?_
          refine gX_aloadn dX12_changed_38 rfl ?_
          refine gX_gR 56 dX12_changed_39 fdX12_123 rfl rfl hM.1 (mR56 hM) ?_
          refine gX_iloadn dX12_changed_42 rfl ?_
          refine gX_iald dX12_changed_43 (mA56 hM) (by omega) (by omega) ?_
          rw [show gup V 812 k (lat t.1 k + 1) 812 k = lat t.1 k + 1 from gup_s]
          refine gX_aloadn dX12_changed_44 rfl ?_
          refine gX_gR 32 dX12_changed_45 fdX12_74 rfl rfl hM.1 (mR32 hM) ?_
          refine gX_iconst dX12_changed_48 ⟨by decide, by decide⟩ ?_
          refine gX_iloadn dX12_changed_49 rfl ?_
          refine gX_imul dX12_changed_50 ⟨by omega, by omega⟩ ?_
          refine gX_iloadn dX12_changed_51 rfl ?_
          refine gX_iadd dX12_changed_52 ⟨by omega, by omega⟩ ?_
          refine gX_iald dX12_changed_53 (mA32 hM) (by omega) (by omega) ?_
          rw [show gup V 812 k (lat t.1 k + 1) 796 (4 * h + k) = lat q.2.2.1 k by rw [gup_ne (by omega)]; exact (hrk (by omega) (by omega)).2.2]
          refine gX_virt (J := iX12_isTaken) (av := [gi 0, gi (lat t.1 k + 1), gi (lat q.2.2.1 k)]) (a := 775) (st := []) dX12_changed_54 lkX12_342 kX12_isTaken vX12_isTaken (gFit_m (by decide)) hM.1 rfl rfl (Nat.le_of_ble_eq_true rfl) (Nat.zero_le _) (Nat.zero_le _) rfl ?_
          refine m_isTaken (ch := t.2.1) (tk := t.2.2) hM (by omega) (by omega) (hfe k (by omega) (by omega)) (by have := (hcb k).1; omega) ⟨hb0.1, hb0.2.1, hb0.2.2.1, hb0.2.2.2⟩ ⟨htc.1, htc.2.1, fun j j0 j1 => by rw [gup_ne (by omega), gup_ne (by omega)]; exact htc.2.2 j j0 j1⟩ (fun V2 ht2 ho2 => ?_)
          show gX l E _ 57 [some (ga 775), some (gi h), some (gi w), some (gi k)] [gi (tkn (lat t.1 k + 1) (lat q.2.2.1 k))] (K, R, V2) _ _
          refine gX_ifeq (tgt := 73) dX12_changed_57 (by decide) (fun b3 => ?_) (fun b3 => ?_)
          · refine gX_iloadn dX12_changed_73 rfl ?_
            refine gX_iret dX12_changed_74 (Or.inl rfl) ?_
            have ek : q.1.length - k.toNat = (q.1.length - (k + 1).toNat) + 1 := by omega
            have e1 : chF q.1 q.2.1 q.2.2.1 w (q.1.length - k.toNat) k t = if lat q.1 k = w then (if tkn (lat t.1 k + 1) (lat q.2.2.1 k) = 1 then lat q.2.1 k else w, lput t.1 k (lat t.1 k + 1), bump t.2.1 0, tkL t.2.2 0 (tkn (lat t.1 k + 1) (lat q.2.2.1 k))) else chF q.1 q.2.1 q.2.2.1 w (q.1.length - (k + 1).toNat) (k + 1) t := by rw [ek]; rfl
            rw [e1, if_pos (by omega)] at hq2
            have ht9 := tkn_01 (lat t.1 k + 1) (lat q.2.2.1 k)
            rw [if_neg (by omega)] at hq2
            refine hq2 V2 ht2 ⟨by rw [lpL]; exact hcn.1, fun j j0 j1 => ?_⟩ ⟨fun a h1 h2 h3 => by rw [ho2.1 a h1 h2, gup_ne h3], fun k9 hk9 => ⟨by rw [(ho2.2 k9 hk9).1, gup_ne (by omega)], by rw [(ho2.2 k9 hk9).2, gup_ne (by omega)]⟩⟩
            rw [ho2.1 812 (by omega) (by omega), latP (by omega) (by omega) j0]
            by_cases ej : j = k
            · rw [if_pos ej, ej]; exact gup_s
            · rw [if_neg ej, gup_k ej]; exact hcn.2 j j0 j1
          · refine gX_aloadn dX12_changed_60 rfl ?_
            refine gX_gR 31 dX12_changed_61 fdX12_71 rfl rfl hM.1 (mR31 hM) ?_
            refine gX_iconst dX12_changed_64 ⟨by decide, by decide⟩ ?_
            refine gX_iloadn dX12_changed_65 rfl ?_
            refine gX_imul dX12_changed_66 ⟨by omega, by omega⟩ ?_
            refine gX_iloadn dX12_changed_67 rfl ?_
            refine gX_iadd dX12_changed_68 ⟨by omega, by omega⟩ ?_
            refine gX_iald dX12_changed_69 (mA31 hM) (by omega) (by omega) ?_
            rw [show V2 795 (4 * h + k) = lat q.2.1 k by rw [ho2.1 795 (by omega) (by omega), gup_ne (by omega)]; exact (hrk (by omega) (by omega)).2.1]
            refine gX_goto (tgt := 74) dX12_changed_70 (by decide) ?_
            refine gX_iret dX12_changed_74 (Or.inl rfl) ?_
            have ek : q.1.length - k.toNat = (q.1.length - (k + 1).toNat) + 1 := by omega
            have e1 : chF q.1 q.2.1 q.2.2.1 w (q.1.length - k.toNat) k t = if lat q.1 k = w then (if tkn (lat t.1 k + 1) (lat q.2.2.1 k) = 1 then lat q.2.1 k else w, lput t.1 k (lat t.1 k + 1), bump t.2.1 0, tkL t.2.2 0 (tkn (lat t.1 k + 1) (lat q.2.2.1 k))) else chF q.1 q.2.1 q.2.2.1 w (q.1.length - (k + 1).toNat) (k + 1) t := by rw [ek]; rfl
            rw [e1, if_pos (by omega)] at hq2
            have ht9 := tkn_01 (lat t.1 k + 1) (lat q.2.2.1 k)
            rw [if_pos (by omega)] at hq2
            refine hq2 V2 ht2 ⟨by rw [lpL]; exact hcn.1, fun j j0 j1 => ?_⟩ ⟨fun a h1 h2 h3 => by rw [ho2.1 a h1 h2, gup_ne h3], fun k9 hk9 => ⟨by rw [(ho2.2 k9 hk9).1, gup_ne (by omega)], by rw [(ho2.2 k9 hk9).2, gup_ne (by omega)]⟩⟩
            rw [ho2.1 812 (by omega) (by omega), latP (by omega) (by omega) j0]
            by_cases ej : j = k
            · rw [if_pos ej, ej]; exact gup_s
            · rw [if_neg ej, gup_k ej]; exact hcn.2 j j0 j1
  refine gX_iconst dX12_changed_0 ⟨by decide, by decide⟩ ?_
  refine gX_istoren dX12_changed_1 (show (3 : Nat) < 4 from by decide) (ls2 := [some (ga 775), some (gi h), some (gi w), some (gi 0)]) rfl ?_
  exact lp (q.1.length + 1) 0 _ _ (by omega) (by omega) (by omega) hQ
end MD22
