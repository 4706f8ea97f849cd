/-! The reference: a book read. Written by wip/whole/tools/mk_md36.py. -/
theorem pkF_st {ys : List Int} : ∀ (n : Nat) (a : Int), (ys.length : Int) - a < n → ¬ (pkF ys n a < ys.length ∧ lat ys (pkF ys n a) = 32)
  | 0, a, h => fun z => by have z1 : a < ys.length := z.1; omega
  | n + 1, a, h => by
    show ¬ ((if a < ys.length ∧ lat ys a = 32 then pkF ys n (a + 1) else a) < ys.length ∧ lat ys (if a < ys.length ∧ lat ys a = 32 then pkF ys n (a + 1) else a) = 32)
    by_cases c : a < ys.length ∧ lat ys a = 32
    · rw [if_pos c]; exact pkF_st n (a + 1) (by omega)
    · rw [if_neg c]; exact c
theorem pkB_id {ys : List Int} {a : Int} (h0 : 0 ≤ a) (hl : ys.length ≤ 320) : pkB ys (pkB ys a) = pkB ys a := by
  have h9 : ¬ (pkB ys a < ys.length ∧ lat ys (pkB ys a) = 32) := pkF_st (ys := ys) 321 a (by omega)
  show (if pkB ys a < ys.length ∧ lat ys (pkB ys a) = 32 then _ else pkB ys a) = _
  rw [if_neg h9]
theorem nwF {ys : List Int} {t : tS} (hp : pkB ys t.1 = t.1) (h1 : t.1 < ys.length) (hf : isF (lat ys t.1) = true) : t.1 + 1 ≤ (tkNum ys 0 63 t).2.1 := by
  have e : fiF ys t.1 321 t.1 0 = fiF ys t.1 320 (t.1 + 1) (if t.1 - t.1 < 2 then 0 * 10 + lat ys t.1 - 48 else 0) := if_pos ⟨h1, hf⟩
  have g := fiF_ge (ys := ys) (tok := t.1) 320 (t.1 + 1) (if t.1 - t.1 < 2 then 0 * 10 + lat ys t.1 - 48 else 0)
  rw [← e] at g
  unfold tkNum
  rw [hp, if_pos hf]
  split
  · exact g
  · exact g
theorem rdB_z (ys : List Int) (n : Nat) (s : bR) : rdB ys n 0 s = (0, s) := by
  cases n with
  | zero => rfl
  | succ n => exact if_pos rfl
theorem rdB_1 {ys : List Int} {n : Nat} {s : bR} (hn : 1 ≤ n) (hc : lat ys (pkB ys s.1.1) ≠ -1) : rdB ys n 1 s = rdB ys (n - 1) (rdSt ys s).1 (rdSt ys s).2 := by
  obtain ⟨m, e⟩ : ∃ m, n = m + 1 := ⟨n - 1, by omega⟩
  subst e
  show (if (1 : Int) = 0 then _ else if lat ys (pkB ys s.1.1) = -1 then _ else _) = _
  rw [if_neg (by decide), if_neg hc]; rfl
/-- no byte is below 0 -/
def byP (ys : List Int) : Prop := ∀ y ∈ ys, 0 ≤ y
theorem byP.lt {ys : List Int} (h : byP ys) {x : Int} (h0 : 0 ≤ x) (hx : lat ys x < 0) : (ys.length : Int) ≤ x := by
  refine Decidable.byContradiction fun z => ?_
  rw [lat_in h0 (by omega)] at hx
  have := h _ (List.getElem_mem (h := (by omega : x.toNat < ys.length)))
  omega
theorem byP.nn {ys : List Int} (h : byP ys) {x : Int} (hx : lat ys x ≠ -1) : 0 ≤ lat ys x := by
  rcases lat_cs ys x with z | z
  · exact absurd z hx
  · exact h _ z
theorem rdB_end {ys : List Int} {n : Nat} {t : tS} {tx : List Int} {gs : List gG} {st op lf : Int} (hy : byP ys) (h320 : ys.length ≤ 320) (h0 : 0 ≤ t.1) (h1 : t.1 ≤ ys.length) (hn : 320 ≤ n + t.1) (hc : lat ys (pkB ys t.1) < 0) : rdB ys n 1 (t, tx, gs, st, op, lf) = ((1, ((ys.length : Int), t.2), tx, gs, st, op, lf) : Int × bR) := by
  have hi := pkB_in h0 h1
  have he : pkB ys t.1 = ys.length := by have := hy.lt (by omega) hc; omega
  have hm : lat ys (pkB ys t.1) = -1 := lat_out (by omega)
  cases n with
  | zero =>
    have : t.1 = ys.length := by omega
    show ((1, t, tx, gs, st, op, lf) : Int × bR) = _
    rw [← this]
  | succ n =>
    show (if (1 : Int) = 0 then _ else if lat ys (pkB ys t.1) = -1 then (1, (pkB ys t.1, t.2), tx, gs, st, op, lf) else _) = _
    rw [if_neg (by decide), if_pos hm, he]
theorem rdSt_f {ys : List Int} {t : tS} {tx : List Int} {gs : List gG} {st op lf : Int} (hi : pkB ys (pkB ys t.1) = pkB ys t.1) : rdSt ys (t, tx, gs, st, op, lf) = if isF (lat ys (pkB ys t.1)) = true then rdWord ys ((pkB ys t.1, t.2), tx, gs, st, op, lf) else rdSign ys (lat ys (pkB ys t.1)) ((pkB ys t.1, t.2), tx, gs, st, op, lf) := by
  unfold rdSt pk2
  show (if isF (lat ys (pkB ys (pkB ys t.1))) = true then rdWord ys ((pkB ys (pkB ys t.1), t.2), tx, gs, st, op, lf) else rdSign ys (lat ys (pkB ys (pkB ys t.1))) ((pkB ys (pkB ys t.1), t.2), tx, gs, st, op, lf)) = _
  rw [hi]
/-- a sign that no state takes -/
theorem sgX {ys : List Int} {t : tS} {tx : List Int} {gs : List gG} {st op lf c : Int} (h1 : c ≠ 91) (h2 : c ≠ 93) (h3 : c ≠ 124) (hs : st ≠ 4 ∨ (c ≠ 97 ∧ c ≠ 98)) : rdSign ys c (t, tx, gs, st, op, lf) = (0, bF 1 t.1 (t, tx, gs, st, op, lf)) := by
  have e : rdS1 c (t, tx, gs, st, op, lf) = (0, bF 1 t.1 (t, tx, gs, st, op, lf)) := by
    unfold rdS1
    rw [if_neg h1, if_neg h2]
    by_cases c1 : c = 97
    · rw [if_pos c1]; exact if_neg (fun z => by have z1 : st = 4 := z.1; omega)
    · rw [if_neg c1]
      by_cases c2 : c = 98
      · rw [if_pos c2]; exact if_neg (fun z => by have z1 : st = 4 := z.1; omega)
      · rw [if_neg c2, if_neg h3]
  unfold rdSign
  rw [e]; rfl
/-- behind a bar: anything but a letter -/
theorem sg4 {ys : List Int} {t : tS} {tx : List Int} {gs : List gG} {op lf c : Int} (h : c ≠ 97 ∧ c ≠ 98) : rdSign ys c (t, tx, gs, 4, op, lf) = (0, bF 1 t.1 (t, tx, gs, 4, op, lf)) := by
  by_cases c1 : c = 91
  · subst c1; rfl
  · by_cases c2 : c = 93
    · subst c2; rfl
    · by_cases c3 : c = 124
      · subst c3; rfl
      · exact sgX c1 c2 c3 (Or.inr h)
theorem bar_no {ys : List Int} {n : Nat} {t : tS} {tx : List Int} {gs : List gG} {op lf : Int} (hy : byP ys) (h320 : ys.length ≤ 320) (h0 : 0 ≤ t.1) (h1 : t.1 ≤ ys.length) (hn : 320 ≤ n + t.1) (hc : lat ys (pkB ys t.1) ≠ 97 ∧ lat ys (pkB ys t.1) ≠ 98) : (rdE (rdB ys n 1 (t, tx, gs, 4, op, lf))).1.2.2 = (1, pkB ys t.1) := by
  have hi := pkB_in h0 h1
  by_cases ce : lat ys (pkB ys t.1) < 0
  · have he : pkB ys t.1 = ys.length := by have := hy.lt (by omega) ce; omega
    rw [rdB_end hy h320 h0 h1 hn ce, he]
    rfl
  · have hne : lat ys (pkB ys t.1) ≠ -1 := by omega
    have : t.1 < ys.length := by
      refine Decidable.byContradiction fun z => ce ?_
      rw [lat_out (by omega)]; omega
    rw [rdB_1 (by omega) hne, rdSt_f (pkB_id h0 h320)]
    by_cases cf : isF (lat ys (pkB ys t.1)) = true
    · rw [if_pos cf]
      have e : rdWord ys ((pkB ys t.1, t.2), tx, gs, 4, op, lf) = (0, bF 1 (pkB ys t.1) ((pkB ys t.1, t.2), tx, gs, 4, op, lf)) := if_pos rfl
      rw [e]
      show (rdE (rdB ys (n - 1) 0 _)).1.2.2 = _
      rw [rdB_z]; rfl
    · rw [if_neg cf, sg4 hc]
      show (rdE (rdB ys (n - 1) 0 _)).1.2.2 = _
      rw [rdB_z]; rfl
theorem set_last {gs : List gG} {q p : gG} : (gs ++ [q]).set gs.length p = gs ++ [p] := by
  rw [List.set_append_right _ _ (Nat.le_refl _), Nat.sub_self]; rfl
theorem bar_ok {ys : List Int} {n : Nat} {t : tS} {tx : List Int} {gs : List gG} {H A Z lf : Int} (h320 : ys.length ≤ 320) (h0 : 0 ≤ t.1) (h1 : t.1 ≤ ys.length) (hn : 320 ≤ n + t.1) (hc : lat ys (pkB ys t.1) = 97 ∨ lat ys (pkB ys t.1) = 98) : 1 ≤ n ∧ rdB ys n 1 (t, tx, gs ++ [(0, H, A, Z, 0, [])], 4, gs.length, lf) = rdB ys (n - 1) 1 ((pkB ys t.1 + 1, t.2), tx, gs ++ [(lat ys (pkB ys t.1) - 97, H, A, Z, 0, [])], 1, gs.length, lf) := by
  have hi := pkB_in h0 h1
  have lt : t.1 < ys.length := by
    refine Decidable.byContradiction fun z => ?_
    rw [lat_out (by omega)] at hc; omega
  have hn1 : 1 ≤ n := by omega
  refine ⟨hn1, ?_⟩
  rw [rdB_1 hn1 (by show lat ys (pkB ys t.1) ≠ -1; omega), rdSt_f (pkB_id h0 h320)]
  have nf : ¬ isF (lat ys (pkB ys t.1)) = true := fun z => by unfold isF at z; rw [decide_eq_true_eq] at z; omega
  rw [if_neg nf]
  have ig : inG (gs ++ [(0, H, A, Z, 0, [])]) gs.length = true := inGt.mpr ⟨by omega, by rw [List.length_append]; show (gs.length : Int) < ((gs.length + 1 : Nat) : Int); omega⟩
  have gl : gq (gs ++ [(0, H, A, Z, 0, [])]) gs.length = (0, H, A, Z, 0, []) := by rw [gq_ap (by omega) (by omega), if_pos rfl]
  have rk : ∀ k : Int, rdKind k ((pkB ys t.1, t.2), tx, gs ++ [(0, H, A, Z, 0, [])], 4, gs.length, lf) = ((1, (pkB ys t.1, t.2), tx, gs ++ [(k, H, A, Z, 0, [])], 1, (gs.length : Int), lf) : Int × bR) := fun k => by
    unfold rdKind
    rw [if_pos ⟨rfl, ig⟩]
    show ((1, (pkB ys t.1, t.2), tx, (gs ++ [(0, H, A, Z, 0, [])]).set ((gs.length : Int)).toNat (kdG (gq (gs ++ [(0, H, A, Z, 0, [])]) gs.length) k), 1, (gs.length : Int), lf) : Int × bR) = _
    rw [gl, show ((gs.length : Int)).toNat = gs.length from rfl, set_last]; rfl
  have sg : ∀ k c : Int, lat ys (pkB ys t.1) = c → rdS1 c ((pkB ys t.1, t.2), tx, gs ++ [(0, H, A, Z, 0, [])], 4, gs.length, lf) = rdKind k ((pkB ys t.1, t.2), tx, gs ++ [(0, H, A, Z, 0, [])], 4, gs.length, lf) → rdSign ys c ((pkB ys t.1, t.2), tx, gs ++ [(0, H, A, Z, 0, [])], 4, gs.length, lf) = ((1, (pkB ys t.1 + 1, t.2), tx, gs ++ [(k, H, A, Z, 0, [])], 1, (gs.length : Int), lf) : Int × bR) := fun k c ec e => by
    unfold rdSign
    rw [e, rk k]
    show (if (1 : Int) = 0 then _ else ((tkSig ys c (pkB ys t.1, t.2)).1, (tkSig ys c (pkB ys t.1, t.2)).2, _)) = _
    rw [if_neg (by decide)]
    unfold tkSig
    rw [pkB_id h0 h320, if_pos ec]
  rcases hc with c | c
  · rw [c, sg 0 97 c rfl]; rfl
  · rw [c, sg 1 98 c rfl]; rfl
theorem BI.kp {V V' : Int → Int → Int} {tx : List Int} {gs : List gG} {st op lf : Int} (h : BI V tx gs st op lf) (hf : ∀ a, a ≠ 775 → V' a = V a) (hk : ∀ k, k ≠ 18 → V' 775 k = V 775 k) : BI V' tx gs st op lf := by
  unfold BI at h ⊢
  have hs : ∀ b x i, spA V' b x i = spA V b x i := fun b x i => by unfold spA; rw [hf 778 (by omega), hf 785 (by omega)]
  rw [hk 23 (by omega), hk 24 (by omega), hk 25 (by omega), hk 26 (by omega), hk 27 (by omega), hk 28 (by omega), hf 782 (by omega), hf 791 (by omega), hf 792 (by omega)]
  refine ⟨h.1.nx (fun a _ _ => hf a (by omega)), h.2.1, h.2.2.1, h.2.2.2.1, h.2.2.2.2.1, fun x i x0 x1 i0 i1 => ?_, h.2.2.2.2.2.2.1, h.2.2.2.2.2.2.2⟩
  rw [hs]
  exact h.2.2.2.2.2.1 x i x0 x1 i0 i1
/-- slot 10, the reading's cells and fields -/
def bkF (V V' : Int → Int → Int) : Prop := ∀ a k, ¬ inSl 10 a k → a ≠ 791 → a ≠ 792 → ¬ (a = 775 ∧ 16 ≤ k ∧ k ≤ 28) → V' a k = V a k
theorem bkF.trans {V V1 V2 : Int → Int → Int} (h : bkF V V1) (h2 : bkF V1 V2) : bkF V V2 := fun a k a1 a2 a3 a4 => (h2 a k a1 a2 a3 a4).trans (h a k a1 a2 a3 a4)
theorem tkF.bk {V V' : Int → Int → Int} (h : tkF V V') : bkF V V' := fun a k a1 a2 a3 a4 => h a k (fun z => a1 z.2.2) a2 a3 (by omega)
theorem bkF.e {V V' : Int → Int → Int} {c : Int} (h : bkF V V') (hne : c ≠ 10) : slE V' c V c := by
  have n10 : ∀ a k, inSl c a k → V' a k = V a k := fun a k z => h a k (fun y => by unfold inSl at y z; omega) (fun y => by unfold inSl at z; omega) (fun y => by unfold inSl at z; omega) (fun y => by unfold inSl at z; omega)
  refine ⟨n10 _ _ (by unfold inSl; omega), fun i i0 i1 => ⟨n10 _ _ (by unfold inSl; omega), n10 _ _ (by unfold inSl; omega)⟩, n10 _ _ (by unfold inSl; omega), fun g g0 g1 => ⟨n10 _ _ (by unfold inSl; omega), n10 _ _ (by unfold inSl; omega), n10 _ _ (by unfold inSl; omega), n10 _ _ (by unfold inSl; omega), fun i i0 i1 => ⟨n10 _ _ (by unfold inSl; omega), n10 _ _ (by unfold inSl; omega)⟩⟩, n10 _ _ (by unfold inSl; omega), n10 _ _ (by unfold inSl; omega), fun j j0 j1 => ⟨n10 _ _ (by unfold inSl; omega), n10 _ _ (by unfold inSl; omega)⟩⟩
theorem bkF.o {V V' : Int → Int → Int} {a : Int} (h : bkF V V') (ha : a < 775 ∨ 793 ≤ a) : V' a = V a := funext fun k => h a k (by unfold inSl; omega) (by omega) (by omega) (by omega)
theorem mdIs.told {V V' : Int → Int → Int} {S : gbS} (h : mdIs V S) {ys : List Int} {fa : Int} (hs : ∀ c : Int, 0 ≤ c → c < 10 → slE V' c V c) (hf : ∀ a, (793 ≤ a ∧ a ≤ 799) → V' a = V a) (h0 : V' 775 0 = V 775 0) (h1 : tdIs V' ys) (h2 : V' 775 17 = fa) : mdIs V' (S.1, S.2.1, ys, fa) := by
  have hn := h.2.1
  refine ⟨h0.trans h.1, hn, h2, fun c c0 c1 => ?_, h.2.2.2.2.1, fun x x0 x1 => ?_, h1⟩
  · have c1 : c < (S.1.length : Int) := c1
    exact (h.2.2.2.1 c c0 c1).of (hs c c0 (by omega))
  · have hh := h.2.2.2.2.2.1 x x0 x1
    show rhA V' x (ghq S x)
    unfold rhA at hh ⊢
    rw [hf 793 (by omega), hf 794 (by omega), hf 795 (by omega), hf 796 (by omega), hf 797 (by omega), hf 798 (by omega), hf 799 (by omega)]
    exact hh
def wk0 (V : Int → Int → Int) : Prop := V 786 10 = -1 ∧ V 787 10 = -1 ∧ ∀ j : Int, 0 ≤ j → j < 6 → V 788 (60 + j) = 0 ∧ V 789 (60 + j) = 0
theorem wk0.tk {V V' : Int → Int → Int} (h : wk0 V) (hf : tkF V V') : wk0 V' := by
  unfold wk0
  rw [hf 786 10 (by omega) (by omega) (by omega) (by omega), hf 787 10 (by omega) (by omega) (by omega) (by omega)]
  refine ⟨h.1, h.2.1, fun j j0 j1 => ?_⟩
  rw [hf 788 _ (by omega) (by omega) (by omega) (by omega), hf 789 _ (by omega) (by omega) (by omega) (by omega)]
  exact h.2.2 j j0 j1
section MD36
variable {l : Launch} {E : gE} {d : Nat} {K : List gK} {R V : Int → Int → Int} {lf0 : Int} {Q : gQ} {S : gbS}
set_option maxRecDepth 4000 in
theorem m_book (hM : mdK K R) (hS : mdIs V S) (hy : byP S.2.2.1) (hQ : ∀ V', mdIs V' (aBook S lf0).2 → gFr V V' 775 819 → (S.1.length < 10 → (bkR S.2.2.1 lf0).1.2.2.1 = 0 → bkP (bkR S.2.2.1 lf0).2.1 (bkR S.2.2.1 lf0).2.2.1) → Q (some (gi (aBook S lf0).1)) (K, R, V')) : gC l E (d + 5) iX12_book [ga 775] (K, R, V) Q := by
  refine gC_of kX12_book (ls := [some (ga 775), none, none]) rfl (Nat.le_of_ble_eq_true rfl) ?_
  have hn0 := hS.1
  have hn1 := hS.2.1
  refine gX_aloadn dX12_book_0 rfl ?_
  refine gX_gI 0 dX12_book_1 fdX12_151 rfl (Or.inl rfl) hM.1 ?_
  rw [hS.1]
  refine gX_bipush dX12_book_4 (by decide) ⟨by decide, by decide⟩ ?_
  refine gX_icmpne (tgt := 13) dX12_book_6 (by decide) (fun m1 => ?_) (fun m1 => ?_)
  · have hlt : S.1.length < 10 := by omega
    have failL : ∀ (V4 : Int → Int → Int) (f : Int) (j2 : Option gV) (bc bs : Nat), bkF V V4 → 0 < f → f = (bkR S.2.2.1 lf0).1.2.2.1 → V4 775 17 = (bkR S.2.2.1 lf0).1.2.2.2 → gX l E (gFm E (d + 5) iX12_book Q) 54 [some (ga 775), some (gi f), j2] [] (K, R, V4) bc bs := by
      intro V4 f j2 bc bs b4 f0 ef e17
      have hu := bkR_u S.2.2.1 lf0
      refine gX_iloadn dX12_book_54 rfl ?_
      refine gX_ifne (tgt := 117) dX12_book_55 (by decide) (fun e1 => ?_) (fun e1 => ?_)
      · refine gX_iloadn dX12_book_117 rfl ?_
        refine gX_ifne (tgt := 140) dX12_book_118 (by decide) (fun e2 => ?_) (fun e2 => ?_)
        · refine gX_iloadn dX12_book_140 rfl ?_
          refine gX_istoren dX12_book_141 (show (1 : Nat) < 3 from by decide) (ls2 := [some (ga 775), some (gi f), j2]) rfl ?_
          refine gX_aloadn dX12_book_142 rfl ?_
          refine gX_iconst dX12_book_143 ⟨by decide, by decide⟩ ?_
          refine gX_pI 16 dX12_book_144 fdX12_162 fpX12_162 rfl (Or.inl rfl) hM.1 ?_
          refine gX_iloadn dX12_book_147 rfl ?_
          refine gX_ifle (tgt := 156) dX12_book_148 (by decide) (fun e3 => ?_) (fun e3 => ?_)
          · exfalso
            omega
          · refine gX_bipush dX12_book_151 (by decide) ⟨by decide, by decide⟩ ?_
            refine gX_iloadn dX12_book_153 rfl ?_
            refine gX_isub dX12_book_154 ⟨by omega, by omega⟩ ?_
            refine gX_iret dX12_book_155 (Or.inl rfl) ?_
            have ea : aBook S lf0 = (-10 - f, (S.1, S.2.1, [], (bkR S.2.2.1 lf0).1.2.2.2)) := by
              unfold aBook
              rw [if_pos (by omega), if_neg (by omega), ← ef]
            rw [ea] at hQ
            have b5 : bkF V (gup V4 775 16 0) := b4.trans (fun a k a1 a2 a3 a4 => gup_c (by omega))
            refine hQ (gup V4 775 16 0) ?_ (fun a ha => b5.o (by omega)) (fun _ z => by omega)
            · refine hS.told (fun c c0 c1 => b5.e (by omega)) (fun a ha => b5.o (by omega)) (b5 775 0 (by unfold inSl; omega) (by omega) (by omega) (by omega)) ⟨gup_s, by show (0 : Nat) ≤ 320; omega, fun j x hx => by cases hx⟩ (by rw [gup_c (Or.inr (by omega))]; exact e17)
        · exfalso
          omega
      · exfalso
        omega
    have lp : ∀ (jj : Nat) (t : tS) (tx : List Int) (gs : List gG) (st : Int) (op : Int) (lf : Int) (n : Nat) (V1 : Int → Int → Int) (j2 : Option gV) (bc bs : Nat), (321 : Int) - t.1 < (jj : Int) → BI V1 tx gs st op lf → PI tx gs st op lf → kiG gs → tdIs V1 S.2.2.1 → V1 775 18 = t.1 → 0 ≤ t.1 → t.1 ≤ S.2.2.1.length → (t.2.2.1 = 0 ∧ t.2.2.2 = -1 ∧ V1 775 17 = -1) → V1 775 28 ≤ t.1 → 320 ≤ n + t.1 → rdB S.2.2.1 320 1 ((0, 0, 0, -1), [], [], 0, -1, lf0) = rdB S.2.2.1 n 1 (t, tx, gs, st, op, lf) → bkF V V1 → wk0 V1 → gX l E (gFm E (d + 5) iX12_book Q) 54 [some (ga 775), some (gi 0), j2] [] (K, R, V1) bc bs := by
      intro jj
      induction jj with
      | zero =>
        intro t tx gs st op lf n V1 j2 bc bs hj i1 i2 i3 i4 i5 i6 i7 i8 i9 i10 i11 i12 i13
        have := i4.2.1; exfalso; omega
      | succ jj ih =>
        intro t tx gs st op lf n V1 j2 bc bs hj i1 i2 i3 i4 i5 i6 i7 i8 i9 i10 i11 i12 i13
        have h320 := i4.2.1
        have hi := pkB_in i6 i7
        have hid := pkB_id (ys := S.2.2.1) i6 h320
        refine gX_iloadn dX12_book_54 rfl ?_
        refine gX_ifne (tgt := 117) dX12_book_55 (by decide) (fun b1 => by exfalso; omega) (fun b1 => ?_)
        refine gX_aloadn dX12_book_58 rfl ?_
        refine gX_virt (J := iX12_here) (av := []) (a := 775) (st := []) dX12_book_59 lkX12_170 kX12_here vX12_here (gFit_m (by decide)) hM.1 rfl rfl (Nat.le_of_ble_eq_true rfl) (Nat.zero_le _) (Nat.zero_le _) rfl ?_
        refine m_here (a0 := t.1) hM i4 i5 i6 i7 (fun V2 e182 hf2 => ?_)
        show gX l E _ 62 [some (ga 775), some (gi 0), j2] [gi (lat S.2.2.1 (pkB S.2.2.1 t.1))] (K, R, V2) _ _
        have hf2t : tkF V1 V2 := fun a k a1 a2 a3 a4 => by
          by_cases c : a = 775
          · subst c; exact hf2.2 k (by omega)
          · rw [hf2.1 a c]
        refine gX_iflt (tgt := 117) dX12_book_62 (by decide) (fun b2 => ?_) (fun b2 => ?_)
        · have eend := rdB_end (n := n) (tx := tx) (gs := gs) (st := st) (op := op) (lf := lf) hy h320 i6 i7 i10 (show lat S.2.2.1 (pkB S.2.2.1 t.1) < 0 by omega)
          have hR : (bkR S.2.2.1 lf0) = rdE ((1, ((S.2.2.1.length : Int), t.2), tx, gs, st, op, lf) : Int × bR) := by
            show rdE (rdB S.2.2.1 320 1 _) = _
            rw [i11, eend]
          have hB2 := i1.kp hf2.1 hf2.2
          have h20 := hB2.1.2.2.2.2.1
          obtain ⟨⟨c0, c1, c2, c3⟩, cs⟩ := hB2.cs i2 h20
          have b2 : bkF V V2 := i12.trans hf2t.bk
          have t2 : tdIs V2 S.2.2.1 := i4.tk hf2t
          have w2 := i13.tk hf2t
          refine gX_iloadn dX12_book_117 rfl ?_
          refine gX_ifne (tgt := 140) dX12_book_118 (by decide) (fun z1 => by exfalso; omega) (fun z1 => ?_)
          refine gX_aloadn dX12_book_121 rfl ?_
          refine gX_gI 23 dX12_book_122 fdX12_214 rfl (Or.inl rfl) hM.1 ?_
          refine gX_ifle (tgt := 140) dX12_book_125 (by decide) (fun z2 => ?_) (fun z2 => ?_)
          · refine gX_iloadn dX12_book_140 rfl ?_
            refine gX_istoren dX12_book_141 (show (1 : Nat) < 3 from by decide) (ls2 := [some (ga 775), some (gi 0), j2]) rfl ?_
            refine gX_aloadn dX12_book_142 rfl ?_
            refine gX_iconst dX12_book_143 ⟨by decide, by decide⟩ ?_
            refine gX_pI 16 dX12_book_144 fdX12_162 fpX12_162 rfl (Or.inl rfl) hM.1 ?_
            refine gX_iloadn dX12_book_147 rfl ?_
            refine gX_ifle (tgt := 156) dX12_book_148 (by decide) (fun z3 => ?_) (fun z3 => by exfalso; omega)
            have cs : st = 0 ∧ op = -1 := by rcases cs with y | y | y | y | y <;> omega
            have hRs : (bkR S.2.2.1 lf0) = ((((S.2.2.1.length : Int), t.2), tx, gs, st, op, lf) : bR) := by
              rw [hR]
              exact if_neg (fun z => by have z2 : st ≠ 0 ∨ op ≠ -1 := z.2; omega)
            have hk6 : rk1 (gup V2 775 16 0) 10 (tx, gs, -1, -1, List.replicate 6 0, List.replicate 6 0) := by
              have hBf : BI V2 tx gs 0 (-1) lf := by rw [cs.1, cs.2] at hB2; exact hB2
              have rp6 : ∀ j : Int, 0 ≤ j → j < 6 → lat (List.replicate 6 (0 : Int)) j = 0 := fun j j0 j1 => by rw [lat_in j0 (by rw [List.length_replicate]; omega), List.getElem_replicate]
              have z : rk1 V2 10 (tx, gs, -1, -1, List.replicate 6 0, List.replicate 6 0) := ⟨hBf.1, hBf.rs i2.2.1, w2.1, w2.2.1, fun j j0 j1 => by show V2 788 (60 + j) = lat (List.replicate 6 0) j ∧ V2 789 (60 + j) = lat (List.replicate 6 0) j; rw [rp6 j j0 j1]; exact w2.2.2 j j0 j1⟩
              exact z.kept (fun x h1 h2 => gup_ne (by omega))
            refine gX_aloadn dX12_book_156 rfl ?_
            refine gX_bipush dX12_book_157 (by decide) ⟨by decide, by decide⟩ ?_
            refine gX_aloadn dX12_book_159 rfl ?_
            refine gX_gI 0 dX12_book_160 fdX12_151 rfl (Or.inl rfl) hM.1 ?_
            rw [show gup V2 775 16 0 775 0 = (S.1.length : Int) by rw [gup_c (Or.inr (by omega)), b2 775 0 (by unfold inSl; omega) (by omega) (by omega) (by omega)]; exact hS.1]
            refine gX_virt (J := iX12_putBook) (av := [gi 10, gi (S.1.length : Int)]) (a := 775) (st := []) dX12_book_163 lkX12_235 kX12_putBook vX12_putBook (gFit_m (by decide)) hM.1 rfl rfl (Nat.le_of_ble_eq_true rfl) (Nat.zero_le _) (Nat.zero_le _) rfl ?_
            refine m_putBook hM ⟨by omega, by omega⟩ ⟨by omega, by omega⟩ (by omega) (fun V6 he6 hf6 => ?_)
            show gX l E _ 166 [some (ga 775), some (gi 0), j2] [] (K, R, V6) _ _
            refine gX_aloadn dX12_book_166 rfl ?_
            refine gX_dup dX12_book_167 rfl ?_
            refine gX_gI 0 dX12_book_168 fdX12_151 rfl (Or.inl rfl) hM.1 ?_
            rw [show V6 775 0 = (S.1.length : Int) by rw [hf6.o (by omega), gup_c (Or.inr (by omega)), b2 775 0 (by unfold inSl; omega) (by omega) (by omega) (by omega)]; exact hS.1]
            refine gX_iconst dX12_book_171 ⟨by decide, by decide⟩ ?_
            refine gX_iadd dX12_book_172 ⟨by omega, by omega⟩ ?_
            refine gX_pI 0 dX12_book_173 fdX12_151 fpX12_151 rfl (Or.inl rfl) hM.1 ?_
            refine gX_aloadn dX12_book_176 rfl ?_
            refine gX_gI 0 dX12_book_177 fdX12_151 rfl (Or.inl rfl) hM.1 ?_
            rw [show gup V6 775 0 ((S.1.length : Int) + 1) 775 0 = (S.1.length : Int) + 1 from gup_s]
            refine gX_iconst dX12_book_180 ⟨by decide, by decide⟩ ?_
            refine gX_isub dX12_book_181 ⟨by omega, by omega⟩ ?_
            refine gX_iret dX12_book_182 (Or.inl rfl) ?_
            have ea : aBook S lf0 = ((S.1.length : Int), (S.1 ++ [(tx, gs, -1, -1, List.replicate 6 0, List.replicate 6 0)], S.2.1, [], -1)) := by
              unfold aBook
              rw [if_pos (by omega), hRs, if_pos (show t.2.2.1 = 0 from i8.1)]
              show (_, (_, _, _, t.2.2.2)) = _
              rw [i8.2.1]
            rw [ea] at hQ
            rw [show (S.1.length : Int) + 1 - 1 = S.1.length by omega]
            refine hQ (gup V6 775 0 ((S.1.length : Int) + 1)) ?_ (fun a ha => by rw [gup_ne (by omega), hf6.o (by omega), gup_ne (by omega)]; exact b2.o (by omega)) (fun _ _ => by rw [hRs]; exact (PI.bk (by rw [cs.1, cs.2] at i2; exact i2)))
            refine hS.app (by omega) ((hk6.of he6).kept (fun x h1 h2 => gup_ne (by omega))) (fun c c0 c1 => slE.trans (b := c) ?_ (slE.trans (b := c) (hf6.e (by omega)) (slE.trans (b := c) ?_ (b2.e (by omega))))) (fun a ha => by rw [gup_ne (by omega), hf6.o (by omega), gup_ne (by omega)]; exact b2.o (by omega)) gup_s ?_ ?_
            · exact ⟨by rw [gup_ne (by omega)], fun i i0 i1 => ⟨by rw [gup_ne (by omega)], by rw [gup_ne (by omega)]⟩, by rw [gup_ne (by omega)], fun g g0 g1 => ⟨by rw [gup_ne (by omega)], by rw [gup_ne (by omega)], by rw [gup_ne (by omega)], by rw [gup_ne (by omega)], fun i i0 i1 => ⟨by rw [gup_ne (by omega)], by rw [gup_ne (by omega)]⟩⟩, by rw [gup_ne (by omega)], by rw [gup_ne (by omega)], fun j j0 j1 => ⟨by rw [gup_ne (by omega)], by rw [gup_ne (by omega)]⟩⟩
            · exact ⟨by rw [gup_ne (by omega)], fun i i0 i1 => ⟨by rw [gup_ne (by omega)], by rw [gup_ne (by omega)]⟩, by rw [gup_ne (by omega)], fun g g0 g1 => ⟨by rw [gup_ne (by omega)], by rw [gup_ne (by omega)], by rw [gup_ne (by omega)], by rw [gup_ne (by omega)], fun i i0 i1 => ⟨by rw [gup_ne (by omega)], by rw [gup_ne (by omega)]⟩⟩, by rw [gup_ne (by omega)], by rw [gup_ne (by omega)], fun j j0 j1 => ⟨by rw [gup_ne (by omega)], by rw [gup_ne (by omega)]⟩⟩
            · refine ⟨?_, by show (0 : Nat) ≤ 320; omega, fun j x hx => by cases hx⟩
              rw [gup_c (Or.inr (by omega)), hf6.o (by omega)]; exact gup_s
            · rw [gup_c (Or.inr (by omega)), hf6.o (by omega), gup_c (Or.inr (by omega)), hf2.2 17 (by omega)]; exact i8.2.2
          · refine gX_aloadn dX12_book_128 rfl ?_
            refine gX_iconst dX12_book_129 ⟨by decide, by decide⟩ ?_
            refine gX_aloadn dX12_book_130 rfl ?_
            refine gX_gI 16 dX12_book_131 fdX12_162 rfl (Or.inl rfl) hM.1 ?_
            rw [t2.1]
            refine gX_virt (J := iX12_fails) (av := [gi 1, gi (S.2.2.1.length : Int)]) (a := 775) (st := []) dX12_book_134 lkX12_178 kX12_fails vX12_fails (gFit_m (by decide)) hM.1 rfl rfl (Nat.le_of_ble_eq_true rfl) (Nat.zero_le _) (Nat.zero_le _) rfl ?_
            refine m_fails hM ?_
            show gX l E _ 137 [some (ga 775), some (gi 0), j2] [gi 1] (K, R, gup V2 775 17 (S.2.2.1.length : Int)) _ _
            refine gX_goto (tgt := 141) dX12_book_137 (by decide) ?_
            refine gX_istoren dX12_book_141 (show (1 : Nat) < 3 from by decide) (ls2 := [some (ga 775), some (gi 1), j2]) rfl ?_
            refine gX_aloadn dX12_book_142 rfl ?_
            refine gX_iconst dX12_book_143 ⟨by decide, by decide⟩ ?_
            refine gX_pI 16 dX12_book_144 fdX12_162 fpX12_162 rfl (Or.inl rfl) hM.1 ?_
            refine gX_iloadn dX12_book_147 rfl ?_
            refine gX_ifle (tgt := 156) dX12_book_148 (by decide) (fun z4 => by exfalso; omega) (fun z4 => ?_)
            refine gX_bipush dX12_book_151 (by decide) ⟨by decide, by decide⟩ ?_
            refine gX_iloadn dX12_book_153 rfl ?_
            refine gX_isub dX12_book_154 ⟨by omega, by omega⟩ ?_
            refine gX_iret dX12_book_155 (Or.inl rfl) ?_
            have e9 : (bkR S.2.2.1 lf0).1.2.2 = (1, (S.2.2.1.length : Int)) := by
              rw [hR]
              have z : rdE ((1, ((S.2.2.1.length : Int), t.2), tx, gs, st, op, lf) : Int × bR) = bF 1 S.2.2.1.length (((S.2.2.1.length : Int), t.2), tx, gs, st, op, lf) := if_pos ⟨by show (1 : Int) ≠ 0; omega, by show st ≠ 0 ∨ op ≠ -1; rcases cs with y | y | y | y | y <;> omega⟩
              rw [z]; rfl
            have ea : aBook S lf0 = (-10 - 1, (S.1, S.2.1, [], (S.2.2.1.length : Int))) := by
              unfold aBook
              rw [if_pos (by omega), if_neg (by rw [e9]; show ¬ (1 : Int) = 0; decide), e9]
            rw [ea] at hQ
            have b5 : bkF V (gup (gup V2 775 17 (S.2.2.1.length : Int)) 775 16 0) := b2.trans (fun a k a1 a2 a3 a4 => by rw [gup_c (by omega), gup_c (by omega)])
            refine hQ (gup (gup V2 775 17 (S.2.2.1.length : Int)) 775 16 0) ?_ (fun a ha => b5.o (by omega)) (fun _ z => absurd z (by rw [e9]; show ¬ (1 : Int) = 0; decide))
            · refine hS.told (fun c c0 c1 => b5.e (by omega)) (fun a ha => b5.o (by omega)) (b5 775 0 (by unfold inSl; omega) (by omega) (by omega) (by omega)) ⟨gup_s, by show (0 : Nat) ≤ 320; omega, fun j x hx => by cases hx⟩ (by rw [gup_c (Or.inr (by omega))]; exact gup_s)
        · refine gX_aloadn dX12_book_65 rfl ?_
          refine gX_virt (J := iX12_here) (av := []) (a := 775) (st := []) dX12_book_66 lkX12_170 kX12_here vX12_here (gFit_m (by decide)) hM.1 rfl rfl (Nat.le_of_ble_eq_true rfl) (Nat.zero_le _) (Nat.zero_le _) rfl ?_
          refine m_here (a0 := pkB S.2.2.1 t.1) hM (i4.tk hf2t) e182 (by omega) (by omega) (fun V3 e183 hf3 => ?_)
          show gX l E _ 69 [some (ga 775), some (gi 0), j2] [gi (lat S.2.2.1 (pkB S.2.2.1 (pkB S.2.2.1 t.1)))] (K, R, V3) _ _
          rw [hid] at e183
          rw [hid]
          have hf3t : tkF V2 V3 := fun a k a1 a2 a3 a4 => by
            by_cases c : a = 775
            · subst c; exact hf3.2 k (by omega)
            · rw [hf3.1 a c]
          have i4t : tdIs V3 S.2.2.1 := (i4.tk hf2t).tk hf3t
          have hB3 := (i1.kp hf2.1 hf2.2).kp hf3.1 hf3.2
          have la : pkB S.2.2.1 t.1 < S.2.2.1.length := Decidable.byContradiction fun z => by
            have y : lat S.2.2.1 (pkB S.2.2.1 t.1) = -1 := lat_out (by omega)
            omega
          have hn1 : 1 ≤ n := by omega
          refine gX_istoren dX12_book_69 (show (2 : Nat) < 3 from by decide) (ls2 := [some (ga 775), some (gi 0), some (gi (lat S.2.2.1 (pkB S.2.2.1 t.1)))]) rfl ?_
          refine gX_iloadn dX12_book_70 rfl ?_
          refine gX_bipush dX12_book_71 (by decide) ⟨by decide, by decide⟩ ?_
          refine gX_icmpne (tgt := 83) dX12_book_73 (by decide) (fun b3 => ?_) (fun b3 => ?_)
          · refine gX_iloadn dX12_book_83 rfl ?_
            refine gX_bipush dX12_book_84 (by decide) ⟨by decide, by decide⟩ ?_
            refine gX_icmpne (tgt := 96) dX12_book_86 (by decide) (fun b4 => ?_) (fun b4 => ?_)
            · refine gX_iloadn dX12_book_96 rfl ?_
              refine gX_bipush dX12_book_97 (by decide) ⟨by decide, by decide⟩ ?_
              refine gX_icmpne (tgt := 109) dX12_book_99 (by decide) (fun b5 => ?_) (fun b5 => ?_)
              · refine gX_aloadn dX12_book_109 rfl ?_
                refine gX_virt (J := iX12_takeWord) (av := []) (a := 775) (st := []) dX12_book_110 lkX12_232 kX12_takeWord vX12_takeWord (gFit_m (by decide)) hM.1 rfl rfl (Nat.le_of_ble_eq_true rfl) (Nat.zero_le _) (Nat.zero_le _) rfl ?_
                refine m_takeWord (t := (pkB S.2.2.1 t.1, t.2)) hM (i4t) hB3 i2 i3 (by show V3 775 28 ≤ pkB S.2.2.1 t.1; rw [hf3.2 28 (by omega), hf2.2 28 (by omega)]; omega) e183 (by show 0 ≤ pkB S.2.2.1 t.1; omega) (by show pkB S.2.2.1 t.1 ≤ (S.2.2.1.length : Int); omega) ⟨i8.1, i8.2.1, by rw [hf3.2 17 (by omega), hf2.2 17 (by omega)]; exact i8.2.2⟩ (fun V4 f4 p4 => ?_)
                show gX l E _ 113 [some (ga 775), some (gi 0), some (gi (lat S.2.2.1 (pkB S.2.2.1 t.1)))] [gi ((rdWord S.2.2.1 ((pkB S.2.2.1 t.1, t.2), tx, gs, st, op, lf)).2.1.2.2.1)] (K, R, V4) _ _
                refine gX_istoren dX12_book_113 (show (1 : Nat) < 3 from by decide) (ls2 := [some (ga 775), some (gi ((rdWord S.2.2.1 ((pkB S.2.2.1 t.1, t.2), tx, gs, st, op, lf)).2.1.2.2.1)), some (gi (lat S.2.2.1 (pkB S.2.2.1 t.1)))]) rfl ?_
                refine gX_goto (tgt := 54) dX12_book_114 (by decide) ?_
                have b4 : bkF V V4 := i12.trans ((hf2t.bk.trans hf3t.bk).trans f4.bk)
                have w4 : wk0 V4 := ((i13.tk hf2t).tk hf3t).tk f4
                have er1 := i11.trans (rdB_1 (s := (t, tx, gs, st, op, lf)) hn1 (show lat S.2.2.1 (pkB S.2.2.1 t.1) ≠ -1 by omega))
                rw [rdSt_f hid] at er1
                by_cases cf : isF (lat S.2.2.1 (pkB S.2.2.1 t.1)) = true
                · rw [if_pos cf] at er1
                  rcases p4 with ⟨y1, y2, y3⟩ | ⟨y1, y2, y3, y4, y5, y6, y7, y8, y9⟩
                  · have e9 : (bkR S.2.2.1 lf0) = (rdWord S.2.2.1 ((pkB S.2.2.1 t.1, t.2), tx, gs, st, op, lf)).2 := by
                      show rdE (rdB S.2.2.1 320 1 _) = _
                      rw [er1, y1, rdB_z]; rfl
                    exact failL V4 _ _ _ _ b4 y3 (by rw [e9]) (by rw [e9]; exact y2)
                  · rw [y2]
                    have e8 : (rdWord S.2.2.1 ((pkB S.2.2.1 t.1, t.2), tx, gs, st, op, lf)).2.1 = (tkNum S.2.2.1 0 63 (pkB S.2.2.1 t.1, t.2)).2 := by
                      have y1 := y1
                      unfold rdWord at y1 ⊢
                      split at y1
                      · cases y1
                      · rename_i q1
                        rw [if_neg q1]
                        split at y1
                        · cases y1
                        · rename_i q2
                          rw [if_neg q2]
                          split at y1
                          · cases y1
                          · rename_i q3
                            rw [if_neg q3]; rfl
                    have a4 : pkB S.2.2.1 t.1 + 1 ≤ (rdWord S.2.2.1 ((pkB S.2.2.1 t.1, t.2), tx, gs, st, op, lf)).2.1.1 := by rw [e8]; exact nwF (t := (pkB S.2.2.1 t.1, t.2)) hid (show pkB S.2.2.1 t.1 < (S.2.2.1.length : Int) by omega) cf
                    have a5 : (rdWord S.2.2.1 ((pkB S.2.2.1 t.1, t.2), tx, gs, st, op, lf)).2.1.1 ≤ S.2.2.1.length := by rw [e8]; exact (tkNum_at (t := (pkB S.2.2.1 t.1, t.2)) (show 0 ≤ pkB S.2.2.1 t.1 by omega) (show pkB S.2.2.1 t.1 ≤ (S.2.2.1.length : Int) by omega)).2
                    rw [y1] at er1
                    exact ih (rdWord S.2.2.1 ((pkB S.2.2.1 t.1, t.2), tx, gs, st, op, lf)).2.1 (rdWord S.2.2.1 ((pkB S.2.2.1 t.1, t.2), tx, gs, st, op, lf)).2.2.1 (rdWord S.2.2.1 ((pkB S.2.2.1 t.1, t.2), tx, gs, st, op, lf)).2.2.2.1 (rdWord S.2.2.1 ((pkB S.2.2.1 t.1, t.2), tx, gs, st, op, lf)).2.2.2.2.1 (rdWord S.2.2.1 ((pkB S.2.2.1 t.1, t.2), tx, gs, st, op, lf)).2.2.2.2.2.1 (rdWord S.2.2.1 ((pkB S.2.2.1 t.1, t.2), tx, gs, st, op, lf)).2.2.2.2.2.2 (n - 1) V4 _ _ _ (by omega) y6 y7 y8 (i4t.tk f4) y5 (by omega) a5 ⟨y2, y3, y4⟩ y9 (by omega) er1 b4 w4
                · rw [if_neg cf, sgX (by assumption) (by assumption) (by assumption) (Or.inl (by have := i2.1.2.1; omega))] at er1
                  have ew : (rdWord S.2.2.1 ((pkB S.2.2.1 t.1, t.2), tx, gs, st, op, lf)) = (0, (tkNum S.2.2.1 0 63 (pkB S.2.2.1 t.1, t.2)).2, tx, gs, st, op, lf) ∧ (tkNum S.2.2.1 0 63 (pkB S.2.2.1 t.1, t.2)).2.2.2 = (1, pkB S.2.2.1 t.1) := by
                    have e7 : tkNum S.2.2.1 0 63 (pkB S.2.2.1 t.1, t.2) = (-1, pkB S.2.2.1 t.1, t.2.1, 1, pkB S.2.2.1 t.1) := by
                      unfold tkNum
                      rw [show pkB S.2.2.1 ((pkB S.2.2.1 t.1, t.2) : tS).1 = pkB S.2.2.1 t.1 from hid, if_neg cf]
                    refine ⟨?_, by rw [e7]⟩
                    unfold rdWord
                    rw [if_neg (show ¬ st = 4 by have := i2.1.2.1; omega), if_pos (show (tkNum S.2.2.1 0 63 (pkB S.2.2.1 t.1, t.2)).1 = -1 by rw [e7])]
                  have e9 : (bkR S.2.2.1 lf0).1.2.2 = (1, pkB S.2.2.1 t.1) := by
                    show (rdE (rdB S.2.2.1 320 1 _)).1.2.2 = _
                    rw [er1]
                    show (rdE (rdB S.2.2.1 (n - 1) 0 _)).1.2.2 = _
                    rw [rdB_z]; rfl
                  rcases p4 with ⟨y1, y2, y3⟩ | ⟨y1, y2, y3, y4, y5, y6, y7, y8, y9⟩
                  · refine failL V4 _ _ _ _ b4 y3 ?_ ?_
                    · rw [e9, ew.1]; show (tkNum S.2.2.1 0 63 (pkB S.2.2.1 t.1, t.2)).2.2.2.1 = 1; rw [ew.2]
                    · rw [e9, y2, ew.1]; show (tkNum S.2.2.1 0 63 (pkB S.2.2.1 t.1, t.2)).2.2.2.2 = pkB S.2.2.1 t.1; rw [ew.2]
                  · rw [ew.1] at y1; cases y1
              · have nf : ¬ isF (lat S.2.2.1 (pkB S.2.2.1 t.1)) = true := fun z => by unfold isF at z; rw [decide_eq_true_eq] at z; omega
                refine gX_aloadn dX12_book_102 rfl ?_
                refine gX_virt (J := iX12_takeEnd) (av := []) (a := 775) (st := []) dX12_book_103 lkX12_229 kX12_takeEnd vX12_takeEnd (gFit_m (by decide)) hM.1 rfl rfl (Nat.le_of_ble_eq_true rfl) (Nat.zero_le _) (Nat.zero_le _) rfl ?_
                refine m_takeEnd (t := (pkB S.2.2.1 t.1, t.2)) hM (i4t) hB3 i2 i3 (by show V3 775 28 ≤ pkB S.2.2.1 t.1; rw [hf3.2 28 (by omega), hf2.2 28 (by omega)]; omega) e183 (by show 0 ≤ pkB S.2.2.1 t.1; omega) (by show pkB S.2.2.1 t.1 < (S.2.2.1.length : Int); omega) ⟨i8.1, i8.2.1, by rw [hf3.2 17 (by omega), hf2.2 17 (by omega)]; exact i8.2.2⟩ hid (by assumption) (fun V4 f4 p4 => ?_)
                show gX l E _ 106 [some (ga 775), some (gi 0), some (gi (lat S.2.2.1 (pkB S.2.2.1 t.1)))] [gi ((rdSign S.2.2.1 93 ((pkB S.2.2.1 t.1, t.2), tx, gs, st, op, lf)).2.1.2.2.1)] (K, R, V4) _ _
                refine gX_goto (tgt := 113) dX12_book_106 (by decide) ?_
                refine gX_istoren dX12_book_113 (show (1 : Nat) < 3 from by decide) (ls2 := [some (ga 775), some (gi ((rdSign S.2.2.1 93 ((pkB S.2.2.1 t.1, t.2), tx, gs, st, op, lf)).2.1.2.2.1)), some (gi (lat S.2.2.1 (pkB S.2.2.1 t.1)))]) rfl ?_
                refine gX_goto (tgt := 54) dX12_book_114 (by decide) ?_
                have b4 : bkF V V4 := i12.trans ((hf2t.bk.trans hf3t.bk).trans f4.bk)
                have w4 : wk0 V4 := ((i13.tk hf2t).tk hf3t).tk f4
                have er1 := i11.trans (rdB_1 (s := (t, tx, gs, st, op, lf)) hn1 (show lat S.2.2.1 (pkB S.2.2.1 t.1) ≠ -1 by omega))
                rw [rdSt_f hid] at er1
                rw [if_neg nf, show lat S.2.2.1 (pkB S.2.2.1 t.1) = 93 by assumption] at er1
                have sg := sgE (tx := tx) (gs := gs) (st := st) (op := op) (lf := lf) (t := (pkB S.2.2.1 t.1, t.2)) hid (show lat S.2.2.1 (pkB S.2.2.1 t.1) = 93 by assumption) i2.1.1.2
                have at4 : (rdSign S.2.2.1 93 ((pkB S.2.2.1 t.1, t.2), tx, gs, st, op, lf)).1 = 1 → (rdSign S.2.2.1 93 ((pkB S.2.2.1 t.1, t.2), tx, gs, st, op, lf)).2.1.1 = pkB S.2.2.1 t.1 + 1 := fun z => by
                  rw [sg] at z ⊢
                  split at z
                  · rename_i q; rw [if_pos q]
                  · cases z
                rcases p4 with ⟨y1, y2, y3⟩ | ⟨y1, y2, y3, y4, y5, y6, y7, y8, y9⟩
                · have e9 : (bkR S.2.2.1 lf0) = (rdSign S.2.2.1 93 ((pkB S.2.2.1 t.1, t.2), tx, gs, st, op, lf)).2 := by
                    show rdE (rdB S.2.2.1 320 1 _) = _
                    rw [er1, y1, rdB_z]; rfl
                  exact failL V4 _ _ _ _ b4 y3 (by rw [e9]) (by rw [e9]; exact y2)
                · rw [y2]
                  have a4 := at4 y1
                  rw [y1] at er1
                  exact ih (rdSign S.2.2.1 93 ((pkB S.2.2.1 t.1, t.2), tx, gs, st, op, lf)).2.1 (rdSign S.2.2.1 93 ((pkB S.2.2.1 t.1, t.2), tx, gs, st, op, lf)).2.2.1 (rdSign S.2.2.1 93 ((pkB S.2.2.1 t.1, t.2), tx, gs, st, op, lf)).2.2.2.1 (rdSign S.2.2.1 93 ((pkB S.2.2.1 t.1, t.2), tx, gs, st, op, lf)).2.2.2.2.1 (rdSign S.2.2.1 93 ((pkB S.2.2.1 t.1, t.2), tx, gs, st, op, lf)).2.2.2.2.2.1 (rdSign S.2.2.1 93 ((pkB S.2.2.1 t.1, t.2), tx, gs, st, op, lf)).2.2.2.2.2.2 (n - 1) V4 _ _ _ (by rw [a4]; omega) y6 y7 y8 (i4t.tk f4) y5 (by rw [a4]; omega) (by rw [a4]; omega) ⟨y2, y3, y4⟩ y9 (by rw [a4]; omega) er1 b4 w4
            · have nf : ¬ isF (lat S.2.2.1 (pkB S.2.2.1 t.1)) = true := fun z => by unfold isF at z; rw [decide_eq_true_eq] at z; omega
              refine gX_aloadn dX12_book_89 rfl ?_
              refine gX_virt (J := iX12_takeBar) (av := []) (a := 775) (st := []) dX12_book_90 lkX12_226 kX12_takeBar vX12_takeBar (gFit_m (by decide)) hM.1 rfl rfl (Nat.le_of_ble_eq_true rfl) (Nat.zero_le _) (Nat.zero_le _) rfl ?_
              refine m_takeBar (t := (pkB S.2.2.1 t.1, t.2)) hM (i4t) hB3 i2 i3 (by show V3 775 28 ≤ pkB S.2.2.1 t.1; rw [hf3.2 28 (by omega), hf2.2 28 (by omega)]; omega) e183 (by show 0 ≤ pkB S.2.2.1 t.1; omega) (by show pkB S.2.2.1 t.1 < (S.2.2.1.length : Int); omega) ⟨i8.1, i8.2.1, by rw [hf3.2 17 (by omega), hf2.2 17 (by omega)]; exact i8.2.2⟩ hid (by assumption) (fun V4 f9 f4 p4 => ?_)
              show gX l E _ 93 [some (ga 775), some (gi 0), some (gi (lat S.2.2.1 (pkB S.2.2.1 t.1)))] [gi f9] (K, R, V4) _ _
              refine gX_goto (tgt := 113) dX12_book_93 (by decide) ?_
              refine gX_istoren dX12_book_113 (show (1 : Nat) < 3 from by decide) (ls2 := [some (ga 775), some (gi f9), some (gi (lat S.2.2.1 (pkB S.2.2.1 t.1)))]) rfl ?_
              refine gX_goto (tgt := 54) dX12_book_114 (by decide) ?_
              have b4 : bkF V V4 := i12.trans ((hf2t.bk.trans hf3t.bk).trans f4.bk)
              have w4 : wk0 V4 := ((i13.tk hf2t).tk hf3t).tk f4
              have er1 := i11.trans (rdB_1 (s := (t, tx, gs, st, op, lf)) hn1 (show lat S.2.2.1 (pkB S.2.2.1 t.1) ≠ -1 by omega))
              rw [rdSt_f hid] at er1
              rw [if_neg nf, show lat S.2.2.1 (pkB S.2.2.1 t.1) = 124 by assumption] at er1
              rcases p4 with ⟨y1, y2, y3, y4⟩ | ⟨y1, y2, y3, y4, y5⟩ | ⟨y1, y2, y3, y4, y5, y6, y7, y8, y9⟩
              · have e9 : (bkR S.2.2.1 lf0) = (rdSign S.2.2.1 124 ((pkB S.2.2.1 t.1, t.2), tx, gs, st, op, lf)).2 := by
                  show rdE (rdB S.2.2.1 320 1 _) = _
                  rw [er1, y1, rdB_z]; rfl
                exact failL V4 f9 _ _ _ b4 y4 (by rw [e9]; exact y3) (by rw [e9]; exact y2)
              · have sg := sgG (tx := tx) (gs := gs) (st := st) (op := op) (lf := lf) (t := (pkB S.2.2.1 t.1, t.2)) hid (show lat S.2.2.1 (pkB S.2.2.1 t.1) = 124 by assumption) i2.1.1.2
                have hoK : (st = 3 ∨ (st = 0 ∧ 0 ≤ op)) := by
                  refine Decidable.byContradiction fun z => ?_
                  rw [if_neg z] at sg; rw [sg] at y1; cases y1
                rw [if_pos hoK] at sg
                split at sg
                · rw [sg] at y1; cases y1
                · split at sg
                  · rw [sg] at y1; cases y1
                  · have bn := bar_no (ys := S.2.2.1) (n := n - 1) (t := (pkB S.2.2.1 t.1 + 1, t.2)) (tx := tx) (gs := gs ++ [(0, glH ((pkB S.2.2.1 t.1, t.2), tx, gs, st, op, lf), glA ((pkB S.2.2.1 t.1, t.2), tx, gs, st, op, lf), glZ ((pkB S.2.2.1 t.1, t.2), tx, gs, st, op, lf), 0, [])]) (op := gs.length) (lf := lf) hy h320 (by show 0 ≤ pkB S.2.2.1 t.1 + 1; omega) (by show pkB S.2.2.1 t.1 + 1 ≤ (S.2.2.1.length : Int); omega) (by show (320 : Int) ≤ ((n - 1 : Nat) : Int) + (pkB S.2.2.1 t.1 + 1); omega) ⟨y3, y4⟩
                    have e9 : (bkR S.2.2.1 lf0).1.2.2 = (1, pkB S.2.2.1 (pkB S.2.2.1 t.1 + 1)) := by
                      show (rdE (rdB S.2.2.1 320 1 _)).1.2.2 = _
                      rw [er1, sg]; exact bn
                    exact failL V4 f9 _ _ _ b4 (by omega) (by rw [e9]; exact y2) (by rw [e9]; exact y5)
              · have sg := sgG (tx := tx) (gs := gs) (st := st) (op := op) (lf := lf) (t := (pkB S.2.2.1 t.1, t.2)) hid (show lat S.2.2.1 (pkB S.2.2.1 t.1) = 124 by assumption) i2.1.1.2
                have hoK : (st = 3 ∨ (st = 0 ∧ 0 ≤ op)) := by
                  refine Decidable.byContradiction fun z => ?_
                  rw [if_neg z] at sg; rw [sg] at y1; cases y1
                rw [if_pos hoK] at sg
                split at sg
                · rw [sg] at y1; cases y1
                · split at sg
                  · rw [sg] at y1; cases y1
                  · have bo := bar_ok (ys := S.2.2.1) (n := n - 1) (t := (pkB S.2.2.1 t.1 + 1, t.2)) (tx := tx) (gs := gs) (H := glH ((pkB S.2.2.1 t.1, t.2), tx, gs, st, op, lf)) (A := glA ((pkB S.2.2.1 t.1, t.2), tx, gs, st, op, lf)) (Z := glZ ((pkB S.2.2.1 t.1, t.2), tx, gs, st, op, lf)) (lf := lf) h320 (by show 0 ≤ pkB S.2.2.1 t.1 + 1; omega) (by show pkB S.2.2.1 t.1 + 1 ≤ (S.2.2.1.length : Int); omega) (by show (320 : Int) ≤ ((n - 1 : Nat) : Int) + (pkB S.2.2.1 t.1 + 1); omega) y3
                    rw [sg] at er1
                    have er2 := er1.trans bo.2
                    subst y2
                    have hp2 := pkB_in (ys := S.2.2.1) (a := pkB S.2.2.1 t.1 + 1) (by omega) (by omega)
                    have lt2 : pkB S.2.2.1 (pkB S.2.2.1 t.1 + 1) < S.2.2.1.length := Decidable.byContradiction fun z => by
                      have y3 : lat S.2.2.1 (pkB S.2.2.1 (pkB S.2.2.1 t.1 + 1)) = 97 ∨ lat S.2.2.1 (pkB S.2.2.1 (pkB S.2.2.1 t.1 + 1)) = 98 := y3
                      rw [lat_out (by omega)] at y3; omega
                    exact ih (pkB S.2.2.1 (pkB S.2.2.1 t.1 + 1) + 1, t.2) tx _ 1 gs.length lf (n - 1 - 1) V4 _ _ _ (by show (321 : Int) - (pkB S.2.2.1 (pkB S.2.2.1 t.1 + 1) + 1) < _; omega) y6 y7 y8 (i4t.tk f4) y5 (by show 0 ≤ pkB S.2.2.1 (pkB S.2.2.1 t.1 + 1) + 1; omega) (by show pkB S.2.2.1 (pkB S.2.2.1 t.1 + 1) + 1 ≤ (S.2.2.1.length : Int); omega) ⟨i8.1, i8.2.1, y4⟩ y9 (by show (320 : Int) ≤ ((n - 1 - 1 : Nat) : Int) + (pkB S.2.2.1 (pkB S.2.2.1 t.1 + 1) + 1); omega) er2 b4 w4
          · have nf : ¬ isF (lat S.2.2.1 (pkB S.2.2.1 t.1)) = true := fun z => by unfold isF at z; rw [decide_eq_true_eq] at z; omega
            refine gX_aloadn dX12_book_76 rfl ?_
            refine gX_virt (J := iX12_takeBracket) (av := []) (a := 775) (st := []) dX12_book_77 lkX12_223 kX12_takeBracket vX12_takeBracket (gFit_m (by decide)) hM.1 rfl rfl (Nat.le_of_ble_eq_true rfl) (Nat.zero_le _) (Nat.zero_le _) rfl ?_
            refine m_takeBracket (t := (pkB S.2.2.1 t.1, t.2)) hM (i4t) hB3 i2 i3 (by show V3 775 28 ≤ pkB S.2.2.1 t.1; rw [hf3.2 28 (by omega), hf2.2 28 (by omega)]; omega) e183 (by show 0 ≤ pkB S.2.2.1 t.1; omega) (by show pkB S.2.2.1 t.1 < (S.2.2.1.length : Int); omega) ⟨i8.1, i8.2.1, by rw [hf3.2 17 (by omega), hf2.2 17 (by omega)]; exact i8.2.2⟩ hid (by assumption) (fun V4 f4 p4 => ?_)
            show gX l E _ 80 [some (ga 775), some (gi 0), some (gi (lat S.2.2.1 (pkB S.2.2.1 t.1)))] [gi ((rdSign S.2.2.1 91 ((pkB S.2.2.1 t.1, t.2), tx, gs, st, op, lf)).2.1.2.2.1)] (K, R, V4) _ _
            refine gX_goto (tgt := 113) dX12_book_80 (by decide) ?_
            refine gX_istoren dX12_book_113 (show (1 : Nat) < 3 from by decide) (ls2 := [some (ga 775), some (gi ((rdSign S.2.2.1 91 ((pkB S.2.2.1 t.1, t.2), tx, gs, st, op, lf)).2.1.2.2.1)), some (gi (lat S.2.2.1 (pkB S.2.2.1 t.1)))]) rfl ?_
            refine gX_goto (tgt := 54) dX12_book_114 (by decide) ?_
            have b4 : bkF V V4 := i12.trans ((hf2t.bk.trans hf3t.bk).trans f4.bk)
            have w4 : wk0 V4 := ((i13.tk hf2t).tk hf3t).tk f4
            have er1 := i11.trans (rdB_1 (s := (t, tx, gs, st, op, lf)) hn1 (show lat S.2.2.1 (pkB S.2.2.1 t.1) ≠ -1 by omega))
            rw [rdSt_f hid] at er1
            rw [if_neg nf, show lat S.2.2.1 (pkB S.2.2.1 t.1) = 91 by assumption] at er1
            have sg := sgB (tx := tx) (gs := gs) (st := st) (op := op) (lf := lf) (t := (pkB S.2.2.1 t.1, t.2)) hid (show lat S.2.2.1 (pkB S.2.2.1 t.1) = 91 by assumption) i2.1.2.1
            have at4 : (rdSign S.2.2.1 91 ((pkB S.2.2.1 t.1, t.2), tx, gs, st, op, lf)).1 = 1 → (rdSign S.2.2.1 91 ((pkB S.2.2.1 t.1, t.2), tx, gs, st, op, lf)).2.1.1 = pkB S.2.2.1 t.1 + 1 := fun z => by
              rw [sg] at z ⊢
              split at z
              · cases z
              · rename_i q; rw [if_neg q]
            rcases p4 with ⟨y1, y2, y3⟩ | ⟨y1, y2, y3, y4, y5, y6, y7, y8, y9⟩
            · have e9 : (bkR S.2.2.1 lf0) = (rdSign S.2.2.1 91 ((pkB S.2.2.1 t.1, t.2), tx, gs, st, op, lf)).2 := by
                show rdE (rdB S.2.2.1 320 1 _) = _
                rw [er1, y1, rdB_z]; rfl
              exact failL V4 _ _ _ _ b4 y3 (by rw [e9]) (by rw [e9]; exact y2)
            · rw [y2]
              have a4 := at4 y1
              rw [y1] at er1
              exact ih (rdSign S.2.2.1 91 ((pkB S.2.2.1 t.1, t.2), tx, gs, st, op, lf)).2.1 (rdSign S.2.2.1 91 ((pkB S.2.2.1 t.1, t.2), tx, gs, st, op, lf)).2.2.1 (rdSign S.2.2.1 91 ((pkB S.2.2.1 t.1, t.2), tx, gs, st, op, lf)).2.2.2.1 (rdSign S.2.2.1 91 ((pkB S.2.2.1 t.1, t.2), tx, gs, st, op, lf)).2.2.2.2.1 (rdSign S.2.2.1 91 ((pkB S.2.2.1 t.1, t.2), tx, gs, st, op, lf)).2.2.2.2.2.1 (rdSign S.2.2.1 91 ((pkB S.2.2.1 t.1, t.2), tx, gs, st, op, lf)).2.2.2.2.2.2 (n - 1) V4 _ _ _ (by rw [a4]; omega) y6 y7 y8 (i4t.tk f4) y5 (by rw [a4]; omega) (by rw [a4]; omega) ⟨y2, y3, y4⟩ y9 (by rw [a4]; omega) er1 b4 w4
    refine gX_aloadn dX12_book_13 rfl ?_
    refine gX_iconst dX12_book_14 ⟨by decide, by decide⟩ ?_
    refine gX_pI 17 dX12_book_15 fdX12_55 fpX12_55 rfl (Or.inl rfl) hM.1 ?_
    refine gX_aloadn dX12_book_18 rfl ?_
    refine gX_iconst dX12_book_19 ⟨by decide, by decide⟩ ?_
    refine gX_pI 18 dX12_book_20 fdX12_167 fpX12_167 rfl (Or.inl rfl) hM.1 ?_
    refine gX_aloadn dX12_book_23 rfl ?_
    refine gX_iconst dX12_book_24 ⟨by decide, by decide⟩ ?_
    refine gX_pI 23 dX12_book_25 fdX12_214 fpX12_214 rfl (Or.inl rfl) hM.1 ?_
    refine gX_aloadn dX12_book_28 rfl ?_
    refine gX_iconst dX12_book_29 ⟨by decide, by decide⟩ ?_
    refine gX_pI 24 dX12_book_30 fdX12_191 fpX12_191 rfl (Or.inl rfl) hM.1 ?_
    refine gX_aloadn dX12_book_33 rfl ?_
    refine gX_iconst dX12_book_34 ⟨by decide, by decide⟩ ?_
    refine gX_pI 26 dX12_book_35 fdX12_200 fpX12_200 rfl (Or.inr ⟨rfl, Or.inl rfl⟩) hM.1 ?_
    refine gX_aloadn dX12_book_38 rfl ?_
    refine gX_iconst dX12_book_39 ⟨by decide, by decide⟩ ?_
    refine gX_pI 27 dX12_book_40 fdX12_211 fpX12_211 rfl (Or.inr ⟨rfl, Or.inl rfl⟩) hM.1 ?_
    refine gX_aloadn dX12_book_43 rfl ?_
    refine gX_iconst dX12_book_44 ⟨by decide, by decide⟩ ?_
    refine gX_pI 28 dX12_book_45 fdX12_217 fpX12_217 rfl (Or.inl rfl) hM.1 ?_
    refine gX_aloadn dX12_book_48 rfl ?_
    refine gX_virt (J := iX12_beginWork) (av := []) (a := 775) (st := []) dX12_book_49 lkX12_220 kX12_beginWork vX12_beginWork (gFit_m (by decide)) hM.1 rfl rfl (Nat.le_of_ble_eq_true rfl) (Nat.zero_le _) (Nat.zero_le _) rfl ?_
    refine m_beginWork hM (fun V0 hb0 hc0 hf0 => ?_)
    show gX l E _ 52 [some (ga 775), none, none] [] (K, R, V0) _ _
    refine gX_iconst dX12_book_52 ⟨by decide, by decide⟩ ?_
    refine gX_istoren dX12_book_53 (show (1 : Nat) < 3 from by decide) (ls2 := [some (ga 775), some (gi 0), none]) rfl ?_
    have g7 : bkF V (gup (gup (gup (gup (gup (gup (gup V 775 17 (-1)) 775 18 0) 775 23 0) 775 24 (-1)) 775 26 0) 775 27 0) 775 28 0) := fun a k a1 a2 a3 a4 => by rw [gup_c (by omega), gup_c (by omega), gup_c (by omega), gup_c (by omega), gup_c (by omega), gup_c (by omega), gup_c (by omega)]
    have b0 : bkF V V0 := g7.trans (fun a k a1 _ _ _ => hf0 a k a1)
    have o0 : ∀ k, V0 775 k = (gup (gup (gup (gup (gup (gup (gup V 775 17 (-1)) 775 18 0) 775 23 0) 775 24 (-1)) 775 26 0) 775 27 0) 775 28 0) 775 k := fun k => hf0 775 k (by unfold inSl; omega)
    have t0 : tdIs V0 S.2.2.1 := by
      have z := hS.2.2.2.2.2.2
      unfold tdIs at z ⊢
      have z790 : V0 790 = V 790 := funext fun k => b0 790 k (by unfold inSl; omega) (by omega) (by omega) (by omega)
      rw [z790, o0 16]
      simp [gup]
      exact z
    refine lp 322 (0, 0, 0, -1) [] [] 0 (-1) lf0 320 V0 none _ _ (by show (321 : Int) - 0 < _; omega) ?_ (PI.ini lf0) (fun g g0 g1 => by have g1 : g < (0 : Int) := g1; omega) t0 (by rw [o0]; simp [gup]) (by show (0 : Int) ≤ 0; omega) (by show (0 : Int) ≤ _; omega) ⟨rfl, rfl, by rw [o0]; simp [gup]⟩ (by rw [o0]; simp [gup]) (by show (320 : Int) ≤ ((320 : Nat) : Int) + 0; omega) rfl b0 ⟨hb0.2.2.1, hb0.2.2.2, hc0⟩
    have nk : ∀ k : Int, 0 ≤ k → ¬ k < (([] : List gG).length : Int) := fun k k0 k1 => by have k1 : k < (0 : Int) := k1; omega
    refine ⟨⟨hb0.1, Nat.zero_le _, fun j x hx => (by cases hx), hb0.2.1, Nat.zero_le _, fun k q hq => (by cases hq)⟩, ⟨by rw [o0]; simp [gup, dpt_m, lmN, isLm], by rw [o0]; simp [gup], by rw [o0]; simp [gup, lmN, isLm]⟩, ⟨Or.inl (by rw [o0]; simp [gup]), fun z => absurd z (by decide), fun z => absurd z (by decide), fun z => absurd z (by decide), fun _ z => absurd z (by decide)⟩, by rw [o0]; simp [gup], fun k k0 k1 => absurd k1 (nk k k0), fun x i x0 x1 i0 i1 => ?_, fun z => absurd z (by decide), fun m z => ?_⟩
    · have x1 : x < (0 : Int) := x1
      have ex : x = -1 := by omega
      rw [ex, rwL_n] at i1
      have i1 : i < (0 : Int) := i1
      omega
    · exfalso
      have := upG_bd (gs := []) (fun k q hk => by cases hk) m (-1) (by omega) (by show (-1 : Int) < 0; omega)
      omega
  · refine gX_sipush dX12_book_9 (by decide) ⟨by decide, by decide⟩ ?_
    refine gX_iret dX12_book_12 (Or.inl rfl) ?_
    have ea : aBook S lf0 = (-1004, S) := by
      unfold aBook
      rw [if_neg (by omega)]
    rw [ea] at hQ
    exact hQ V hS gFr.rf (fun z => by omega)
end MD36
