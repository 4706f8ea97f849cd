/-! Scribe: leaving out, skip, turn, drop. Written by wip/whole/tools/mk_scribe2.py. -/
abbrev cS : Type := List Int × List gG × List Int × List Int
def lvS (f t : Int) (s : cS) : cS := (s.1.take f.toNat ++ s.1.drop (t + 1).toNat, lvG f t s.2.1.length 0 s.2.1, s.2.2.1, s.2.2.2)
/-- a chance of habit h, each m-th of which is taken: what is counted -/
def tcS (h m : Int) (s : cS) : cS := (s.1, s.2.1, bump s.2.2.1 h, tkL s.2.2.2 h (tkn (lat s.2.2.1 h + 1) m))
theorem tcS_c {s : cS} {h m c : Int} (hc : cBd s.2.2.1 c) (h0 : 0 ≤ h) (h1 : h < 6) : cBd (tcS h m s).2.2.1 (c + 1) := hc.bmp h0 h1
theorem tcS_t {s : cS} {h m c : Int} (hc : cBd s.2.2.2 c) (h0 : 0 ≤ h) (h1 : h < 6) : cBd (tcS h m s).2.2.2 (c + 1) := hc.tk h0 h1
def skS (rc m : Int) : Nat → Int → cS → cS
  | 0, _, s => s
  | n + 1, i, s => if i < s.1.length then (if nxtL s.1 i rc = -1 then skS rc m n (i + 1) s else if tkn (lat s.2.2.1 1 + 1) m = 1 then skS rc m n i (lvS (i + 1) (nxtL s.1 i rc) (tcS 1 m s)) else skS rc m n (i + 1) (tcS 1 m s)) else s
def tuC (s : cS) (i : Int) : Bool := decide (lat s.1 i ≠ lat s.1 (i + 1)) && !(inSp s.2.1 i) && !(inSp s.2.1 (i + 1))
def tuS (m : Int) : Nat → Int → cS → cS
  | 0, _, s => s
  | n + 1, i, s => if i + 1 < s.1.length then (if tuC s i = true then (if tkn (lat s.2.2.1 2 + 1) m = 1 then tuS m n (i + 2) (lput (lput s.1 i (lat s.1 (i + 1))) (i + 1) (lat s.1 i), (tcS 2 m s).2) else tuS m n (i + 1) (tcS 2 m s)) else tuS m n (i + 1) s) else s
def drS (m : Int) : Nat → Nat → cS → cS
  | 0, _, s => s
  | n + 1, g, s => if (gq s.2.1 g).2.2.2.2.1 = 0 then (if tkn (lat s.2.2.1 4 + 1) m = 1 then drS m n (g + 1) (s.1, awayG s.2.1 g, (tcS 4 m s).2.2) else drS m n (g + 1) (tcS 4 m s)) else drS m n (g + 1) s
/-- the text and the glosses alone have changed -/
def bFr (V V' : Int → Int → Int) (B : Int) : Prop := ∀ a, (a < B + 1 ∨ (B + 3 ≤ a ∧ a < B + 10) ∨ B + 70 ≤ a) → V' a = V a
theorem bFr.trans {V V1 V2 : Int → Int → Int} {B : Int} (h : bFr V V1 B) (h2 : bFr V1 V2 B) : bFr V V2 B := fun a ha => (h2 a ha).trans (h a ha)
theorem bFr.out {V V1 : Int → Int → Int} {B : Int} (h : bFr V V1 B) : gFr V V1 B (B + 70) := fun a ha => h a (by omega)
theorem gFr.b {V V1 : Int → Int → Int} {B : Int} {lo hi : Int} (h : gFr V V1 lo hi) (h1 : B + 10 ≤ lo) (h2 : hi ≤ B + 70) : bFr V V1 B := fun a ha => h a (by omega)
theorem bmIs.b {V V1 : Int → Int → Int} {B ex sc : Int} {ch tk : List Int} (h : bmIs V B ex sc ch tk) (hf : bFr V V1 B) : bmIs V1 B ex sc ch tk :=
  ⟨by rw [hf B (by omega)]; exact h.1, by rw [hf B (by omega)]; exact h.2.1, h.2.2.1.kept (hf _ (by omega)) (hf _ (by omega)), h.2.2.2.kept (hf _ (by omega)) (hf _ (by omega))⟩
def fbIs (V : Int → Int → Int) (B ex sc : Int) (s : cS) : Prop := bkIs V B s.1 s.2.1 ∧ bmIs V B ex sc s.2.2.1 s.2.2.2
theorem bkIs.m {V V1 : Int → Int → Int} {B : Int} {tx : List Int} {gs : List gG} (h : bkIs V B tx gs) (hf : gFr V V1 (B + 6) (B + 10)) : bkIs V1 B tx gs := h.keep2 (by rw [hf B (by omega)]) (hf _ (by omega)) (hf _ (by omega)) (fun a g1 g2 => hf a (by omega))
theorem glIs.span {V : Int → Int → Int} {g x y : Int} {q : gG} (hv : glIs V g q) : glIs (gup (gup V g 3 x) g 4 y) g (spG q x y) := by
  obtain ⟨a1, a2, a3, a4, a5, a6, a7⟩ := hv
  exact ⟨by rw [gup_o (Or.inr (by omega)), gup_o (Or.inr (by omega))]; exact a1, by rw [gup_o (Or.inr (by omega)), gup_o (Or.inr (by omega))]; exact a2, by rw [gup_o (Or.inr (by omega))]; exact gup_s, gup_s, by rw [gup_o (Or.inr (by omega)), gup_o (Or.inr (by omega))]; exact a5, a6, (a7.kept (gup_ne (by omega)) (gup_ne (by omega))).kept (gup_ne (by omega)) (gup_ne (by omega))⟩
theorem plc_bd {x f t c : Int} (h : -c ≤ x ∧ x ≤ c) (hf : 0 ≤ f) (ht : f ≤ t) (hc : t ≤ c) : -c ≤ plc x f t ∧ plc x f t ≤ c := by
  unfold plc
  split
  · omega
  · split <;> omega
theorem plc_lo {x f t c : Int} (h : c ≤ x) (hf : c ≤ f) (ht : f ≤ t) : c ≤ plc x f t := by
  unfold plc
  split
  · omega
  · split <;> omega
theorem lv1_len (f t : Int) (gs : List gG) (g : Nat) : (lv1 f t gs g).length = gs.length := by
  unfold lv1
  split
  · split
    · rw [awayG_len, List.length_set]
    · rw [List.length_set]
  · rfl
theorem lv1_bd {f t c : Int} {gs : List gG} {g : Nat} (h : gBd gs c) (hg : g < gs.length) (hf : 0 ≤ f) (ht : f ≤ t) (hc : t + 1 ≤ c) : gBd (lv1 f t gs g) c := by
  have hq := h _ (gq_mem (gs := gs) (g := (g : Int)) (by omega) (by omega))
  have b1 := plc_bd (x := (gq gs g).2.2.1) ⟨hq.1, hq.2.1⟩ hf ht (by omega)
  have b2 := plc_bd (x := (gq gs g).2.2.2.1 + 1) (c := c + 1) ⟨by omega, by omega⟩ hf ht (by omega)
  have b3 := plc_lo (x := (gq gs g).2.2.2.1 + 1) (f := f) (t := t) (c := -c + 1) (by omega) (by omega) ht
  have hs : gBd (gs.set g (spG (gq gs g) (plc (gq gs g).2.2.1 f t) (plc ((gq gs g).2.2.2.1 + 1) f t - 1))) c := h.set ⟨b1.1, b1.2, by show -c ≤ plc _ f t - 1; omega, by show plc _ f t - 1 ≤ c; omega⟩
  unfold lv1
  split
  · split
    · exact hs.away (by omega) (by rw [List.length_set]; omega)
    · exact hs
  · exact h
theorem lvG_len (f t : Int) : ∀ (n g : Nat) (gs : List gG), (lvG f t n g gs).length = gs.length := by
  intro n
  induction n with
  | zero => intro g gs; rfl
  | succ n ih => intro g gs; show (lvG f t n (g + 1) (lv1 f t gs g)).length = _; rw [ih, lv1_len]
theorem lvG_bd {f t c : Int} (hf : 0 ≤ f) (ht : f ≤ t) (hc : t + 1 ≤ c) : ∀ (n g : Nat) (gs : List gG), g + n ≤ gs.length → gBd gs c → gBd (lvG f t n g gs) c := by
  intro n
  induction n with
  | zero => intro g gs _ h; exact h
  | succ n ih =>
    intro g gs hl h
    exact ih (g + 1) _ (by rw [lv1_len]; omega) (lv1_bd h (by omega) hf ht hc)
section SCRIBE2
variable {l : Launch} {E : gE} {d : Nat} {K : List gK} {R V : Int → Int → Int} {B H g : Int} {Q : gQ} {tx : List Int} {gs : List gG} {q : gG} {ex sc rc wy : Int} {ch tk fr to fe ea : List Int}
set_option maxRecDepth 4000 in
theorem c_leaveOut {f t : Int} (hB : bkK K R B) (hb : bkIs V B tx gs) (h0 : 0 ≤ f) (h1 : f ≤ t) (h2 : t < tx.length) (hg : gBd gs 100) (hQ : ∀ V', bkIs V' B (tx.take f.toNat ++ tx.drop (t + 1).toNat) (lvG f t gs.length 0 gs) → bFr V V' B → Q none (K, R, V')) : gC l E (d + 4) iX7_leaveOut [ga B, gi f, gi t] (K, R, V) Q := by
  refine gC_of kX7_leaveOut (ls := [some (ga B), some (gi f), some (gi t), none, none, none, none]) rfl (Nat.le_of_ble_eq_true rfl) ?_
  have h20 := hb.2.2.1
  have hxl := hb.1.2.1
  have lp : ∀ (jj : Nat) (i : Int) (j4 : Option gV) (j5 : Option gV) (j6 : Option gV) (V1 : Int → Int → Int) (gs1 : List gG) (bc bs : Nat), gs1.length - i < (jj : Int) → 0 ≤ i → i ≤ gs1.length → gs1.length = gs.length → bkIs V1 B (tx.take f.toNat ++ tx.drop (t + 1).toNat) gs1 → bFr V V1 B → gBd gs1 100 → (∀ V', bkIs V' B (tx.take f.toNat ++ tx.drop (t + 1).toNat) (lvG f t (gs1.length - i.toNat) i.toNat gs1) → bFr V V' B → Q none (K, R, V')) → gX l E (gFm E (d + 4) iX7_leaveOut Q) 11 [some (ga B), some (gi f), some (gi t), some (gi i), j4, j5, j6] [] (K, R, V1) bc bs := by
    intro jj
    induction jj with
    | zero =>
      intro i j4 j5 j6 V1 gs1 bc bs hj q0 q1 q2 hb1 hf1 hbd hq2
      exfalso; omega
    | succ jj ih =>
      intro i j4 j5 j6 V1 gs1 bc bs hj q0 q1 q2 hb1 hf1 hbd hq2
      have hcn := hb1.2.1
      have h21 := hb1.2.2.1
      refine gX_iloadn dX7_leaveOut_11 rfl ?_
      refine gX_aloadn dX7_leaveOut_12 rfl ?_
      refine gX_gI 5 dX7_leaveOut_13 fdX7_84 rfl (Or.inl rfl) hB.1 ?_
      refine gX_icmpge (tgt := 99) dX7_leaveOut_16 (by decide) (fun w1 => ?_) (fun w1 => ?_)
      · refine gX_vret dX7_leaveOut_99 rfl ?_
        have ei : gs1.length - i.toNat = 0 := by omega
        rw [ei] at hq2
        exact hq2 V1 hb1 hf1
      · refine gX_aloadn dX7_leaveOut_19 rfl ?_
        refine gX_iloadn dX7_leaveOut_20 rfl ?_
        refine gX_virt (J := iX1_glossAt) (av := [gi i]) (a := B) (st := []) dX7_leaveOut_21 lkX7_116 kX1_glossAt vX1_glossAt (gFit_m (by decide)) hB.1 rfl rfl (Nat.le_of_ble_eq_true rfl) (Nat.zero_le _) (Nat.zero_le _) rfl ?_
        refine c_glossAt hB hb1 q0 (by omega) ?_
        show gX l E _ 24 [some (ga B), some (gi f), some (gi t), some (gi i), j4, j5, j6] [ga (B + 10 + 3 * i)] (K, R, V1) _ _
        refine gX_astore dX7_leaveOut_24 (show (4 : Nat) < 7 from by decide) (ls2 := [some (ga B), some (gi f), some (gi t), some (gi i), some (ga (B + 10 + 3 * i)), j5, j6]) rfl ?_
        refine gX_aload dX7_leaveOut_26 rfl ?_
        refine gX_ifnull (tgt := 93) dX7_leaveOut_28 (by decide) (fun w2 => absurd (kd_pos (hB.2.2.2.2.2.2.2.2.2.2.2 i q0 (by omega)).2.1) (by omega)) (fun w2 => ?_)
        refine gX_aload dX7_leaveOut_31 rfl ?_
        refine gX_virt (J := iX3_isOnText) (av := []) (a := (B + 10 + 3 * i)) (st := []) dX7_leaveOut_33 lkX7_120 kX3_isOnText vX3_isOnText (gFit_m (by decide)) (hB.2.2.2.2.2.2.2.2.2.2.2 i q0 (by omega)).2.1 rfl rfl (Nat.le_of_ble_eq_true rfl) (Nat.zero_le _) (Nat.zero_le _) rfl ?_
        refine c_isOnText (hB.2.2.2.2.2.2.2.2.2.2.2 i q0 (by omega)).2 (hb1.gl q0 (by omega)) ?_
        show gX l E _ 36 [some (ga B), some (gi f), some (gi t), some (gi i), some (ga (B + 10 + 3 * i)), j5, j6] [gi (onT (gq gs1 i))] (K, R, V1) _ _
        have o1 := onT_01 (gq gs1 i)
        have gb := hbd _ (gq_mem (gs := gs1) (g := i) q0 (by omega))
        have b1 := plc_bd (x := (gq gs1 i).2.2.1) (c := 100) ⟨gb.1, gb.2.1⟩ h0 h1 (by omega)
        have b2 := plc_bd (x := (gq gs1 i).2.2.2.1 + 1) (c := 101) ⟨by omega, by omega⟩ h0 h1 (by omega)
        refine gX_ifeq (tgt := 93) dX7_leaveOut_36 (by decide) (fun w3 => ?_) (fun w3 => ?_)
        · refine gX_iinc dX7_leaveOut_93 rfl (show (3 : Nat) < 7 from by decide) ⟨by omega, by omega⟩ (ls2 := [some (ga B), some (gi f), some (gi t), some (gi (i + 1)), some (ga (B + 10 + 3 * i)), j5, j6]) rfl ?_
          refine gX_goto (tgt := 11) dX7_leaveOut_96 (by decide) ?_
          have e1 : lv1 f t gs1 i.toNat = gs1 := by
            unfold lv1
            rw [Int.toNat_of_nonneg q0]
            rw [if_neg (by omega)]
          have ek : gs1.length - i.toNat = (gs1.length - (i.toNat + 1)) + 1 := by omega
          have e2 : lvG f t (gs1.length - i.toNat) i.toNat gs1 = lvG f t (gs1.length - (i.toNat + 1)) (i.toNat + 1) (gs1) := by
            rw [ek]
            show lvG f t _ _ (lv1 f t gs1 i.toNat) = _
            rw [e1]
          rw [e2] at hq2
          have hb9 := lv1_bd (f := f) (t := t) (g := i.toNat) hbd (by omega) h0 h1 (by omega)
          rw [e1] at hb9
          have hl9 := lv1_len f t gs1 i.toNat
          rw [e1] at hl9
          refine ih (i + 1) _ _ _ V1 gs1 _ _ (by omega) (by omega) (by omega) (by omega) hb1 hf1 hb9 ?_
          rw [hl9, show (i + 1).toNat = i.toNat + 1 by omega]
          exact hq2
        · refine gX_aload dX7_leaveOut_39 rfl ?_
          refine gX_gI 3 dX7_leaveOut_41 fdX7_126 rfl (Or.inl rfl) (hB.2.2.2.2.2.2.2.2.2.2.2 i q0 (by omega)).2.1 ?_
          rw [(hb1.gl q0 (by omega)).2.2.1]
          refine gX_iloadn dX7_leaveOut_44 rfl ?_
          refine gX_iloadn dX7_leaveOut_45 rfl ?_
          refine gX_stat (J := iX7_placeLeft) (av := [gi ((gq gs1 i).2.2.1), gi f, gi t]) (st := []) dX7_leaveOut_46 lkX7_129 kX7_placeLeft sX7_placeLeft (gFit_m (by decide)) rfl (Nat.le_of_ble_eq_true rfl) (Nat.zero_le _) (Nat.zero_le _) rfl ?_
          refine c_placeLeft (by omega) ?_
          show gX l E _ 49 [some (ga B), some (gi f), some (gi t), some (gi i), some (ga (B + 10 + 3 * i)), j5, j6] [gi (plc (gq gs1 i).2.2.1 f t)] (K, R, V1) _ _
          refine gX_istore dX7_leaveOut_49 (show (5 : Nat) < 7 from by decide) (ls2 := [some (ga B), some (gi f), some (gi t), some (gi i), some (ga (B + 10 + 3 * i)), some (gi (plc (gq gs1 i).2.2.1 f t)), j6]) rfl ?_
          refine gX_aload dX7_leaveOut_51 rfl ?_
          refine gX_gI 4 dX7_leaveOut_53 fdX7_133 rfl (Or.inl rfl) (hB.2.2.2.2.2.2.2.2.2.2.2 i q0 (by omega)).2.1 ?_
          rw [(hb1.gl q0 (by omega)).2.2.2.1]
          refine gX_iconst dX7_leaveOut_56 ⟨by decide, by decide⟩ ?_
          refine gX_iadd dX7_leaveOut_57 ⟨by omega, by omega⟩ ?_
          refine gX_iloadn dX7_leaveOut_58 rfl ?_
          refine gX_iloadn dX7_leaveOut_59 rfl ?_
          refine gX_stat (J := iX7_placeLeft) (av := [gi (((gq gs1 i).2.2.2.1) + 1), gi f, gi t]) (st := []) dX7_leaveOut_60 lkX7_129 kX7_placeLeft sX7_placeLeft (gFit_m (by decide)) rfl (Nat.le_of_ble_eq_true rfl) (Nat.zero_le _) (Nat.zero_le _) rfl ?_
          refine c_placeLeft (by omega) ?_
          show gX l E _ 63 [some (ga B), some (gi f), some (gi t), some (gi i), some (ga (B + 10 + 3 * i)), some (gi (plc (gq gs1 i).2.2.1 f t)), j6] [gi (plc ((gq gs1 i).2.2.2.1 + 1) f t)] (K, R, V1) _ _
          refine gX_istore dX7_leaveOut_63 (show (6 : Nat) < 7 from by decide) (ls2 := [some (ga B), some (gi f), some (gi t), some (gi i), some (ga (B + 10 + 3 * i)), some (gi (plc (gq gs1 i).2.2.1 f t)), some (gi (plc ((gq gs1 i).2.2.2.1 + 1) f t))]) rfl ?_
          refine gX_aload dX7_leaveOut_65 rfl ?_
          refine gX_iload dX7_leaveOut_67 rfl ?_
          refine gX_pI 3 dX7_leaveOut_69 fdX7_126 fpX7_126 rfl (Or.inl rfl) (hB.2.2.2.2.2.2.2.2.2.2.2 i q0 (by omega)).2.1 ?_
          refine gX_aload dX7_leaveOut_72 rfl ?_
          refine gX_iload dX7_leaveOut_74 rfl ?_
          refine gX_iconst dX7_leaveOut_76 ⟨by decide, by decide⟩ ?_
          refine gX_isub dX7_leaveOut_77 ⟨by omega, by omega⟩ ?_
          refine gX_pI 4 dX7_leaveOut_78 fdX7_133 fpX7_133 rfl (Or.inl rfl) (hB.2.2.2.2.2.2.2.2.2.2.2 i q0 (by omega)).2.1 ?_
          have hvs : glIs (gup (gup V1 (B + 10 + 3 * i) 3 (plc (gq gs1 i).2.2.1 f t)) (B + 10 + 3 * i) 4 (plc ((gq gs1 i).2.2.2.1 + 1) f t - 1)) (B + 10 + 3 * i) (spG (gq gs1 i) (plc (gq gs1 i).2.2.1 f t) (plc ((gq gs1 i).2.2.2.1 + 1) f t - 1)) := (hb1.gl q0 (by omega)).span
          have hes : ∀ a, a ≠ (B + 10 + 3 * i) → (gup (gup V1 (B + 10 + 3 * i) 3 (plc (gq gs1 i).2.2.1 f t)) (B + 10 + 3 * i) 4 (plc ((gq gs1 i).2.2.2.1 + 1) f t - 1)) a = V1 a := fun a g9 => by rw [gup_ne g9, gup_ne g9]
          generalize gup (gup V1 (B + 10 + 3 * i) 3 (plc (gq gs1 i).2.2.1 f t)) (B + 10 + 3 * i) 4 (plc ((gq gs1 i).2.2.2.1 + 1) f t - 1) = Vs at hvs hes ⊢
          have hbs : bkIs Vs B (tx.take f.toNat ++ tx.drop (t + 1).toNat) (gs1.set i.toNat (spG (gq gs1 i) (plc (gq gs1 i).2.2.1 f t) (plc ((gq gs1 i).2.2.2.1 + 1) f t - 1))) := hb1.setg q0 (by omega) hvs (fun a g1 g2 g3 => hes a (by omega))
          have hfs : bFr V1 Vs B := fun a ha => hes a (by omega)
          refine gX_iload dX7_leaveOut_81 rfl ?_
          refine gX_iload dX7_leaveOut_83 rfl ?_
          refine gX_icmpne (tgt := 93) dX7_leaveOut_85 (by decide) (fun w4 => ?_) (fun w4 => ?_)
          · refine gX_iinc dX7_leaveOut_93 rfl (show (3 : Nat) < 7 from by decide) ⟨by omega, by omega⟩ (ls2 := [some (ga B), some (gi f), some (gi t), some (gi (i + 1)), some (ga (B + 10 + 3 * i)), some (gi (plc (gq gs1 i).2.2.1 f t)), some (gi (plc ((gq gs1 i).2.2.2.1 + 1) f t))]) rfl ?_
            refine gX_goto (tgt := 11) dX7_leaveOut_96 (by decide) ?_
            have e1 : lv1 f t gs1 i.toNat = gs1.set i.toNat (spG (gq gs1 i) (plc (gq gs1 i).2.2.1 f t) (plc ((gq gs1 i).2.2.2.1 + 1) f t - 1)) := by
              unfold lv1
              rw [Int.toNat_of_nonneg q0]
              rw [if_pos (by omega), if_neg (by omega)]
            have ek : gs1.length - i.toNat = (gs1.length - (i.toNat + 1)) + 1 := by omega
            have e2 : lvG f t (gs1.length - i.toNat) i.toNat gs1 = lvG f t (gs1.length - (i.toNat + 1)) (i.toNat + 1) (gs1.set i.toNat (spG (gq gs1 i) (plc (gq gs1 i).2.2.1 f t) (plc ((gq gs1 i).2.2.2.1 + 1) f t - 1))) := by
              rw [ek]
              show lvG f t _ _ (lv1 f t gs1 i.toNat) = _
              rw [e1]
            rw [e2] at hq2
            have hb9 := lv1_bd (f := f) (t := t) (g := i.toNat) hbd (by omega) h0 h1 (by omega)
            rw [e1] at hb9
            have hl9 := lv1_len f t gs1 i.toNat
            rw [e1] at hl9
            refine ih (i + 1) _ _ _ Vs (gs1.set i.toNat (spG (gq gs1 i) (plc (gq gs1 i).2.2.1 f t) (plc ((gq gs1 i).2.2.2.1 + 1) f t - 1))) _ _ (by omega) (by omega) (by omega) (by omega) hbs (hf1.trans hfs) hb9 ?_
            rw [hl9, show (i + 1).toNat = i.toNat + 1 by omega]
            exact hq2
          · refine gX_aloadn dX7_leaveOut_88 rfl ?_
            refine gX_iloadn dX7_leaveOut_89 rfl ?_
            refine gX_virt (J := iX1_takeAway) (av := [gi i]) (a := B) (st := []) dX7_leaveOut_90 lkX7_136 kX1_takeAway vX1_takeAway (gFit_m (by decide)) hB.1 rfl rfl (Nat.le_of_ble_eq_true rfl) (Nat.zero_le _) (Nat.zero_le _) rfl ?_
            refine c_takeAway hB hbs q0 (by rw [List.length_set]; omega) (fun V2 hb2 hf2 => ?_)
            show gX l E _ 93 [some (ga B), some (gi f), some (gi t), some (gi i), some (ga (B + 10 + 3 * i)), some (gi (plc (gq gs1 i).2.2.1 f t)), some (gi (plc ((gq gs1 i).2.2.2.1 + 1) f t))] [] (K, R, V2) _ _
            refine gX_iinc dX7_leaveOut_93 rfl (show (3 : Nat) < 7 from by decide) ⟨by omega, by omega⟩ (ls2 := [some (ga B), some (gi f), some (gi t), some (gi (i + 1)), some (ga (B + 10 + 3 * i)), some (gi (plc (gq gs1 i).2.2.1 f t)), some (gi (plc ((gq gs1 i).2.2.2.1 + 1) f t))]) rfl ?_
            refine gX_goto (tgt := 11) dX7_leaveOut_96 (by decide) ?_
            have e1 : lv1 f t gs1 i.toNat = awayG (gs1.set i.toNat (spG (gq gs1 i) (plc (gq gs1 i).2.2.1 f t) (plc ((gq gs1 i).2.2.2.1 + 1) f t - 1))) i := by
              unfold lv1
              rw [Int.toNat_of_nonneg q0]
              rw [if_pos (by omega), if_pos (by omega)]
            have ek : gs1.length - i.toNat = (gs1.length - (i.toNat + 1)) + 1 := by omega
            have e2 : lvG f t (gs1.length - i.toNat) i.toNat gs1 = lvG f t (gs1.length - (i.toNat + 1)) (i.toNat + 1) (awayG (gs1.set i.toNat (spG (gq gs1 i) (plc (gq gs1 i).2.2.1 f t) (plc ((gq gs1 i).2.2.2.1 + 1) f t - 1))) i) := by
              rw [ek]
              show lvG f t _ _ (lv1 f t gs1 i.toNat) = _
              rw [e1]
            rw [e2] at hq2
            have hb9 := lv1_bd (f := f) (t := t) (g := i.toNat) hbd (by omega) h0 h1 (by omega)
            rw [e1] at hb9
            have hl9 := lv1_len f t gs1 i.toNat
            rw [e1] at hl9
            refine ih (i + 1) _ _ _ V2 (awayG (gs1.set i.toNat (spG (gq gs1 i) (plc (gq gs1 i).2.2.1 f t) (plc ((gq gs1 i).2.2.2.1 + 1) f t - 1))) i) _ _ (by omega) (by omega) (by omega) (by omega) hb2 (hf1.trans (hfs.trans (hf2.b (by omega) (by omega)))) hb9 ?_
            rw [hl9, show (i + 1).toNat = i.toNat + 1 by omega]
            exact hq2
  refine gX_aloadn dX7_leaveOut_0 rfl ?_
  refine gX_gR 0 dX7_leaveOut_1 fdX7_77 rfl rfl hB.1 hB.2.1 ?_
  refine gX_iloadn dX7_leaveOut_4 rfl ?_
  refine gX_iloadn dX7_leaveOut_5 rfl ?_
  refine gX_virt (J := iX6_cut) (av := [gi f, gi t]) (a := (B + 1)) (st := []) dX7_leaveOut_6 lkX7_113 kX6_cut vX6_cut (gFit_m (by decide)) hB.2.2.2.2.2.2.1.1 rfl rfl (Nat.le_of_ble_eq_true rfl) (Nat.zero_le _) (Nat.zero_le _) rfl ?_
  refine q_Row_cut hB.2.2.2.2.2.2.1 hb.1 h0 h1 h2 (fun V1 hx1 hf1 => ?_)
  show gX l E _ 9 [some (ga B), some (gi f), some (gi t), none, none, none, none] [] (K, R, V1) _ _
  refine gX_iconst dX7_leaveOut_9 ⟨by decide, by decide⟩ ?_
  refine gX_istoren dX7_leaveOut_10 (show (3 : Nat) < 7 from by decide) (ls2 := [some (ga B), some (gi f), some (gi t), some (gi 0), none, none, none]) rfl ?_
  refine lp (gs.length + 1) 0 none none none V1 gs _ _ (by omega) (by omega) (by omega) rfl (hb.sett hx1 (fun a g1 g2 g3 g4 => hf1 a g3 (by omega))) (fun a ha => hf1 a (by omega) (by omega)) hg ?_
  exact hQ
theorem nxtF_in {tx : List Int} {w b : Int} : ∀ (n : Nat) (k : Int), nxtF tx w b n k = -1 ∨ (k ≤ nxtF tx w b n k ∧ nxtF tx w b n k < tx.length) := by
  intro n
  induction n with
  | zero => intro k; exact Or.inl rfl
  | succ n ih =>
    intro k
    show (if _ then (if _ then _ else _) else _) = -1 ∨ _
    by_cases c : k ≤ b ∧ k < tx.length
    · by_cases c2 : lat tx k = w
      · have e : nxtF tx w b (n + 1) k = k := by
          show (if _ then (if _ then _ else _) else _) = _
          rw [if_pos c, if_pos c2]
        rw [e, if_pos c, if_pos c2]
        exact Or.inr ⟨by omega, c.2⟩
      · have e : nxtF tx w b (n + 1) k = nxtF tx w b n (k + 1) := by
          show (if _ then (if _ then _ else _) else _) = _
          rw [if_pos c, if_neg c2]
        rw [e, if_pos c, if_neg c2]
        rcases ih (k + 1) with h | h
        · exact Or.inl h
        · exact Or.inr ⟨by omega, h.2⟩
    · rw [if_neg c]
      exact Or.inl rfl
theorem nxtL_in (tx : List Int) (i rc : Int) : nxtL tx i rc = -1 ∨ (i + 1 ≤ nxtL tx i rc ∧ nxtL tx i rc < tx.length) := nxtF_in 41 (i + 1)
set_option maxRecDepth 4000 in
theorem c_skip {s0 : cS} (hB : bkK K R B) (hH : hdK K R H) (hd1 : H + 9 ≤ B ∨ B + 70 ≤ H) (hs : fbIs V B ex sc s0) (hh : hdIs V H fr to fe ea rc wy) (hr0 : -1 ≤ rc) (hr1 : rc ≤ 100) (hg : gBd s0.2.1 100) (hc : cBd s0.2.2.1 1000) (ht : cBd s0.2.2.2 1000) (hQ : ∀ V', fbIs V' B ex sc (skS rc (lat ea 1) 40 0 s0) → gFr V V' B (B + 70) → Q none (K, R, V')) : gC l E (d + 5) iX7_skip [ga B, ga H] (K, R, V) Q := by
  refine gC_of kX7_skip (ls := [some (ga B), some (ga H), none, none, none]) rfl (Nat.le_of_ble_eq_true rfl) ?_
  have lp : ∀ (jj : Nat) (i : Int) (lk : Int) (j4 : Option gV) (V1 : Int → Int → Int) (s : cS) (bc bs : Nat), 0 ≤ lk → (jj : Int) + lk = 40 → 0 ≤ i → i ≤ 40 → (s.1.length : Int) - i + lk ≤ 40 → fbIs V1 B ex sc s → hdIs V1 H fr to fe ea rc wy → gFr V V1 B (B + 70) → gBd s.2.1 100 → cBd s.2.2.1 (lk + 1000) → cBd s.2.2.2 (lk + 1000) → (∀ V', fbIs V' B ex sc (skS rc (lat ea 1) jj i s) → gFr V V' B (B + 70) → Q none (K, R, V')) → gX l E (gFm E (d + 5) iX7_skip Q) 4 [some (ga B), some (ga H), some (gi i), some (gi lk), j4] [] (K, R, V1) bc bs := by
    intro jj
    induction jj with
    | zero =>
      intro i lk j4 V1 s bc bs q1 q2 q3 q4 q5 hs1 hh1 hf1 hg1 hc1 ht1 hq2
      refine gX_iloadn dX7_skip_4 rfl ?_
      refine gX_bipush dX7_skip_5 (by decide) ⟨by decide, by decide⟩ ?_
      refine gX_icmpge (tgt := 71) dX7_skip_7 (by decide) (fun z1 => ?_) (fun z1 => ?_)
      · exact gX_vret dX7_skip_71 rfl (hq2 V1 hs1 hf1)
      · exfalso; omega
    | succ jj ih =>
      intro i lk j4 V1 s bc bs q1 q2 q3 q4 q5 hs1 hh1 hf1 hg1 hc1 ht1 hq2
      have hxl := hs1.1.1.2.1
      have nin := nxtL_in s.1 i rc
      refine gX_iloadn dX7_skip_4 rfl ?_
      refine gX_bipush dX7_skip_5 (by decide) ⟨by decide, by decide⟩ ?_
      refine gX_icmpge (tgt := 71) dX7_skip_7 (by decide) (fun w1 => ?_) (fun w1 => ?_)
      · refine gX_vret dX7_skip_71 rfl ?_
        have e1 : skS rc (lat ea 1) (jj + 1) i s = s := by
          show (if _ then (if _ then _ else if _ then _ else _) else _) = _
          rw [if_neg (by omega)]
        rw [e1] at hq2
        exact hq2 V1 hs1 hf1
      · refine gX_iloadn dX7_skip_10 rfl ?_
        refine gX_aloadn dX7_skip_11 rfl ?_
        refine gX_gR 0 dX7_skip_12 fdX7_77 rfl rfl hB.1 hB.2.1 ?_
        refine gX_virt (J := iX6_length) (av := []) (a := (B + 1)) (st := [gi i]) dX7_skip_15 lkX7_70 kX6_length vX6_length (gFit_m (by decide)) hB.2.2.2.2.2.2.1.1 rfl rfl (Nat.le_of_ble_eq_true rfl) (Nat.zero_le _) (Nat.zero_le _) rfl ?_
        refine q_Row_length hB.2.2.2.2.2.2.1 hs1.1.1 ?_
        show gX l E _ 18 [some (ga B), some (ga H), some (gi i), some (gi lk), j4] [gi s.1.length, gi i] (K, R, V1) _ _
        refine gX_icmpge (tgt := 71) dX7_skip_18 (by decide) (fun w2 => ?_) (fun w2 => ?_)
        · refine gX_vret dX7_skip_71 rfl ?_
          have e1 : skS rc (lat ea 1) (jj + 1) i s = s := by
            show (if _ then (if _ then _ else if _ then _ else _) else _) = _
            rw [if_neg (by omega)]
          rw [e1] at hq2
          exact hq2 V1 hs1 hf1
        · refine gX_aloadn dX7_skip_21 rfl ?_
          refine gX_gR 0 dX7_skip_22 fdX7_77 rfl rfl hB.1 hB.2.1 ?_
          refine gX_iloadn dX7_skip_25 rfl ?_
          refine gX_aloadn dX7_skip_26 rfl ?_
          refine gX_gI 4 dX7_skip_27 fdX7_98 rfl (Or.inl rfl) hH.1 ?_
          rw [hh1.2.2.2.2.1]
          refine gX_stat (J := iX7_nextLike) (av := [ga (B + 1), gi i, gi rc]) (st := []) dX7_skip_30 lkX7_101 kX7_nextLike sX7_nextLike (gFit_m (by decide)) rfl (Nat.le_of_ble_eq_true rfl) (Nat.zero_le _) (Nat.zero_le _) rfl ?_
          refine c_nextLike hB.2.2.2.2.2.2.1 hs1.1.1 (by omega) (by omega) hr0 hr1 ?_
          show gX l E _ 33 [some (ga B), some (ga H), some (gi i), some (gi lk), j4] [gi (nxtL s.1 i rc)] (K, R, V1) _ _
          refine gX_istore dX7_skip_33 (show (4 : Nat) < 5 from by decide) (ls2 := [some (ga B), some (ga H), some (gi i), some (gi lk), some (gi (nxtL s.1 i rc))]) rfl ?_
          refine gX_iload dX7_skip_35 rfl ?_
          refine gX_iconst dX7_skip_37 ⟨by decide, by decide⟩ ?_
          refine gX_icmpeq (tgt := 62) dX7_skip_38 (by decide) (fun w3 => ?_) (fun w3 => ?_)
          · refine gX_iinc dX7_skip_62 rfl (show (2 : Nat) < 5 from by decide) ⟨by omega, by omega⟩ (ls2 := [some (ga B), some (ga H), some (gi (i + 1)), some (gi lk), some (gi (nxtL s.1 i rc))]) rfl ?_
            refine gX_iinc dX7_skip_65 rfl (show (3 : Nat) < 5 from by decide) ⟨by omega, by omega⟩ (ls2 := [some (ga B), some (ga H), some (gi (i + 1)), some (gi (lk + 1)), some (gi (nxtL s.1 i rc))]) rfl ?_
            refine gX_goto (tgt := 4) dX7_skip_68 (by decide) ?_
            have e1 : skS rc (lat ea 1) (jj + 1) i s = skS rc (lat ea 1) jj (i + 1) s := by
              show (if _ then (if _ then _ else if _ then _ else _) else _) = _
              rw [if_pos (by omega), if_pos (by omega)]
            rw [e1] at hq2
            exact ih (i + 1) (lk + 1) _ V1 s _ _ (by omega) (by omega) (by omega) (by omega) (by omega) hs1 hh1 hf1 hg1 (hc1.up (by omega)) (ht1.up (by omega)) hq2
          · refine gX_iconst dX7_skip_41 ⟨by decide, by decide⟩ ?_
            refine gX_aloadn dX7_skip_42 rfl ?_
            refine gX_aloadn dX7_skip_43 rfl ?_
            refine gX_stat (J := iX7_chance) (av := [gi 1, ga B, ga H]) (st := []) dX7_skip_44 lkX7_105 kX7_chance sX7_chance (gFit_m (by decide)) rfl (Nat.le_of_ble_eq_true rfl) (Nat.zero_le _) (Nat.zero_le _) rfl ?_
            refine c_chance hB hH hs1.2 hh1 (by omega) (by omega) (hc1.up (by omega)) (ht1.up (by omega)) (fun V2 hm2 hf2 => ?_)
            show gX l E _ 47 [some (ga B), some (ga H), some (gi i), some (gi lk), some (gi (nxtL s.1 i rc))] [gi (tkn (lat s.2.2.1 1 + 1) (lat ea 1))] (K, R, V2) _ _
            have o1 := tkn_01 (lat s.2.2.1 1 + 1) (lat ea 1)
            refine gX_ifeq (tgt := 62) dX7_skip_47 (by decide) (fun w4 => ?_) (fun w4 => ?_)
            · refine gX_iinc dX7_skip_62 rfl (show (2 : Nat) < 5 from by decide) ⟨by omega, by omega⟩ (ls2 := [some (ga B), some (ga H), some (gi (i + 1)), some (gi lk), some (gi (nxtL s.1 i rc))]) rfl ?_
              refine gX_iinc dX7_skip_65 rfl (show (3 : Nat) < 5 from by decide) ⟨by omega, by omega⟩ (ls2 := [some (ga B), some (ga H), some (gi (i + 1)), some (gi (lk + 1)), some (gi (nxtL s.1 i rc))]) rfl ?_
              refine gX_goto (tgt := 4) dX7_skip_68 (by decide) ?_
              have e1 : skS rc (lat ea 1) (jj + 1) i s = skS rc (lat ea 1) jj (i + 1) (tcS 1 (lat ea 1) s) := by
                show (if _ then (if _ then _ else if _ then _ else _) else _) = _
                rw [if_pos (by omega), if_neg (by omega), if_neg (by omega)]
              rw [e1] at hq2
              exact ih (i + 1) (lk + 1) _ V2 (tcS 1 (lat ea 1) s) _ _ (by omega) (by omega) (by omega) (by omega) (by show (s.1.length : Int) - (i + 1) + (lk + 1) ≤ 40; omega) ⟨hs1.1.m hf2, hm2⟩ (hh1.fr hf2 (by omega)) (hf1.trans (hf2.wide (by omega) (by omega))) hg1 ((tcS_c (h := 1) (m := lat ea 1) hc1 (by omega) (by omega)).up (by omega)) ((tcS_t (h := 1) (m := lat ea 1) ht1 (by omega) (by omega)).up (by omega)) hq2
            · refine gX_aloadn dX7_skip_50 rfl ?_
              refine gX_iloadn dX7_skip_51 rfl ?_
              refine gX_iconst dX7_skip_52 ⟨by decide, by decide⟩ ?_
              refine gX_iadd dX7_skip_53 ⟨by omega, by omega⟩ ?_
              refine gX_iload dX7_skip_54 rfl ?_
              refine gX_stat (J := iX7_leaveOut) (av := [ga B, gi (i + 1), gi (nxtL s.1 i rc)]) (st := []) dX7_skip_56 lkX7_109 kX7_leaveOut sX7_leaveOut (gFit_m (by decide)) rfl (Nat.le_of_ble_eq_true rfl) (Nat.zero_le _) (Nat.zero_le _) rfl ?_
              refine c_leaveOut hB (hs1.1.m hf2) (by omega) (by omega) (by omega) hg1 (fun V3 hb3 hf3 => ?_)
              show gX l E _ 59 [some (ga B), some (ga H), some (gi i), some (gi lk), some (gi (nxtL s.1 i rc))] [] (K, R, V3) _ _
              refine gX_goto (tgt := 65) dX7_skip_59 (by decide) ?_
              refine gX_iinc dX7_skip_65 rfl (show (3 : Nat) < 5 from by decide) ⟨by omega, by omega⟩ (ls2 := [some (ga B), some (ga H), some (gi i), some (gi (lk + 1)), some (gi (nxtL s.1 i rc))]) rfl ?_
              refine gX_goto (tgt := 4) dX7_skip_68 (by decide) ?_
              have e1 : skS rc (lat ea 1) (jj + 1) i s = skS rc (lat ea 1) jj i (lvS (i + 1) (nxtL s.1 i rc) (tcS 1 (lat ea 1) s)) := by
                show (if _ then (if _ then _ else if _ then _ else _) else _) = _
                rw [if_pos (by omega), if_neg (by omega), if_pos (by omega)]
              rw [e1] at hq2
              refine ih i (lk + 1) _ V3 (lvS (i + 1) (nxtL s.1 i rc) (tcS 1 (lat ea 1) s)) _ _ (by omega) (by omega) (by omega) (by omega) ?_ ⟨hb3, hm2.b hf3⟩ ((hh1.fr hf2 (by omega)).fr hf3.out (by omega)) (hf1.trans ((hf2.wide (by omega) (by omega)).trans hf3.out)) (lvG_bd (by omega) (by omega) (by omega) _ _ _ (by omega) hg1) ((tcS_c (h := 1) (m := lat ea 1) hc1 (by omega) (by omega)).up (by omega)) ((tcS_t (h := 1) (m := lat ea 1) ht1 (by omega) (by omega)).up (by omega)) hq2
              show ((s.1.take (i + 1).toNat ++ s.1.drop (nxtL s.1 i rc + 1).toNat).length : Int) - i + (lk + 1) ≤ 40
              rw [List.length_append, List.length_take, List.length_drop]
              omega
  refine gX_iconst dX7_skip_0 ⟨by decide, by decide⟩ ?_
  refine gX_istoren dX7_skip_1 (show (2 : Nat) < 5 from by decide) (ls2 := [some (ga B), some (ga H), some (gi 0), none, none]) rfl ?_
  refine gX_iconst dX7_skip_2 ⟨by decide, by decide⟩ ?_
  refine gX_istoren dX7_skip_3 (show (3 : Nat) < 5 from by decide) (ls2 := [some (ga B), some (ga H), some (gi 0), some (gi 0), none]) rfl ?_
  have hxl := hs.1.1.2.1
  exact lp 40 0 0 none V s0 _ _ (by omega) (by omega) (by omega) (by omega) (by omega) hs hh gFr.rf hg (hc.up (by omega)) (ht.up (by omega)) hQ
end SCRIBE2
