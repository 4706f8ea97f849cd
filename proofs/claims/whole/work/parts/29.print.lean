/-! Book: steps and print. Written by wip/whole/tools/mk_print.py. -/
theorem gcmp0_0 {x : Int} (h : gcmp x 0 = 0) : x = 0 := by unfold gcmp at h; (repeat' split at h) <;> omega
theorem gcmp0_n {x : Int} (h : ¬ gcmp x 0 = 0) : ¬ x = 0 := by unfold gcmp at h; (repeat' split at h) <;> omega
def isF (c : Int) : Bool := decide (48 ≤ c ∧ c ≤ 57)
abbrev pO : Type := List Int
/-- printing by a way A of adding a sign -/
def prN1 (A : pO → Int → pO) (o : pO) : pO := if isF (lat o (o.length - 1)) = true then A o 32 else o
def prN2 (A : pO → Int → pO) (v : Int) (o : pO) : pO := if 10 ≤ v then A o (48 + v / 10) else o
def prNum (A : pO → Int → pO) (v : Int) (o : pO) : pO := A (prN2 A v (prN1 A o)) (48 + v % 10)
def prW (A : pO → Int → pO) (xs : List Int) (last : Int) : Nat → Int → pO → pO
  | 0, _, o => o
  | n + 1, i, o => if i ≤ last ∧ i < xs.length then prW A xs last n (i + 1) (prNum A (lat xs i) o) else o
abbrev pS : Type := Int × pO
def spT (A : pO → Int → pO) (gs : List gG) (rec : Int → pS → pS) (op : gG) : Nat → pS → pS
  | 0, s => s
  | n + 1, s => if 0 ≤ s.1 ∧ s.1 < gs.length ∧ shr (gq gs s.1) op = 1 then spT A gs rec op n (rec s.1 (s.1 + 1, A (A s.2 124) (if (gq gs s.1).1 = 0 then 97 else 98))) else s
def prSp (A : pO → Int → pO) (tx : List Int) (gs : List gG) (rec : Int → pS → pS) (op : gG) (s : pS) : pS := ((spT A gs rec op 20 (s.1, prW A (rwL tx gs op.2.1) op.2.2.2.1 41 op.2.2.1 (A s.2 91))).1, A (spT A gs rec op 20 (s.1, prW A (rwL tx gs op.2.1) op.2.2.2.1 41 op.2.2.1 (A s.2 91))).2 93)
def opn (gs : List gG) (host i nx : Int) : Bool := decide (0 ≤ nx ∧ nx < gs.length ∧ (gq gs nx).2.1 = host ∧ (gq gs nx).2.2.1 = i ∧ i ≤ (gq gs nx).2.2.2.1)
def roL (A : pO → Int → pO) (tx : List Int) (gs : List gG) (rec : Int → pS → pS) (host : Int) : Nat → Int → pS → pS
  | 0, _, s => s
  | n + 1, i, s => if i < (rwL tx gs host).length then (if opn gs host i s.1 = true then roL A tx gs rec host n ((gq gs s.1).2.2.2.1 + 1) (prSp A tx gs rec (gq gs s.1) s) else roL A tx gs rec host n (i + 1) (s.1, prNum A (lat (rwL tx gs host) i) s.2)) else s
def prR (A : pO → Int → pO) (tx : List Int) (gs : List gG) : Nat → Int → pS → pS
  | 0, _, s => s
  | f + 1, host, s => roL A tx gs (prR A tx gs f) host 41 0 s
/-- spans in their rows -/
def lsW (tx : List Int) (gs : List gG) : Prop := ∀ q ∈ gs, 0 ≤ q.2.2.1 ∧ q.2.2.1 ≤ q.2.2.2.1 ∧ q.2.2.2.1 < (rwL tx gs q.2.1).length
def wdW (tx : List Int) (gs : List gG) : Prop := ∀ h i : Int, 0 ≤ i → i < (rwL tx gs h).length → 0 ≤ lat (rwL tx gs h) i ∧ lat (rwL tx gs h) i ≤ 63
theorem rwL_len {V : Int → Int → Int} {B : Int} {tx : List Int} {gs : List gG} (hb : bkIs V B tx gs) (h : Int) : (rwL tx gs h).length ≤ 40 := by
  unfold rwL
  by_cases c : 0 ≤ h ∧ h < gs.length
  · rw [if_pos c]
    have := (hb.gl c.1 c.2).2.2.2.2.2.2.2.1
    omega
  · rw [if_neg c]; exact hb.1.2.1
section PRINT
variable {l : Launch} {E : gE} {d : Nat} {K : List gK} {R V : Int → Int → Int} {B W g : Int} {Q : gQ} {tx xs ys so pa out : List Int} {gs : List gG} {q : gG} {n m N : Nat}
set_option maxRecDepth 4000 in
theorem c_steps {w v : Int} (hB : bkK K R B) (hb : bkIs V B tx gs) (hg1 : gBd gs 100) (hQ : Q (some (gi (stps tx gs w v))) (K, R, V)) : gC l E (d + 4) iX1_stepsBetween [ga B, gi w, gi v] (K, R, V) Q := by
  refine gC_of kX1_stepsBetween (ls := [some (ga B), some (gi w), some (gi v), none, none, none, none, none]) rfl (Nat.le_of_ble_eq_true rfl) ?_
  have lp : ∀ (jj : Nat) (k : Int) (se : Int) (fr : Int) (bc bs : Nat), (65 : Int) - k < (jj : Int) → 1 ≤ k → k ≤ 65 → (Q (some (gi (stF tx gs v (65 - k).toNat k se fr))) (K, R, V)) → gX l E (gFm E (d + 4) iX1_stepsBetween Q) 10 [some (ga B), some (gi w), some (gi v), some (gl se), none, some (gl fr), none, some (gi k)] [] (K, R, V) bc bs := by
    intro jj
    induction jj with
    | zero =>
      intro k se fr bc bs hj q0 q1 hq2
      exfalso; omega
    | succ jj ih =>
      intro k se fr bc bs hj q0 q1 hq2
      refine gX_iload dX1_stepsBetween_10 rfl ?_
      refine gX_bipush dX1_stepsBetween_12 (by decide) ⟨by decide, by decide⟩ ?_
      refine gX_icmpgt (tgt := 63) dX1_stepsBetween_14 (by decide) (fun w1 => ?_) (fun w1 => ?_)
      · refine gX_iconst dX1_stepsBetween_63 ⟨by decide, by decide⟩ ?_
        refine gX_iret dX1_stepsBetween_64 (Or.inl rfl) ?_
        by_cases ck : k ≤ 64
        · have ek : (65 - k).toNat = (65 - (k + 1)).toNat + 1 := by omega
          have e1 : stF tx gs v (65 - k).toNat k se fr = -1 := by
            rw [ek]
            show (if _ then _ else if _ then _ else _) = _
            rw [if_pos (gcmp0_0 (by first | assumption | (exfalso; omega)))]
          rw [e1] at hq2
          exact hq2
        · have ei : (65 - k).toNat = 0 := by omega
          rw [ei] at hq2
          exact hq2
      · refine gX_lload dX1_stepsBetween_17 rfl ?_
        refine gX_lconst (x := 0) dX1_stepsBetween_19 (by decide) ⟨by decide, by decide⟩ ?_
        refine gX_lcmp dX1_stepsBetween_20 ?_
        refine gX_ifeq (tgt := 63) dX1_stepsBetween_21 (by decide) (fun w2 => ?_) (fun w2 => ?_)
        · refine gX_iconst dX1_stepsBetween_63 ⟨by decide, by decide⟩ ?_
          refine gX_iret dX1_stepsBetween_64 (Or.inl rfl) ?_
          by_cases ck : k ≤ 64
          · have ek : (65 - k).toNat = (65 - (k + 1)).toNat + 1 := by omega
            have e1 : stF tx gs v (65 - k).toNat k se fr = -1 := by
              rw [ek]
              show (if _ then _ else if _ then _ else _) = _
              rw [if_pos (gcmp0_0 (by first | assumption | (exfalso; omega)))]
            rw [e1] at hq2
            exact hq2
          · have ei : (65 - k).toNat = 0 := by omega
            rw [ei] at hq2
            exact hq2
        · refine gX_aloadn dX1_stepsBetween_24 rfl ?_
          refine gX_lload dX1_stepsBetween_25 rfl ?_
          refine gX_virt (J := iX1_explainersOf) (av := [gl fr]) (a := B) (st := []) dX1_stepsBetween_27 lkX1_149 kX1_explainersOf vX1_explainersOf (gFit_m (by decide)) hB.1 rfl rfl (Nat.le_of_ble_eq_true rfl) (Nat.zero_le _) (Nat.zero_le _) rfl ?_
          refine c_explainers hB hb hg1 ?_
          show gX l E _ 30 [some (ga B), some (gi w), some (gi v), some (gl se), none, some (gl fr), none, some (gi k)] [gl (expl tx gs fr)] (K, R, V) _ _
          refine gX_lloadn dX1_stepsBetween_30 rfl ?_
          refine gX_ldc2 (x := -1) dX1_stepsBetween_31 clX1_153 (by decide) ⟨by decide, by decide⟩ ?_
          refine gX_lxor dX1_stepsBetween_34 ?_
          refine gX_land dX1_stepsBetween_35 ?_
          refine gX_lstore dX1_stepsBetween_36 (show (5 : Nat) + 1 < 8 from by decide) (ls2 := [some (ga B), some (gi w), some (gi v), some (gl se), none, some (gl (gland (expl tx gs fr) (glxor se (-1)))), none, some (gi k)]) rfl ?_
          refine gX_lload dX1_stepsBetween_38 rfl ?_
          refine gX_iloadn dX1_stepsBetween_40 rfl ?_
          refine gX_lushr dX1_stepsBetween_41 ?_
          refine gX_lconst (x := 1) dX1_stepsBetween_42 (by decide) ⟨by decide, by decide⟩ ?_
          refine gX_land dX1_stepsBetween_43 ?_
          refine gX_lconst (x := 1) dX1_stepsBetween_44 (by decide) ⟨by decide, by decide⟩ ?_
          refine gX_lcmp dX1_stepsBetween_45 ?_
          refine gX_ifne (tgt := 52) dX1_stepsBetween_46 (by decide) (fun w3 => ?_) (fun w3 => ?_)
          · refine gX_lloadn dX1_stepsBetween_52 rfl ?_
            refine gX_lload dX1_stepsBetween_53 rfl ?_
            refine gX_lor dX1_stepsBetween_55 ?_
            refine gX_lstoren dX1_stepsBetween_56 (show (3 : Nat) + 1 < 8 from by decide) (ls2 := [some (ga B), some (gi w), some (gi v), some (gl (glor se (gland (expl tx gs fr) (glxor se (-1))))), none, some (gl (gland (expl tx gs fr) (glxor se (-1)))), none, some (gi k)]) rfl ?_
            refine gX_iinc dX1_stepsBetween_57 rfl (show (7 : Nat) < 8 from by decide) ⟨by omega, by omega⟩ (ls2 := [some (ga B), some (gi w), some (gi v), some (gl (glor se (gland (expl tx gs fr) (glxor se (-1))))), none, some (gl (gland (expl tx gs fr) (glxor se (-1)))), none, some (gi (k + 1))]) rfl ?_
            refine gX_goto (tgt := 10) dX1_stepsBetween_60 (by decide) ?_
            have ek : (65 - k).toNat = (65 - (k + 1)).toNat + 1 := by omega
            have e1 : stF tx gs v (65 - k).toNat k se fr = stF tx gs v (65 - (k + 1)).toNat (k + 1) (glor se (gland (expl tx gs fr) (glxor se (-1)))) (gland (expl tx gs fr) (glxor se (-1))) := by
              rw [ek]
              show (if _ then _ else if _ then _ else _) = _
              rw [if_neg (gcmp0_n (by assumption)), if_neg (gcmp_n (by assumption))]
            rw [e1] at hq2
            exact ih (k + 1) _ _ _ _ (by omega) (by omega) (by omega) hq2
          · refine gX_iload dX1_stepsBetween_49 rfl ?_
            refine gX_iret dX1_stepsBetween_51 (Or.inl rfl) ?_
            have ek : (65 - k).toNat = (65 - (k + 1)).toNat + 1 := by omega
            have e1 : stF tx gs v (65 - k).toNat k se fr = k := by
              rw [ek]
              show (if _ then _ else if _ then _ else _) = _
              rw [if_neg (gcmp0_n (by assumption)), if_pos (gcmp_0 (fun z => z (by assumption)))]
            rw [e1] at hq2
            exact hq2
  refine gX_lconst (x := 0) dX1_stepsBetween_0 (by decide) ⟨by decide, by decide⟩ ?_
  refine gX_lstoren dX1_stepsBetween_1 (show (3 : Nat) + 1 < 8 from by decide) (ls2 := [some (ga B), some (gi w), some (gi v), some (gl 0), none, none, none, none]) rfl ?_
  refine gX_lconst (x := 1) dX1_stepsBetween_2 (by decide) ⟨by decide, by decide⟩ ?_
  refine gX_iloadn dX1_stepsBetween_3 rfl ?_
  refine gX_lshl dX1_stepsBetween_4 ?_
  refine gX_lstore dX1_stepsBetween_5 (show (5 : Nat) + 1 < 8 from by decide) (ls2 := [some (ga B), some (gi w), some (gi v), some (gl 0), none, some (gl (glshl 1 w)), none, none]) rfl ?_
  refine gX_iconst dX1_stepsBetween_7 ⟨by decide, by decide⟩ ?_
  refine gX_istore dX1_stepsBetween_8 (show (7 : Nat) < 8 from by decide) (ls2 := [some (ga B), some (gi w), some (gi v), some (gl 0), none, some (gl (glshl 1 w)), none, some (gi 1)]) rfl ?_
  exact lp 65 1 0 (glshl 1 w) _ _ (by omega) (by omega) (by omega) hQ
set_option maxRecDepth 4000 in
theorem c_isFigure {c : Int} (hQ : Q (some (gi (b2i (isF c)))) (K, R, V)) : gC l E (d + 1) iX8_isFigure [gi c] (K, R, V) Q := by
  refine gC_of kX8_isFigure (ls := [some (gi c)]) rfl (Nat.le_of_ble_eq_true rfl) ?_
  refine gX_iloadn dX8_isFigure_0 rfl ?_
  refine gX_bipush dX8_isFigure_1 (by decide) ⟨by decide, by decide⟩ ?_
  refine gX_icmplt (tgt := 16) dX8_isFigure_3 (by decide) (fun w1 => ?_) (fun w1 => ?_)
  · refine gX_iconst dX8_isFigure_16 ⟨by decide, by decide⟩ ?_
    refine gX_iret dX8_isFigure_17 (Or.inr ⟨rfl, Or.inl rfl⟩) ?_
    have ec : isF c = false := by unfold isF; simp only [decide_eq_true_eq, decide_eq_false_iff_not]; omega
    rw [ec] at hQ
    exact hQ
  · refine gX_iloadn dX8_isFigure_6 rfl ?_
    refine gX_bipush dX8_isFigure_7 (by decide) ⟨by decide, by decide⟩ ?_
    refine gX_icmpgt (tgt := 16) dX8_isFigure_9 (by decide) (fun w2 => ?_) (fun w2 => ?_)
    · refine gX_iconst dX8_isFigure_16 ⟨by decide, by decide⟩ ?_
      refine gX_iret dX8_isFigure_17 (Or.inr ⟨rfl, Or.inl rfl⟩) ?_
      have ec : isF c = false := by unfold isF; simp only [decide_eq_true_eq, decide_eq_false_iff_not]; omega
      rw [ec] at hQ
      exact hQ
    · refine gX_iconst dX8_isFigure_12 ⟨by decide, by decide⟩ ?_
      refine gX_goto (tgt := 17) dX8_isFigure_13 (by decide) ?_
      refine gX_iret dX8_isFigure_17 (Or.inr ⟨rfl, Or.inr rfl⟩) ?_
      have ec : isF c = true := by unfold isF; simp only [decide_eq_true_eq, decide_eq_false_iff_not]; omega
      rw [ec] at hQ
      exact hQ
set_option maxRecDepth 4000 in
theorem c_printNumber {v : Int} (hW : gRow K R W N) (hN : N ≤ 1000) (hv : 0 ≤ v ∧ v ≤ 63) (hx : rIs V W N out) (hQ : ∀ V', rIs V' W N (prNum (ladd N) v out) → rFr V V' W → Q none (K, R, V')) : gC l E (d + 2) iX1_printNumber [gi v, ga W] (K, R, V) Q := by
  refine gC_of kX1_printNumber (ls := [some (gi v), some (ga W)]) rfl (Nat.le_of_ble_eq_true rfl) ?_
  have t3 : ∀ (V1 : Int → Int → Int) (o3 : pO) (bc bs : Nat), rIs V1 W N o3 → rFr V V1 W → (∀ V', rIs V' W N (ladd N o3 (48 + v % 10)) → rFr V V' W → Q none (K, R, V')) → gX l E (gFm E (d + 2) iX1_printNumber Q) 39 [some (gi v), some (ga W)] [] (K, R, V1) bc bs := by
    intro V1 o3 bc bs hx1 hf1 hq
    refine gX_aloadn dX1_printNumber_39 rfl ?_
    refine gX_bipush dX1_printNumber_40 (by decide) ⟨by decide, by decide⟩ ?_
    refine gX_iloadn dX1_printNumber_42 rfl ?_
    refine gX_bipush dX1_printNumber_43 (by decide) ⟨by decide, by decide⟩ ?_
    refine gX_irem dX1_printNumber_45 (by omega) (by omega) ?_
    refine gX_iadd dX1_printNumber_46 ⟨by omega, by omega⟩ ?_
    refine gX_virt (J := iX6_add) (av := [gi (48 + (v % 10))]) (a := W) (st := []) dX1_printNumber_47 lkX1_135 kX6_add vX6_add (gFit_m (by decide)) hW.1 rfl rfl (Nat.le_of_ble_eq_true rfl) (Nat.zero_le _) (Nat.zero_le _) rfl ?_
    refine q_Row_add hW hx1 (fun V2 hx2 hf2 => ?_)
    show gX l E _ 50 [some (gi v), some (ga W)] [] (K, R, V2) _ _
    refine gX_vret dX1_printNumber_50 rfl ?_
    exact hq V2 hx2 (hf1.trans hf2)
  have t2 : ∀ (V1 : Int → Int → Int) (o2 : pO) (bc bs : Nat), rIs V1 W N o2 → rFr V V1 W → (∀ V', rIs V' W N (ladd N (prN2 (ladd N) v o2) (48 + v % 10)) → rFr V V' W → Q none (K, R, V')) → gX l E (gFm E (d + 2) iX1_printNumber Q) 22 [some (gi v), some (ga W)] [] (K, R, V1) bc bs := by
    intro V1 o2 bc bs hx1 hf1 hq
    refine gX_iloadn dX1_printNumber_22 rfl ?_
    refine gX_bipush dX1_printNumber_23 (by decide) ⟨by decide, by decide⟩ ?_
    refine gX_icmplt (tgt := 39) dX1_printNumber_25 (by decide) (fun b1 => ?_) (fun b1 => ?_)
    · have e : prN2 (ladd N) v o2 = o2 := if_neg (by omega)
      rw [e] at hq
      exact t3 V1 _ _ _ hx1 hf1 hq
    · refine gX_aloadn dX1_printNumber_28 rfl ?_
      refine gX_bipush dX1_printNumber_29 (by decide) ⟨by decide, by decide⟩ ?_
      refine gX_iloadn dX1_printNumber_31 rfl ?_
      refine gX_bipush dX1_printNumber_32 (by decide) ⟨by decide, by decide⟩ ?_
      refine gX_idiv dX1_printNumber_34 (by omega) (by omega) ?_
      refine gX_iadd dX1_printNumber_35 ⟨by omega, by omega⟩ ?_
      refine gX_virt (J := iX6_add) (av := [gi (48 + (v / 10))]) (a := W) (st := []) dX1_printNumber_36 lkX1_135 kX6_add vX6_add (gFit_m (by decide)) hW.1 rfl rfl (Nat.le_of_ble_eq_true rfl) (Nat.zero_le _) (Nat.zero_le _) rfl ?_
      refine q_Row_add hW hx1 (fun V2 hx2 hf2 => ?_)
      show gX l E _ 39 [some (gi v), some (ga W)] [] (K, R, V2) _ _
      have e : prN2 (ladd N) v o2 = ladd N o2 (48 + v / 10) := if_pos (by omega)
      rw [e] at hq
      exact t3 V2 _ _ _ hx2 (hf1.trans hf2) hq
  have hxl := hx.2.1
  refine gX_aloadn dX1_printNumber_0 rfl ?_
  refine gX_aloadn dX1_printNumber_1 rfl ?_
  refine gX_virt (J := iX6_length) (av := []) (a := W) (st := [ga W]) dX1_printNumber_2 lkX1_105 kX6_length vX6_length (gFit_m (by decide)) hW.1 rfl rfl (Nat.le_of_ble_eq_true rfl) (Nat.zero_le _) (Nat.zero_le _) rfl ?_
  refine q_Row_length hW hx ?_
  show gX l E _ 5 [some (gi v), some (ga W)] [gi out.length, ga W] (K, R, V) _ _
  refine gX_iconst dX1_printNumber_5 ⟨by decide, by decide⟩ ?_
  refine gX_isub dX1_printNumber_6 ⟨by omega, by omega⟩ ?_
  refine gX_virt (J := iX6_at) (av := [gi (out.length - 1)]) (a := W) (st := []) dX1_printNumber_7 lkX1_120 kX6_at vX6_at (gFit_m (by decide)) hW.1 rfl rfl (Nat.le_of_ble_eq_true rfl) (Nat.zero_le _) (Nat.zero_le _) rfl ?_
  refine q_Row_at hW hx ?_
  show gX l E _ 10 [some (gi v), some (ga W)] [gi (lat out (out.length - 1))] (K, R, V) _ _
  refine gX_stat (J := iX8_isFigure) (av := [gi (lat out (out.length - 1))]) (st := []) dX1_printNumber_10 lkX1_138 kX8_isFigure sX8_isFigure (gFit_m (by decide)) rfl (Nat.le_of_ble_eq_true rfl) (Nat.zero_le _) (Nat.zero_le _) rfl ?_
  refine c_isFigure ?_
  show gX l E _ 13 [some (gi v), some (ga W)] [gi (b2i (isF (lat out (out.length - 1))))] (K, R, V) _ _
  refine gX_ifeq (tgt := 22) dX1_printNumber_13 (by decide) (fun c1 => ?_) (fun c1 => ?_)
  · have e : prN1 (ladd N) out = out := if_neg (by rw [b2i_0 (b := isF (lat out (out.length - 1))) (by assumption)]; decide)
    unfold prNum at hQ
    rw [e] at hQ
    exact t2 V _ _ _ hx (fun _ _ _ => rfl) hQ
  · refine gX_aloadn dX1_printNumber_16 rfl ?_
    refine gX_bipush dX1_printNumber_17 (by decide) ⟨by decide, by decide⟩ ?_
    refine gX_virt (J := iX6_add) (av := [gi 32]) (a := W) (st := []) dX1_printNumber_19 lkX1_135 kX6_add vX6_add (gFit_m (by decide)) hW.1 rfl rfl (Nat.le_of_ble_eq_true rfl) (Nat.zero_le _) (Nat.zero_le _) rfl ?_
    refine q_Row_add hW hx (fun V2 hx2 hf2 => ?_)
    show gX l E _ 22 [some (gi v), some (ga W)] [] (K, R, V2) _ _
    have e : prN1 (ladd N) out = ladd N out 32 := if_pos (b2i_1 (by assumption))
    unfold prNum at hQ
    rw [e] at hQ
    exact t2 V2 _ _ _ hx2 hf2 hQ
/-- what printing a row does, with f levels left -/
def prC (l : Launch) (E : gE) (K : List gK) (R : Int → Int → Int) (B W : Int) (N : Nat) (tx : List Int) (gs : List gG) (dd f : Nat) : Prop := ∀ (V : Int → Int → Int) (Q : gQ) (host nx : Int) (out : pO), bkIs V B tx gs → rIs V W N out → (∀ V', rIs V' W N (prR (ladd N) tx gs f host (nx, out)).2 → rFr V V' W → Q (some (gi (prR (ladd N) tx gs f host (nx, out)).1)) (K, R, V')) → gC l E dd iX1_printRow [ga B, gi host, gi nx, ga W, gi (5 - f)] (K, R, V) Q
theorem rwA_in (B : Int) (n : Nat) (h : Int) (hn : n ≤ 20) : B + 1 ≤ rwA B n h ∧ rwA B n h + 2 ≤ B + 70 := by
  unfold rwA
  split <;> omega
set_option maxRecDepth 4000 in
theorem c_printSpan {f : Nat} {nx : Int} (hf4 : f ≤ 4) (hrec : prC l E K R B W N tx gs (d + 3) f) (hB : bkK K R B) (hW : gRow K R W N) (hN : N ≤ 1000) (hd1 : W + 2 ≤ B ∨ B + 70 ≤ W) (hg1 : gBd gs 100) (hls : lsW tx gs) (hwd : wdW tx gs) (hb : bkIs V B tx gs) (hg : glK K R g) (hga : B + 10 ≤ g ∧ g + 3 ≤ B + 70) (hv : glIs V g q) (hqm : q ∈ gs) (hx : rIs V W N out) (hQ : ∀ V', rIs V' W N (prSp (ladd N) tx gs (prR (ladd N) tx gs f) q (nx, out)).2 → rFr V V' W → Q (some (gi (prSp (ladd N) tx gs (prR (ladd N) tx gs f) q (nx, out)).1)) (K, R, V')) : gC l E (d + 4) iX1_printSpan [ga B, ga g, gi nx, ga W, gi (5 - ((f + 1 : Nat) : Int))] (K, R, V) Q := by
  refine gC_of kX1_printSpan (ls := [some (ga B), some (ga g), some (gi nx), some (ga W), some (gi (5 - ((f + 1 : Nat) : Int))), none, none, none]) rfl (Nat.le_of_ble_eq_true rfl) ?_
  have hgg := hga
  have hq100 := hg1 q hqm
  have hlq := hls q hqm
  have h20 := hb.2.2.1
  obtain ⟨nn, hrn1, hrn2, hrn3⟩ := rwA_row (h := q.2.1) hB hb
  have hrl := rwL_len hb q.2.1
  have hrw := rwA_in B gs.length q.2.1 h20
  have lp : ∀ (jj : Nat) (k : Int) (nx : Int) (j7 : Option gV) (o1 : pO) (V1 : Int → Int → Int) (bc bs : Nat), (20 : Int) - k < (jj : Int) → 0 ≤ k → k ≤ 20 → bkIs V1 B tx gs → rIs V1 W N o1 → rFr V V1 W → (∀ V', rIs V' W N (ladd N (spT (ladd N) gs (prR (ladd N) tx gs f) q (20 - k).toNat (nx, o1)).2 93) → rFr V V' W → Q (some (gi (spT (ladd N) gs (prR (ladd N) tx gs f) q (20 - k).toNat (nx, o1)).1)) (K, R, V')) → gX l E (gFm E (d + 4) iX1_printSpan Q) 61 [some (ga B), some (ga g), some (gi nx), some (ga W), some (gi (5 - ((f + 1 : Nat) : Int))), some (ga (rwA B gs.length q.2.1)), some (gi k), j7] [] (K, R, V1) bc bs := by
    intro jj
    induction jj with
    | zero =>
      intro k nx j7 o1 V1 bc bs hj q0 q1 hb1 hx1 hf1 hq2
      exfalso; omega
    | succ jj ih =>
      intro k nx j7 o1 V1 bc bs hj q0 q1 hb1 hx1 hf1 hq2
      refine gX_iload dX1_printSpan_61 rfl ?_
      refine gX_bipush dX1_printSpan_63 (by decide) ⟨by decide, by decide⟩ ?_
      refine gX_icmpge (tgt := 137) dX1_printSpan_65 (by decide) (fun w1 => ?_) (fun w1 => ?_)
      · have ei : (20 - k).toNat = 0 := by omega
        rw [ei] at hq2
        refine gX_aloadn dX1_printSpan_137 rfl ?_
        refine gX_bipush dX1_printSpan_138 (by decide) ⟨by decide, by decide⟩ ?_
        refine gX_virt (J := iX6_add) (av := [gi 93]) (a := W) (st := []) dX1_printSpan_140 lkX1_135 kX6_add vX6_add (gFit_m (by decide)) hW.1 rfl rfl (Nat.le_of_ble_eq_true rfl) (Nat.zero_le _) (Nat.zero_le _) rfl ?_
        refine q_Row_add hW hx1 (fun V2 hx2 hf2 => ?_)
        show gX l E _ 143 [some (ga B), some (ga g), some (gi nx), some (ga W), some (gi (5 - ((f + 1 : Nat) : Int))), some (ga (rwA B gs.length q.2.1)), some (gi k), j7] [] (K, R, V2) _ _
        refine gX_iloadn dX1_printSpan_143 rfl ?_
        refine gX_iret dX1_printSpan_144 (Or.inl rfl) ?_
        exact hq2 V2 hx2 (hf1.trans hf2)
      · refine gX_aloadn dX1_printSpan_68 rfl ?_
        refine gX_iloadn dX1_printSpan_69 rfl ?_
        refine gX_virt (J := iX1_glossAt) (av := [gi nx]) (a := B) (st := []) dX1_printSpan_70 lkX1_58 kX1_glossAt vX1_glossAt (gFit_m (by decide)) hB.1 rfl rfl (Nat.le_of_ble_eq_true rfl) (Nat.zero_le _) (Nat.zero_le _) rfl ?_
        refine gAtI hB hb1 ?_
        by_cases n0 : 0 ≤ nx ∧ nx < gs.length
        · rw [if_pos n0]
          show gX l E _ 73 [some (ga B), some (ga g), some (gi nx), some (ga W), some (gi (5 - ((f + 1 : Nat) : Int))), some (ga (rwA B gs.length q.2.1)), some (gi k), j7] [ga (B + 10 + 3 * nx)] (K, R, V1) _ _
          refine gX_astore dX1_printSpan_73 (show (7 : Nat) < 8 from by decide) (ls2 := [some (ga B), some (ga g), some (gi nx), some (ga W), some (gi (5 - ((f + 1 : Nat) : Int))), some (ga (rwA B gs.length q.2.1)), some (gi k), some (ga (B + 10 + 3 * nx))]) rfl ?_
          refine gX_aload dX1_printSpan_75 rfl ?_
          refine gX_ifnull (tgt := 137) dX1_printSpan_77 (by decide) (fun y1 => absurd (kd_pos (hB.2.2.2.2.2.2.2.2.2.2.2 nx n0.1 (by omega)).2.1) (by omega)) (fun y1 => ?_)
          refine gX_aload dX1_printSpan_80 rfl ?_
          refine gX_aloadn dX1_printSpan_82 rfl ?_
          refine gX_virt (J := iX3_sharesSpan) (av := [ga g]) (a := (B + 10 + 3 * nx)) (st := []) dX1_printSpan_83 lkX1_84 kX3_sharesSpan vX3_sharesSpan (gFit_m (by decide)) (hB.2.2.2.2.2.2.2.2.2.2.2 nx n0.1 (by omega)).2.1 rfl rfl (Nat.le_of_ble_eq_true rfl) (Nat.zero_le _) (Nat.zero_le _) rfl ?_
          refine c_sharesSpan (hB.2.2.2.2.2.2.2.2.2.2.2 nx n0.1 (by omega)).2 (hb1.gl n0.1 (by omega)) hg (hv.kept (hf1 _ (by omega) (by omega)) (hf1 _ (by omega) (by omega)) (hf1 _ (by omega) (by omega))) ?_
          show gX l E _ 86 [some (ga B), some (ga g), some (gi nx), some (ga W), some (gi (5 - ((f + 1 : Nat) : Int))), some (ga (rwA B gs.length q.2.1)), some (gi k), some (ga (B + 10 + 3 * nx))] [gi (shr (gq gs nx) q)] (K, R, V1) _ _
          have o1s := shr_01 (gq gs nx) q
          refine gX_ifne (tgt := 92) dX1_printSpan_86 (by decide) (fun y2 => ?_) (fun y2 => ?_)
          · refine gX_aloadn dX1_printSpan_92 rfl ?_
            refine gX_bipush dX1_printSpan_93 (by decide) ⟨by decide, by decide⟩ ?_
            refine gX_virt (J := iX6_add) (av := [gi 124]) (a := W) (st := []) dX1_printSpan_95 lkX1_135 kX6_add vX6_add (gFit_m (by decide)) hW.1 rfl rfl (Nat.le_of_ble_eq_true rfl) (Nat.zero_le _) (Nat.zero_le _) rfl ?_
            refine q_Row_add hW hx1 (fun V3 hx3 hf3 => ?_)
            show gX l E _ 98 [some (ga B), some (ga g), some (gi nx), some (ga W), some (gi (5 - ((f + 1 : Nat) : Int))), some (ga (rwA B gs.length q.2.1)), some (gi k), some (ga (B + 10 + 3 * nx))] [] (K, R, V3) _ _
            refine gX_aloadn dX1_printSpan_98 rfl ?_
            refine gX_aload dX1_printSpan_99 rfl ?_
            refine gX_gI 1 dX1_printSpan_101 fdX1_68 rfl (Or.inl rfl) (hB.2.2.2.2.2.2.2.2.2.2.2 nx n0.1 (by omega)).2.1 ?_
            rw [hf3 _ (by omega) (by omega), (hb1.gl n0.1 (by omega : nx < (gs.length : Int))).1]
            refine gX_ifne (tgt := 112) dX1_printSpan_104 (by decide) (fun y3 => ?_) (fun y3 => ?_)
            · refine gX_bipush dX1_printSpan_112 (by decide) ⟨by decide, by decide⟩ ?_
              have ekd : (if (gq gs nx).1 = 0 then 97 else 98) = (98 : Int) := if_neg (by omega)
              refine gX_virt (J := iX6_add) (av := [gi 98]) (a := W) (st := []) dX1_printSpan_114 lkX1_135 kX6_add vX6_add (gFit_m (by decide)) hW.1 rfl rfl (Nat.le_of_ble_eq_true rfl) (Nat.zero_le _) (Nat.zero_le _) rfl ?_
              refine q_Row_add hW hx3 (fun V4 hx4 hf4 => ?_)
              show gX l E _ 117 [some (ga B), some (ga g), some (gi nx), some (ga W), some (gi (5 - ((f + 1 : Nat) : Int))), some (ga (rwA B gs.length q.2.1)), some (gi k), some (ga (B + 10 + 3 * nx))] [] (K, R, V4) _ _
              refine gX_aloadn dX1_printSpan_117 rfl ?_
              refine gX_iloadn dX1_printSpan_118 rfl ?_
              refine gX_iloadn dX1_printSpan_119 rfl ?_
              refine gX_iconst dX1_printSpan_120 ⟨by decide, by decide⟩ ?_
              refine gX_iadd dX1_printSpan_121 ⟨by omega, by omega⟩ ?_
              refine gX_aloadn dX1_printSpan_122 rfl ?_
              refine gX_iload dX1_printSpan_123 rfl ?_
              refine gX_iconst dX1_printSpan_125 ⟨by decide, by decide⟩ ?_
              refine gX_iadd dX1_printSpan_126 ⟨by omega, by omega⟩ ?_
              rw [show (5 - ((f + 1 : Nat) : Int) + 1) = 5 - (f : Int) by omega]
              refine gX_virt (J := iX1_printRow) (av := [gi nx, gi (nx + 1), ga W, gi (5 - (f : Int))]) (a := B) (st := []) dX1_printSpan_127 lkX1_123 kX1_printRow vX1_printRow (gFit_m (by decide)) hB.1 rfl rfl (Nat.le_of_ble_eq_true rfl) (Nat.zero_le _) (Nat.zero_le _) rfl ?_
              refine hrec V4 _ nx (nx + 1) _ (hb1.fr ((hf3.trans hf4).fr (lo := W) (hi := W + 2) (by omega) (by omega)) (by omega)) hx4 (fun V5 hx5 hf5 => ?_)
              show gX l E _ 130 [some (ga B), some (ga g), some (gi nx), some (ga W), some (gi (5 - ((f + 1 : Nat) : Int))), some (ga (rwA B gs.length q.2.1)), some (gi k), some (ga (B + 10 + 3 * nx))] [gi (((prR (ladd N) tx gs f) nx (nx + 1, ladd N (ladd N o1 124) 98)).1)] (K, R, V5) _ _
              refine gX_istoren dX1_printSpan_130 (show (2 : Nat) < 8 from by decide) (ls2 := [some (ga B), some (ga g), some (gi (((prR (ladd N) tx gs f) nx (nx + 1, ladd N (ladd N o1 124) 98)).1)), some (ga W), some (gi (5 - ((f + 1 : Nat) : Int))), some (ga (rwA B gs.length q.2.1)), some (gi k), some (ga (B + 10 + 3 * nx))]) rfl ?_
              refine gX_iinc dX1_printSpan_131 rfl (show (6 : Nat) < 8 from by decide) ⟨by omega, by omega⟩ (ls2 := [some (ga B), some (ga g), some (gi (((prR (ladd N) tx gs f) nx (nx + 1, ladd N (ladd N o1 124) 98)).1)), some (ga W), some (gi (5 - ((f + 1 : Nat) : Int))), some (ga (rwA B gs.length q.2.1)), some (gi (k + 1)), some (ga (B + 10 + 3 * nx))]) rfl ?_
              refine gX_goto (tgt := 61) dX1_printSpan_134 (by decide) ?_
              have ek : (20 - k).toNat = (20 - (k + 1)).toNat + 1 := by omega
              have e1 : spT (ladd N) gs (prR (ladd N) tx gs f) q (20 - k).toNat (nx, o1) = spT (ladd N) gs (prR (ladd N) tx gs f) q (20 - (k + 1)).toNat ((prR (ladd N) tx gs f) nx (nx + 1, ladd N (ladd N o1 124) (if (gq gs nx).1 = 0 then 97 else 98))) := by
                rw [ek]
                show (if _ then _ else _) = _
                exact if_pos ⟨n0.1, n0.2, (by omega : shr (gq gs nx) q = 1)⟩
              rw [e1] at hq2
              rw [ekd] at hq2
              exact ih (k + 1) _ _ ((prR (ladd N) tx gs f) nx (nx + 1, ladd N (ladd N o1 124) 98)).2 V5 _ _ (by omega) (by omega) (by omega) (hb1.fr (((hf3.trans hf4).trans hf5).fr (lo := W) (hi := W + 2) (by omega) (by omega)) (by omega)) hx5 (hf1.trans ((hf3.trans hf4).trans hf5)) hq2
            · refine gX_bipush dX1_printSpan_107 (by decide) ⟨by decide, by decide⟩ ?_
              refine gX_goto (tgt := 114) dX1_printSpan_109 (by decide) ?_
              have ekd : (if (gq gs nx).1 = 0 then 97 else 98) = (97 : Int) := if_pos (by omega)
              refine gX_virt (J := iX6_add) (av := [gi 97]) (a := W) (st := []) dX1_printSpan_114 lkX1_135 kX6_add vX6_add (gFit_m (by decide)) hW.1 rfl rfl (Nat.le_of_ble_eq_true rfl) (Nat.zero_le _) (Nat.zero_le _) rfl ?_
              refine q_Row_add hW hx3 (fun V4 hx4 hf4 => ?_)
              show gX l E _ 117 [some (ga B), some (ga g), some (gi nx), some (ga W), some (gi (5 - ((f + 1 : Nat) : Int))), some (ga (rwA B gs.length q.2.1)), some (gi k), some (ga (B + 10 + 3 * nx))] [] (K, R, V4) _ _
              refine gX_aloadn dX1_printSpan_117 rfl ?_
              refine gX_iloadn dX1_printSpan_118 rfl ?_
              refine gX_iloadn dX1_printSpan_119 rfl ?_
              refine gX_iconst dX1_printSpan_120 ⟨by decide, by decide⟩ ?_
              refine gX_iadd dX1_printSpan_121 ⟨by omega, by omega⟩ ?_
              refine gX_aloadn dX1_printSpan_122 rfl ?_
              refine gX_iload dX1_printSpan_123 rfl ?_
              refine gX_iconst dX1_printSpan_125 ⟨by decide, by decide⟩ ?_
              refine gX_iadd dX1_printSpan_126 ⟨by omega, by omega⟩ ?_
              rw [show (5 - ((f + 1 : Nat) : Int) + 1) = 5 - (f : Int) by omega]
              refine gX_virt (J := iX1_printRow) (av := [gi nx, gi (nx + 1), ga W, gi (5 - (f : Int))]) (a := B) (st := []) dX1_printSpan_127 lkX1_123 kX1_printRow vX1_printRow (gFit_m (by decide)) hB.1 rfl rfl (Nat.le_of_ble_eq_true rfl) (Nat.zero_le _) (Nat.zero_le _) rfl ?_
              refine hrec V4 _ nx (nx + 1) _ (hb1.fr ((hf3.trans hf4).fr (lo := W) (hi := W + 2) (by omega) (by omega)) (by omega)) hx4 (fun V5 hx5 hf5 => ?_)
              show gX l E _ 130 [some (ga B), some (ga g), some (gi nx), some (ga W), some (gi (5 - ((f + 1 : Nat) : Int))), some (ga (rwA B gs.length q.2.1)), some (gi k), some (ga (B + 10 + 3 * nx))] [gi (((prR (ladd N) tx gs f) nx (nx + 1, ladd N (ladd N o1 124) 97)).1)] (K, R, V5) _ _
              refine gX_istoren dX1_printSpan_130 (show (2 : Nat) < 8 from by decide) (ls2 := [some (ga B), some (ga g), some (gi (((prR (ladd N) tx gs f) nx (nx + 1, ladd N (ladd N o1 124) 97)).1)), some (ga W), some (gi (5 - ((f + 1 : Nat) : Int))), some (ga (rwA B gs.length q.2.1)), some (gi k), some (ga (B + 10 + 3 * nx))]) rfl ?_
              refine gX_iinc dX1_printSpan_131 rfl (show (6 : Nat) < 8 from by decide) ⟨by omega, by omega⟩ (ls2 := [some (ga B), some (ga g), some (gi (((prR (ladd N) tx gs f) nx (nx + 1, ladd N (ladd N o1 124) 97)).1)), some (ga W), some (gi (5 - ((f + 1 : Nat) : Int))), some (ga (rwA B gs.length q.2.1)), some (gi (k + 1)), some (ga (B + 10 + 3 * nx))]) rfl ?_
              refine gX_goto (tgt := 61) dX1_printSpan_134 (by decide) ?_
              have ek : (20 - k).toNat = (20 - (k + 1)).toNat + 1 := by omega
              have e1 : spT (ladd N) gs (prR (ladd N) tx gs f) q (20 - k).toNat (nx, o1) = spT (ladd N) gs (prR (ladd N) tx gs f) q (20 - (k + 1)).toNat ((prR (ladd N) tx gs f) nx (nx + 1, ladd N (ladd N o1 124) (if (gq gs nx).1 = 0 then 97 else 98))) := by
                rw [ek]
                show (if _ then _ else _) = _
                exact if_pos ⟨n0.1, n0.2, (by omega : shr (gq gs nx) q = 1)⟩
              rw [e1] at hq2
              rw [ekd] at hq2
              exact ih (k + 1) _ _ ((prR (ladd N) tx gs f) nx (nx + 1, ladd N (ladd N o1 124) 97)).2 V5 _ _ (by omega) (by omega) (by omega) (hb1.fr (((hf3.trans hf4).trans hf5).fr (lo := W) (hi := W + 2) (by omega) (by omega)) (by omega)) hx5 (hf1.trans ((hf3.trans hf4).trans hf5)) hq2
          · have ek : (20 - k).toNat = (20 - (k + 1)).toNat + 1 := by omega
            have e1 : spT (ladd N) gs (prR (ladd N) tx gs f) q (20 - k).toNat (nx, o1) = (nx, o1) := by
              rw [ek]
              show (if _ then _ else _) = _
              exact if_neg (fun z => by have z2 : shr (gq gs nx) q = 1 := z.2.2; omega)
            rw [e1] at hq2
            refine gX_goto (tgt := 137) dX1_printSpan_89 (by decide) ?_
            refine gX_aloadn dX1_printSpan_137 rfl ?_
            refine gX_bipush dX1_printSpan_138 (by decide) ⟨by decide, by decide⟩ ?_
            refine gX_virt (J := iX6_add) (av := [gi 93]) (a := W) (st := []) dX1_printSpan_140 lkX1_135 kX6_add vX6_add (gFit_m (by decide)) hW.1 rfl rfl (Nat.le_of_ble_eq_true rfl) (Nat.zero_le _) (Nat.zero_le _) rfl ?_
            refine q_Row_add hW hx1 (fun V2 hx2 hf2 => ?_)
            show gX l E _ 143 [some (ga B), some (ga g), some (gi nx), some (ga W), some (gi (5 - ((f + 1 : Nat) : Int))), some (ga (rwA B gs.length q.2.1)), some (gi k), some (ga (B + 10 + 3 * nx))] [] (K, R, V2) _ _
            refine gX_iloadn dX1_printSpan_143 rfl ?_
            refine gX_iret dX1_printSpan_144 (Or.inl rfl) ?_
            exact hq2 V2 hx2 (hf1.trans hf2)
        · rw [if_neg n0]
          show gX l E _ 73 [some (ga B), some (ga g), some (gi nx), some (ga W), some (gi (5 - ((f + 1 : Nat) : Int))), some (ga (rwA B gs.length q.2.1)), some (gi k), j7] [ga (-1)] (K, R, V1) _ _
          have ek : (20 - k).toNat = (20 - (k + 1)).toNat + 1 := by omega
          have e1 : spT (ladd N) gs (prR (ladd N) tx gs f) q (20 - k).toNat (nx, o1) = (nx, o1) := by
            rw [ek]
            show (if _ then _ else _) = _
            exact if_neg (fun z => n0 ⟨z.1, z.2.1⟩)
          rw [e1] at hq2
          refine gX_astore dX1_printSpan_73 (show (7 : Nat) < 8 from by decide) (ls2 := [some (ga B), some (ga g), some (gi nx), some (ga W), some (gi (5 - ((f + 1 : Nat) : Int))), some (ga (rwA B gs.length q.2.1)), some (gi k), some (ga (-1))]) rfl ?_
          refine gX_aload dX1_printSpan_75 rfl ?_
          refine gX_ifnull (tgt := 137) dX1_printSpan_77 (by decide) (fun n1 => ?_) (fun n1 => absurd n1 (by omega))
          refine gX_aloadn dX1_printSpan_137 rfl ?_
          refine gX_bipush dX1_printSpan_138 (by decide) ⟨by decide, by decide⟩ ?_
          refine gX_virt (J := iX6_add) (av := [gi 93]) (a := W) (st := []) dX1_printSpan_140 lkX1_135 kX6_add vX6_add (gFit_m (by decide)) hW.1 rfl rfl (Nat.le_of_ble_eq_true rfl) (Nat.zero_le _) (Nat.zero_le _) rfl ?_
          refine q_Row_add hW hx1 (fun V2 hx2 hf2 => ?_)
          show gX l E _ 143 [some (ga B), some (ga g), some (gi nx), some (ga W), some (gi (5 - ((f + 1 : Nat) : Int))), some (ga (rwA B gs.length q.2.1)), some (gi k), some (ga (-1))] [] (K, R, V2) _ _
          refine gX_iloadn dX1_printSpan_143 rfl ?_
          refine gX_iret dX1_printSpan_144 (Or.inl rfl) ?_
          exact hq2 V2 hx2 (hf1.trans hf2)
  have lw : ∀ (jj : Nat) (k : Int) (o1 : pO) (V1 : Int → Int → Int) (bc bs : Nat), q.2.2.2.1 + 1 - k < (jj : Int) → q.2.2.1 ≤ k → k ≤ q.2.2.2.1 + 1 → bkIs V1 B tx gs → rIs V1 W N o1 → rFr V V1 W → (∀ V', rIs V' W N (ladd N (spT (ladd N) gs (prR (ladd N) tx gs f) q 20 (nx, prW (ladd N) (rwL tx gs q.2.1) q.2.2.2.1 jj k o1)).2 93) → rFr V V' W → Q (some (gi (spT (ladd N) gs (prR (ladd N) tx gs f) q 20 (nx, prW (ladd N) (rwL tx gs q.2.1) q.2.2.2.1 jj k o1)).1)) (K, R, V')) → gX l E (gFm E (d + 4) iX1_printSpan Q) 22 [some (ga B), some (ga g), some (gi nx), some (ga W), some (gi (5 - ((f + 1 : Nat) : Int))), some (ga (rwA B gs.length q.2.1)), some (gi k), none] [] (K, R, V1) bc bs := by
    intro jj
    induction jj with
    | zero =>
      intro k o1 V1 bc bs hj q0 q1 hb1 hx1 hf1 hq2
      exfalso; omega
    | succ jj ih =>
      intro k o1 V1 bc bs hj q0 q1 hb1 hx1 hf1 hq2
      refine gX_iload dX1_printSpan_22 rfl ?_
      refine gX_aloadn dX1_printSpan_24 rfl ?_
      refine gX_gI 4 dX1_printSpan_25 fdX1_77 rfl (Or.inl rfl) hg.1 ?_
      rw [(hv.kept (hf1 _ (by omega) (by omega)) (hf1 _ (by omega) (by omega)) (hf1 _ (by omega) (by omega))).2.2.2.1]
      refine gX_icmpgt (tgt := 58) dX1_printSpan_28 (by decide) (fun r1 => ?_) (fun r1 => ?_)
      · refine gX_iconst dX1_printSpan_58 ⟨by decide, by decide⟩ ?_
        refine gX_istore dX1_printSpan_59 (show (6 : Nat) < 8 from by decide) (ls2 := [some (ga B), some (ga g), some (gi nx), some (ga W), some (gi (5 - ((f + 1 : Nat) : Int))), some (ga (rwA B gs.length q.2.1)), some (gi 0), none]) rfl ?_
        have e1 : prW (ladd N) (rwL tx gs q.2.1) q.2.2.2.1 (jj + 1) k o1 = o1 := by
          show (if _ then _ else _) = _
          exact if_neg (by omega)
        rw [e1] at hq2
        exact lp 21 0 nx none o1 V1 _ _ (by omega) (by omega) (by omega) hb1 hx1 hf1 hq2
      · refine gX_iload dX1_printSpan_31 rfl ?_
        refine gX_aload dX1_printSpan_33 rfl ?_
        refine gX_virt (J := iX6_length) (av := []) (a := (rwA B gs.length q.2.1)) (st := [gi k]) dX1_printSpan_35 lkX1_105 kX6_length vX6_length (gFit_m (by decide)) hrn1.1 rfl rfl (Nat.le_of_ble_eq_true rfl) (Nat.zero_le _) (Nat.zero_le _) rfl ?_
        refine q_Row_length hrn1 (hrn2.kept (hf1 _ (by omega) (by omega)) (hf1 _ (by omega) (by omega))) ?_
        show gX l E _ 38 [some (ga B), some (ga g), some (gi nx), some (ga W), some (gi (5 - ((f + 1 : Nat) : Int))), some (ga (rwA B gs.length q.2.1)), some (gi k), none] [gi ((rwL tx gs q.2.1).length), gi k] (K, R, V1) _ _
        refine gX_icmpge (tgt := 58) dX1_printSpan_38 (by decide) (fun r2 => ?_) (fun r2 => ?_)
        · refine gX_iconst dX1_printSpan_58 ⟨by decide, by decide⟩ ?_
          refine gX_istore dX1_printSpan_59 (show (6 : Nat) < 8 from by decide) (ls2 := [some (ga B), some (ga g), some (gi nx), some (ga W), some (gi (5 - ((f + 1 : Nat) : Int))), some (ga (rwA B gs.length q.2.1)), some (gi 0), none]) rfl ?_
          have e1 : prW (ladd N) (rwL tx gs q.2.1) q.2.2.2.1 (jj + 1) k o1 = o1 := by
            show (if _ then _ else _) = _
            exact if_neg (by omega)
          rw [e1] at hq2
          exact lp 21 0 nx none o1 V1 _ _ (by omega) (by omega) (by omega) hb1 hx1 hf1 hq2
        · refine gX_aload dX1_printSpan_41 rfl ?_
          refine gX_iload dX1_printSpan_43 rfl ?_
          refine gX_virt (J := iX6_at) (av := [gi k]) (a := (rwA B gs.length q.2.1)) (st := []) dX1_printSpan_45 lkX1_120 kX6_at vX6_at (gFit_m (by decide)) hrn1.1 rfl rfl (Nat.le_of_ble_eq_true rfl) (Nat.zero_le _) (Nat.zero_le _) rfl ?_
          refine q_Row_at hrn1 (hrn2.kept (hf1 _ (by omega) (by omega)) (hf1 _ (by omega) (by omega))) ?_
          show gX l E _ 48 [some (ga B), some (ga g), some (gi nx), some (ga W), some (gi (5 - ((f + 1 : Nat) : Int))), some (ga (rwA B gs.length q.2.1)), some (gi k), none] [gi (lat (rwL tx gs q.2.1) k)] (K, R, V1) _ _
          refine gX_aloadn dX1_printSpan_48 rfl ?_
          refine gX_stat (J := iX1_printNumber) (av := [gi (lat (rwL tx gs q.2.1) k), ga W]) (st := []) dX1_printSpan_49 lkX1_131 kX1_printNumber sX1_printNumber (gFit_m (by decide)) rfl (Nat.le_of_ble_eq_true rfl) (Nat.zero_le _) (Nat.zero_le _) rfl ?_
          refine c_printNumber hW hN (hwd q.2.1 k (by omega) (by omega)) hx1 (fun V2 hx2 hf2 => ?_)
          show gX l E _ 52 [some (ga B), some (ga g), some (gi nx), some (ga W), some (gi (5 - ((f + 1 : Nat) : Int))), some (ga (rwA B gs.length q.2.1)), some (gi k), none] [] (K, R, V2) _ _
          refine gX_iinc dX1_printSpan_52 rfl (show (6 : Nat) < 8 from by decide) ⟨by omega, by omega⟩ (ls2 := [some (ga B), some (ga g), some (gi nx), some (ga W), some (gi (5 - ((f + 1 : Nat) : Int))), some (ga (rwA B gs.length q.2.1)), some (gi (k + 1)), none]) rfl ?_
          refine gX_goto (tgt := 22) dX1_printSpan_55 (by decide) ?_
          have e1 : prW (ladd N) (rwL tx gs q.2.1) q.2.2.2.1 (jj + 1) k o1 = prW (ladd N) (rwL tx gs q.2.1) q.2.2.2.1 jj (k + 1) (prNum (ladd N) (lat (rwL tx gs q.2.1) k) o1) := by
            show (if _ then _ else _) = _
            exact if_pos ⟨by omega, by omega⟩
          rw [e1] at hq2
          exact ih (k + 1) _ V2 _ _ (by omega) (by omega) (by omega) (hb1.fr (hf2.fr (lo := W) (hi := W + 2) (by omega) (by omega)) (by omega)) hx2 (hf1.trans hf2) hq2
  refine gX_aloadn dX1_printSpan_0 rfl ?_
  refine gX_aloadn dX1_printSpan_1 rfl ?_
  refine gX_gI 2 dX1_printSpan_2 fdX1_71 rfl (Or.inl rfl) hg.1 ?_
  rw [hv.2.1]
  refine gX_virt (J := iX1_rowOf) (av := [gi q.2.1]) (a := B) (st := []) dX1_printSpan_5 lkX1_101 kX1_rowOf vX1_rowOf (gFit_m (by decide)) hB.1 rfl rfl (Nat.le_of_ble_eq_true rfl) (Nat.zero_le _) (Nat.zero_le _) rfl ?_
  refine c_rowOf hB hb ?_
  show gX l E _ 8 [some (ga B), some (ga g), some (gi nx), some (ga W), some (gi (5 - ((f + 1 : Nat) : Int))), none, none, none] [ga (rwA B gs.length q.2.1)] (K, R, V) _ _
  refine gX_astore dX1_printSpan_8 (show (5 : Nat) < 8 from by decide) (ls2 := [some (ga B), some (ga g), some (gi nx), some (ga W), some (gi (5 - ((f + 1 : Nat) : Int))), some (ga (rwA B gs.length q.2.1)), none, none]) rfl ?_
  refine gX_aloadn dX1_printSpan_10 rfl ?_
  refine gX_bipush dX1_printSpan_11 (by decide) ⟨by decide, by decide⟩ ?_
  refine gX_virt (J := iX6_add) (av := [gi 91]) (a := W) (st := []) dX1_printSpan_13 lkX1_135 kX6_add vX6_add (gFit_m (by decide)) hW.1 rfl rfl (Nat.le_of_ble_eq_true rfl) (Nat.zero_le _) (Nat.zero_le _) rfl ?_
  refine q_Row_add hW hx (fun V1 hx1 hf1 => ?_)
  show gX l E _ 16 [some (ga B), some (ga g), some (gi nx), some (ga W), some (gi (5 - ((f + 1 : Nat) : Int))), some (ga (rwA B gs.length q.2.1)), none, none] [] (K, R, V1) _ _
  refine gX_aloadn dX1_printSpan_16 rfl ?_
  refine gX_gI 3 dX1_printSpan_17 fdX1_74 rfl (Or.inl rfl) hg.1 ?_
  rw [(hv.kept (hf1 _ (by omega) (by omega)) (hf1 _ (by omega) (by omega)) (hf1 _ (by omega) (by omega))).2.2.1]
  refine gX_istore dX1_printSpan_20 (show (6 : Nat) < 8 from by decide) (ls2 := [some (ga B), some (ga g), some (gi nx), some (ga W), some (gi (5 - ((f + 1 : Nat) : Int))), some (ga (rwA B gs.length q.2.1)), some (gi q.2.2.1), none]) rfl ?_
  exact lw 41 q.2.2.1 _ V1 _ _ (by omega) (by omega) (by omega) (hb.fr (hf1.fr (lo := W) (hi := W + 2) (by omega) (by omega)) (by omega)) hx1 hf1 hQ
set_option maxRecDepth 4000 in
theorem c_printRowS {f : Nat} {host nx : Int} (hf4 : f ≤ 4) (hrec : prC l E K R B W N tx gs (d + 3) f) (hB : bkK K R B) (hW : gRow K R W N) (hN : N ≤ 1000) (hd1 : W + 2 ≤ B ∨ B + 70 ≤ W) (hg1 : gBd gs 100) (hls : lsW tx gs) (hwd : wdW tx gs) (hb : bkIs V B tx gs) (hx : rIs V W N out) (hQ : ∀ V', rIs V' W N (prR (ladd N) tx gs (f + 1) host (nx, out)).2 → rFr V V' W → Q (some (gi (prR (ladd N) tx gs (f + 1) host (nx, out)).1)) (K, R, V')) : gC l E (d + 5) iX1_printRow [ga B, gi host, gi nx, ga W, gi (5 - ((f + 1 : Nat) : Int))] (K, R, V) Q := by
  refine gC_of kX1_printRow (ls := [some (ga B), some (gi host), some (gi nx), some (ga W), some (gi (5 - ((f + 1 : Nat) : Int))), none, none, none]) rfl (Nat.le_of_ble_eq_true rfl) ?_
  have h20 := hb.2.2.1
  obtain ⟨nn, hrn1, hrn2, hrn3⟩ := rwA_row (h := host) hB hb
  have hrl := rwL_len hb host
  have hrw := rwA_in B gs.length host h20
  have lp : ∀ (jj : Nat) (i : Int) (nx : Int) (j7 : Option gV) (o1 : pO) (V1 : Int → Int → Int) (bc bs : Nat), ((rwL tx gs host).length : Int) - i < (jj : Int) → 0 ≤ i → i ≤ (rwL tx gs host).length → bkIs V1 B tx gs → rIs V1 W N o1 → rFr V V1 W → (∀ V', rIs V' W N (roL (ladd N) tx gs (prR (ladd N) tx gs f) host jj i (nx, o1)).2 → rFr V V' W → Q (some (gi (roL (ladd N) tx gs (prR (ladd N) tx gs f) host jj i (nx, o1)).1)) (K, R, V')) → gX l E (gFm E (d + 5) iX1_printRow Q) 18 [some (ga B), some (gi host), some (gi nx), some (ga W), some (gi (5 - ((f + 1 : Nat) : Int))), some (ga (rwA B gs.length host)), some (gi i), j7] [] (K, R, V1) bc bs := by
    intro jj
    induction jj with
    | zero =>
      intro i nx j7 o1 V1 bc bs hj q0 q1 hb1 hx1 hf1 hq2
      exfalso; omega
    | succ jj ih =>
      intro i nx j7 o1 V1 bc bs hj q0 q1 hb1 hx1 hf1 hq2
      refine gX_iload dX1_printRow_18 rfl ?_
      refine gX_aload dX1_printRow_20 rfl ?_
      refine gX_virt (J := iX6_length) (av := []) (a := (rwA B gs.length host)) (st := [gi i]) dX1_printRow_22 lkX1_105 kX6_length vX6_length (gFit_m (by decide)) hrn1.1 rfl rfl (Nat.le_of_ble_eq_true rfl) (Nat.zero_le _) (Nat.zero_le _) rfl ?_
      refine q_Row_length hrn1 (hrn2.kept (hf1 _ (by omega) (by omega)) (hf1 _ (by omega) (by omega))) ?_
      show gX l E _ 25 [some (ga B), some (gi host), some (gi nx), some (ga W), some (gi (5 - ((f + 1 : Nat) : Int))), some (ga (rwA B gs.length host)), some (gi i), j7] [gi ((rwL tx gs host).length), gi i] (K, R, V1) _ _
      refine gX_icmpge (tgt := 107) dX1_printRow_25 (by decide) (fun w1 => ?_) (fun w1 => ?_)
      · refine gX_iloadn dX1_printRow_107 rfl ?_
        refine gX_iret dX1_printRow_108 (Or.inl rfl) ?_
        have e1 : roL (ladd N) tx gs (prR (ladd N) tx gs f) host (jj + 1) i (nx, o1) = (nx, o1) := by
          show (if _ then (if _ then _ else _) else _) = _
          rw [if_neg (by omega)]
        rw [e1] at hq2
        exact hq2 V1 hx1 hf1
      · refine gX_aloadn dX1_printRow_28 rfl ?_
        refine gX_iloadn dX1_printRow_29 rfl ?_
        refine gX_virt (J := iX1_glossAt) (av := [gi nx]) (a := B) (st := []) dX1_printRow_30 lkX1_58 kX1_glossAt vX1_glossAt (gFit_m (by decide)) hB.1 rfl rfl (Nat.le_of_ble_eq_true rfl) (Nat.zero_le _) (Nat.zero_le _) rfl ?_
        refine gAtI hB hb1 ?_
        by_cases n0 : 0 ≤ nx ∧ nx < gs.length
        · rw [if_pos n0]
          show gX l E _ 33 [some (ga B), some (gi host), some (gi nx), some (ga W), some (gi (5 - ((f + 1 : Nat) : Int))), some (ga (rwA B gs.length host)), some (gi i), j7] [ga (B + 10 + 3 * nx)] (K, R, V1) _ _
          refine gX_astore dX1_printRow_33 (show (7 : Nat) < 8 from by decide) (ls2 := [some (ga B), some (gi host), some (gi nx), some (ga W), some (gi (5 - ((f + 1 : Nat) : Int))), some (ga (rwA B gs.length host)), some (gi i), some (ga (B + 10 + 3 * nx))]) rfl ?_
          refine gX_aload dX1_printRow_35 rfl ?_
          refine gX_ifnull (tgt := 90) dX1_printRow_37 (by decide) (fun y1 => absurd (kd_pos (hB.2.2.2.2.2.2.2.2.2.2.2 nx n0.1 (by omega)).2.1) (by omega)) (fun y1 => ?_)
          refine gX_aload dX1_printRow_40 rfl ?_
          refine gX_gI 2 dX1_printRow_42 fdX1_71 rfl (Or.inl rfl) (hB.2.2.2.2.2.2.2.2.2.2.2 nx n0.1 (by omega)).2.1 ?_
          rw [(hb1.gl n0.1 n0.2).2.1]
          refine gX_iloadn dX1_printRow_45 rfl ?_
          refine gX_icmpne (tgt := 90) dX1_printRow_46 (by decide) (fun y2 => ?_) (fun y2 => ?_)
          · refine gX_aload dX1_printRow_90 rfl ?_
            refine gX_iload dX1_printRow_92 rfl ?_
            refine gX_virt (J := iX6_at) (av := [gi i]) (a := (rwA B gs.length host)) (st := []) dX1_printRow_94 lkX1_120 kX6_at vX6_at (gFit_m (by decide)) hrn1.1 rfl rfl (Nat.le_of_ble_eq_true rfl) (Nat.zero_le _) (Nat.zero_le _) rfl ?_
            refine q_Row_at hrn1 (hrn2.kept (hf1 _ (by omega) (by omega)) (hf1 _ (by omega) (by omega))) ?_
            show gX l E _ 97 [some (ga B), some (gi host), some (gi nx), some (ga W), some (gi (5 - ((f + 1 : Nat) : Int))), some (ga (rwA B gs.length host)), some (gi i), some (ga (B + 10 + 3 * nx))] [gi (lat (rwL tx gs host) i)] (K, R, V1) _ _
            refine gX_aloadn dX1_printRow_97 rfl ?_
            refine gX_stat (J := iX1_printNumber) (av := [gi (lat (rwL tx gs host) i), ga W]) (st := []) dX1_printRow_98 lkX1_131 kX1_printNumber sX1_printNumber (gFit_m (by decide)) rfl (Nat.le_of_ble_eq_true rfl) (Nat.zero_le _) (Nat.zero_le _) rfl ?_
            refine c_printNumber hW hN (hwd host i (by omega) (by omega)) hx1 (fun V2 hx2 hf2 => ?_)
            show gX l E _ 101 [some (ga B), some (gi host), some (gi nx), some (ga W), some (gi (5 - ((f + 1 : Nat) : Int))), some (ga (rwA B gs.length host)), some (gi i), some (ga (B + 10 + 3 * nx))] [] (K, R, V2) _ _
            refine gX_iinc dX1_printRow_101 rfl (show (6 : Nat) < 8 from by decide) ⟨by omega, by omega⟩ (ls2 := [some (ga B), some (gi host), some (gi nx), some (ga W), some (gi (5 - ((f + 1 : Nat) : Int))), some (ga (rwA B gs.length host)), some (gi (i + 1)), some (ga (B + 10 + 3 * nx))]) rfl ?_
            refine gX_goto (tgt := 18) dX1_printRow_104 (by decide) ?_
            have e1 : roL (ladd N) tx gs (prR (ladd N) tx gs f) host (jj + 1) i (nx, o1) = roL (ladd N) tx gs (prR (ladd N) tx gs f) host jj (i + 1) (nx, prNum (ladd N) (lat (rwL tx gs host) i) o1) := by
              show (if _ then (if _ then _ else _) else _) = _
              rw [if_pos (by omega), if_neg (by unfold opn; simp only [decide_eq_true_eq]; rintro ⟨z1, z2, z3, z4, z5⟩; omega)]
            rw [e1] at hq2
            exact ih (i + 1) nx _ _ V2 _ _ (by omega) (by omega) (by omega) (hb1.fr (hf2.fr (lo := W) (hi := W + 2) (by omega) (by omega)) (by omega)) hx2 (hf1.trans hf2) hq2
          · refine gX_aload dX1_printRow_49 rfl ?_
            refine gX_gI 3 dX1_printRow_51 fdX1_74 rfl (Or.inl rfl) (hB.2.2.2.2.2.2.2.2.2.2.2 nx n0.1 (by omega)).2.1 ?_
            rw [(hb1.gl n0.1 n0.2).2.2.1]
            refine gX_iload dX1_printRow_54 rfl ?_
            refine gX_icmpne (tgt := 90) dX1_printRow_56 (by decide) (fun y3 => ?_) (fun y3 => ?_)
            · refine gX_aload dX1_printRow_90 rfl ?_
              refine gX_iload dX1_printRow_92 rfl ?_
              refine gX_virt (J := iX6_at) (av := [gi i]) (a := (rwA B gs.length host)) (st := []) dX1_printRow_94 lkX1_120 kX6_at vX6_at (gFit_m (by decide)) hrn1.1 rfl rfl (Nat.le_of_ble_eq_true rfl) (Nat.zero_le _) (Nat.zero_le _) rfl ?_
              refine q_Row_at hrn1 (hrn2.kept (hf1 _ (by omega) (by omega)) (hf1 _ (by omega) (by omega))) ?_
              show gX l E _ 97 [some (ga B), some (gi host), some (gi nx), some (ga W), some (gi (5 - ((f + 1 : Nat) : Int))), some (ga (rwA B gs.length host)), some (gi i), some (ga (B + 10 + 3 * nx))] [gi (lat (rwL tx gs host) i)] (K, R, V1) _ _
              refine gX_aloadn dX1_printRow_97 rfl ?_
              refine gX_stat (J := iX1_printNumber) (av := [gi (lat (rwL tx gs host) i), ga W]) (st := []) dX1_printRow_98 lkX1_131 kX1_printNumber sX1_printNumber (gFit_m (by decide)) rfl (Nat.le_of_ble_eq_true rfl) (Nat.zero_le _) (Nat.zero_le _) rfl ?_
              refine c_printNumber hW hN (hwd host i (by omega) (by omega)) hx1 (fun V2 hx2 hf2 => ?_)
              show gX l E _ 101 [some (ga B), some (gi host), some (gi nx), some (ga W), some (gi (5 - ((f + 1 : Nat) : Int))), some (ga (rwA B gs.length host)), some (gi i), some (ga (B + 10 + 3 * nx))] [] (K, R, V2) _ _
              refine gX_iinc dX1_printRow_101 rfl (show (6 : Nat) < 8 from by decide) ⟨by omega, by omega⟩ (ls2 := [some (ga B), some (gi host), some (gi nx), some (ga W), some (gi (5 - ((f + 1 : Nat) : Int))), some (ga (rwA B gs.length host)), some (gi (i + 1)), some (ga (B + 10 + 3 * nx))]) rfl ?_
              refine gX_goto (tgt := 18) dX1_printRow_104 (by decide) ?_
              have e1 : roL (ladd N) tx gs (prR (ladd N) tx gs f) host (jj + 1) i (nx, o1) = roL (ladd N) tx gs (prR (ladd N) tx gs f) host jj (i + 1) (nx, prNum (ladd N) (lat (rwL tx gs host) i) o1) := by
                show (if _ then (if _ then _ else _) else _) = _
                rw [if_pos (by omega), if_neg (by unfold opn; simp only [decide_eq_true_eq]; rintro ⟨z1, z2, z3, z4, z5⟩; omega)]
              rw [e1] at hq2
              exact ih (i + 1) nx _ _ V2 _ _ (by omega) (by omega) (by omega) (hb1.fr (hf2.fr (lo := W) (hi := W + 2) (by omega) (by omega)) (by omega)) hx2 (hf1.trans hf2) hq2
            · refine gX_aload dX1_printRow_59 rfl ?_
              refine gX_gI 4 dX1_printRow_61 fdX1_77 rfl (Or.inl rfl) (hB.2.2.2.2.2.2.2.2.2.2.2 nx n0.1 (by omega)).2.1 ?_
              rw [(hb1.gl n0.1 n0.2).2.2.2.1]
              refine gX_iload dX1_printRow_64 rfl ?_
              refine gX_icmplt (tgt := 90) dX1_printRow_66 (by decide) (fun y4 => ?_) (fun y4 => ?_)
              · refine gX_aload dX1_printRow_90 rfl ?_
                refine gX_iload dX1_printRow_92 rfl ?_
                refine gX_virt (J := iX6_at) (av := [gi i]) (a := (rwA B gs.length host)) (st := []) dX1_printRow_94 lkX1_120 kX6_at vX6_at (gFit_m (by decide)) hrn1.1 rfl rfl (Nat.le_of_ble_eq_true rfl) (Nat.zero_le _) (Nat.zero_le _) rfl ?_
                refine q_Row_at hrn1 (hrn2.kept (hf1 _ (by omega) (by omega)) (hf1 _ (by omega) (by omega))) ?_
                show gX l E _ 97 [some (ga B), some (gi host), some (gi nx), some (ga W), some (gi (5 - ((f + 1 : Nat) : Int))), some (ga (rwA B gs.length host)), some (gi i), some (ga (B + 10 + 3 * nx))] [gi (lat (rwL tx gs host) i)] (K, R, V1) _ _
                refine gX_aloadn dX1_printRow_97 rfl ?_
                refine gX_stat (J := iX1_printNumber) (av := [gi (lat (rwL tx gs host) i), ga W]) (st := []) dX1_printRow_98 lkX1_131 kX1_printNumber sX1_printNumber (gFit_m (by decide)) rfl (Nat.le_of_ble_eq_true rfl) (Nat.zero_le _) (Nat.zero_le _) rfl ?_
                refine c_printNumber hW hN (hwd host i (by omega) (by omega)) hx1 (fun V2 hx2 hf2 => ?_)
                show gX l E _ 101 [some (ga B), some (gi host), some (gi nx), some (ga W), some (gi (5 - ((f + 1 : Nat) : Int))), some (ga (rwA B gs.length host)), some (gi i), some (ga (B + 10 + 3 * nx))] [] (K, R, V2) _ _
                refine gX_iinc dX1_printRow_101 rfl (show (6 : Nat) < 8 from by decide) ⟨by omega, by omega⟩ (ls2 := [some (ga B), some (gi host), some (gi nx), some (ga W), some (gi (5 - ((f + 1 : Nat) : Int))), some (ga (rwA B gs.length host)), some (gi (i + 1)), some (ga (B + 10 + 3 * nx))]) rfl ?_
                refine gX_goto (tgt := 18) dX1_printRow_104 (by decide) ?_
                have e1 : roL (ladd N) tx gs (prR (ladd N) tx gs f) host (jj + 1) i (nx, o1) = roL (ladd N) tx gs (prR (ladd N) tx gs f) host jj (i + 1) (nx, prNum (ladd N) (lat (rwL tx gs host) i) o1) := by
                  show (if _ then (if _ then _ else _) else _) = _
                  rw [if_pos (by omega), if_neg (by unfold opn; simp only [decide_eq_true_eq]; rintro ⟨z1, z2, z3, z4, z5⟩; omega)]
                rw [e1] at hq2
                exact ih (i + 1) nx _ _ V2 _ _ (by omega) (by omega) (by omega) (hb1.fr (hf2.fr (lo := W) (hi := W + 2) (by omega) (by omega)) (by omega)) hx2 (hf1.trans hf2) hq2
              · have hho : (gq gs nx).2.1 = host := by omega
                have hlq := hls _ (gq_mem n0.1 n0.2)
                rw [hho] at hlq
                refine gX_aloadn dX1_printRow_69 rfl ?_
                refine gX_aload dX1_printRow_70 rfl ?_
                refine gX_iloadn dX1_printRow_72 rfl ?_
                refine gX_aloadn dX1_printRow_73 rfl ?_
                refine gX_iload dX1_printRow_74 rfl ?_
                refine gX_virt (J := iX1_printSpan) (av := [ga (B + 10 + 3 * nx), gi nx, ga W, gi (5 - ((f + 1 : Nat) : Int))]) (a := B) (st := []) dX1_printRow_76 lkX1_127 kX1_printSpan vX1_printSpan (gFit_m (by decide)) hB.1 rfl rfl (Nat.le_of_ble_eq_true rfl) (Nat.zero_le _) (Nat.zero_le _) rfl ?_
                refine c_printSpan hf4 hrec hB hW hN hd1 hg1 hls hwd hb1 (hB.2.2.2.2.2.2.2.2.2.2.2 nx n0.1 (by omega)).2 (by omega) (hb1.gl n0.1 n0.2) (gq_mem n0.1 n0.2) hx1 (fun V3 hx3 hf3 => ?_)
                show gX l E _ 79 [some (ga B), some (gi host), some (gi nx), some (ga W), some (gi (5 - ((f + 1 : Nat) : Int))), some (ga (rwA B gs.length host)), some (gi i), some (ga (B + 10 + 3 * nx))] [gi ((prSp (ladd N) tx gs (prR (ladd N) tx gs f) (gq gs nx) (nx, o1)).1)] (K, R, V3) _ _
                refine gX_istoren dX1_printRow_79 (show (2 : Nat) < 8 from by decide) (ls2 := [some (ga B), some (gi host), some (gi ((prSp (ladd N) tx gs (prR (ladd N) tx gs f) (gq gs nx) (nx, o1)).1)), some (ga W), some (gi (5 - ((f + 1 : Nat) : Int))), some (ga (rwA B gs.length host)), some (gi i), some (ga (B + 10 + 3 * nx))]) rfl ?_
                refine gX_aload dX1_printRow_80 rfl ?_
                refine gX_gI 4 dX1_printRow_82 fdX1_77 rfl (Or.inl rfl) (hB.2.2.2.2.2.2.2.2.2.2.2 nx n0.1 (by omega)).2.1 ?_
                rw [hf3 _ (by omega) (by omega), (hb1.gl n0.1 n0.2).2.2.2.1]
                refine gX_istore dX1_printRow_85 (show (6 : Nat) < 8 from by decide) (ls2 := [some (ga B), some (gi host), some (gi ((prSp (ladd N) tx gs (prR (ladd N) tx gs f) (gq gs nx) (nx, o1)).1)), some (ga W), some (gi (5 - ((f + 1 : Nat) : Int))), some (ga (rwA B gs.length host)), some (gi ((gq gs nx).2.2.2.1)), some (ga (B + 10 + 3 * nx))]) rfl ?_
                refine gX_goto (tgt := 101) dX1_printRow_87 (by decide) ?_
                refine gX_iinc dX1_printRow_101 rfl (show (6 : Nat) < 8 from by decide) ⟨by omega, by omega⟩ (ls2 := [some (ga B), some (gi host), some (gi ((prSp (ladd N) tx gs (prR (ladd N) tx gs f) (gq gs nx) (nx, o1)).1)), some (ga W), some (gi (5 - ((f + 1 : Nat) : Int))), some (ga (rwA B gs.length host)), some (gi (((gq gs nx).2.2.2.1) + 1)), some (ga (B + 10 + 3 * nx))]) rfl ?_
                refine gX_goto (tgt := 18) dX1_printRow_104 (by decide) ?_
                have e1 : roL (ladd N) tx gs (prR (ladd N) tx gs f) host (jj + 1) i (nx, o1) = roL (ladd N) tx gs (prR (ladd N) tx gs f) host jj ((gq gs nx).2.2.2.1 + 1) (prSp (ladd N) tx gs (prR (ladd N) tx gs f) (gq gs nx) (nx, o1)) := by
                  show (if _ then (if _ then _ else _) else _) = _
                  rw [if_pos (by omega), if_pos (by unfold opn; simp only [decide_eq_true_eq]; exact ⟨n0.1, n0.2, by omega, by omega, by omega⟩)]
                rw [e1] at hq2
                exact ih ((gq gs nx).2.2.2.1 + 1) (prSp (ladd N) tx gs (prR (ladd N) tx gs f) (gq gs nx) (nx, o1)).1 _ (prSp (ladd N) tx gs (prR (ladd N) tx gs f) (gq gs nx) (nx, o1)).2 V3 _ _ (by omega) (by omega) (by omega) (hb1.fr (hf3.fr (lo := W) (hi := W + 2) (by omega) (by omega)) (by omega)) hx3 (hf1.trans hf3) hq2
        · rw [if_neg n0]
          show gX l E _ 33 [some (ga B), some (gi host), some (gi nx), some (ga W), some (gi (5 - ((f + 1 : Nat) : Int))), some (ga (rwA B gs.length host)), some (gi i), j7] [ga (-1)] (K, R, V1) _ _
          refine gX_astore dX1_printRow_33 (show (7 : Nat) < 8 from by decide) (ls2 := [some (ga B), some (gi host), some (gi nx), some (ga W), some (gi (5 - ((f + 1 : Nat) : Int))), some (ga (rwA B gs.length host)), some (gi i), some (ga (-1))]) rfl ?_
          refine gX_aload dX1_printRow_35 rfl ?_
          refine gX_ifnull (tgt := 90) dX1_printRow_37 (by decide) (fun n1 => ?_) (fun n1 => absurd n1 (by omega))
          refine gX_aload dX1_printRow_90 rfl ?_
          refine gX_iload dX1_printRow_92 rfl ?_
          refine gX_virt (J := iX6_at) (av := [gi i]) (a := (rwA B gs.length host)) (st := []) dX1_printRow_94 lkX1_120 kX6_at vX6_at (gFit_m (by decide)) hrn1.1 rfl rfl (Nat.le_of_ble_eq_true rfl) (Nat.zero_le _) (Nat.zero_le _) rfl ?_
          refine q_Row_at hrn1 (hrn2.kept (hf1 _ (by omega) (by omega)) (hf1 _ (by omega) (by omega))) ?_
          show gX l E _ 97 [some (ga B), some (gi host), some (gi nx), some (ga W), some (gi (5 - ((f + 1 : Nat) : Int))), some (ga (rwA B gs.length host)), some (gi i), some (ga (-1))] [gi (lat (rwL tx gs host) i)] (K, R, V1) _ _
          refine gX_aloadn dX1_printRow_97 rfl ?_
          refine gX_stat (J := iX1_printNumber) (av := [gi (lat (rwL tx gs host) i), ga W]) (st := []) dX1_printRow_98 lkX1_131 kX1_printNumber sX1_printNumber (gFit_m (by decide)) rfl (Nat.le_of_ble_eq_true rfl) (Nat.zero_le _) (Nat.zero_le _) rfl ?_
          refine c_printNumber hW hN (hwd host i (by omega) (by omega)) hx1 (fun V2 hx2 hf2 => ?_)
          show gX l E _ 101 [some (ga B), some (gi host), some (gi nx), some (ga W), some (gi (5 - ((f + 1 : Nat) : Int))), some (ga (rwA B gs.length host)), some (gi i), some (ga (-1))] [] (K, R, V2) _ _
          refine gX_iinc dX1_printRow_101 rfl (show (6 : Nat) < 8 from by decide) ⟨by omega, by omega⟩ (ls2 := [some (ga B), some (gi host), some (gi nx), some (ga W), some (gi (5 - ((f + 1 : Nat) : Int))), some (ga (rwA B gs.length host)), some (gi (i + 1)), some (ga (-1))]) rfl ?_
          refine gX_goto (tgt := 18) dX1_printRow_104 (by decide) ?_
          have e1 : roL (ladd N) tx gs (prR (ladd N) tx gs f) host (jj + 1) i (nx, o1) = roL (ladd N) tx gs (prR (ladd N) tx gs f) host jj (i + 1) (nx, prNum (ladd N) (lat (rwL tx gs host) i) o1) := by
            show (if _ then (if _ then _ else _) else _) = _
            rw [if_pos (by omega), if_neg (by unfold opn; simp only [decide_eq_true_eq]; rintro ⟨z1, z2, z3, z4, z5⟩; exact n0 ⟨z1, z2⟩)]
          rw [e1] at hq2
          exact ih (i + 1) nx _ _ V2 _ _ (by omega) (by omega) (by omega) (hb1.fr (hf2.fr (lo := W) (hi := W + 2) (by omega) (by omega)) (by omega)) hx2 (hf1.trans hf2) hq2
  refine gX_iload dX1_printRow_0 rfl ?_
  refine gX_iconst dX1_printRow_2 ⟨by decide, by decide⟩ ?_
  refine gX_icmple (tgt := 8) dX1_printRow_3 (by decide) (fun s1 => ?_) (fun s1 => ?_)
  · refine gX_aloadn dX1_printRow_8 rfl ?_
    refine gX_iloadn dX1_printRow_9 rfl ?_
    refine gX_virt (J := iX1_rowOf) (av := [gi host]) (a := B) (st := []) dX1_printRow_10 lkX1_101 kX1_rowOf vX1_rowOf (gFit_m (by decide)) hB.1 rfl rfl (Nat.le_of_ble_eq_true rfl) (Nat.zero_le _) (Nat.zero_le _) rfl ?_
    refine c_rowOf hB hb ?_
    show gX l E _ 13 [some (ga B), some (gi host), some (gi nx), some (ga W), some (gi (5 - ((f + 1 : Nat) : Int))), none, none, none] [ga (rwA B gs.length host)] (K, R, V) _ _
    refine gX_astore dX1_printRow_13 (show (5 : Nat) < 8 from by decide) (ls2 := [some (ga B), some (gi host), some (gi nx), some (ga W), some (gi (5 - ((f + 1 : Nat) : Int))), some (ga (rwA B gs.length host)), none, none]) rfl ?_
    refine gX_iconst dX1_printRow_15 ⟨by decide, by decide⟩ ?_
    refine gX_istore dX1_printRow_16 (show (6 : Nat) < 8 from by decide) (ls2 := [some (ga B), some (gi host), some (gi nx), some (ga W), some (gi (5 - ((f + 1 : Nat) : Int))), some (ga (rwA B gs.length host)), some (gi 0), none]) rfl ?_
    exact lp 41 0 nx none out V _ _ (by omega) (by omega) (by omega) hb hx (fun _ _ _ => rfl) hQ
  · exfalso; omega
set_option maxRecDepth 4000 in
theorem c_printRow0 {host nx : Int} (hB : bkK K R B) (hx : rIs V W N out) (hQ : ∀ V', rIs V' W N out → rFr V V' W → Q (some (gi nx)) (K, R, V')) : gC l E (d + 1) iX1_printRow [ga B, gi host, gi nx, ga W, gi (5 - ((0 : Nat) : Int))] (K, R, V) Q := by
  refine gC_of kX1_printRow (ls := [some (ga B), some (gi host), some (gi nx), some (ga W), some (gi (5 - ((0 : Nat) : Int))), none, none, none]) rfl (Nat.le_of_ble_eq_true rfl) ?_
  refine gX_iload dX1_printRow_0 rfl ?_
  refine gX_iconst dX1_printRow_2 ⟨by decide, by decide⟩ ?_
  refine gX_icmple (tgt := 8) dX1_printRow_3 (by decide) (fun w1 => ?_) (fun w1 => ?_)
  · exfalso; omega
  · refine gX_iloadn dX1_printRow_6 rfl ?_
    refine gX_iret dX1_printRow_7 (Or.inl rfl) ?_
    exact hQ V hx (fun _ _ _ => rfl)
theorem c_printRow (hB : bkK K R B) (hW : gRow K R W N) (hN : N ≤ 1000) (hd1 : W + 2 ≤ B ∨ B + 70 ≤ W) (hg1 : gBd gs 100) (hls : lsW tx gs) (hwd : wdW tx gs) : ∀ (f d : Nat), f ≤ 5 → prC l E K R B W N tx gs (d + 2 * f + 3) f
  | 0, d, _ => fun V Q host nx out hb hx hQ => c_printRow0 (d := d + 2) hB hx hQ
  | f + 1, d, h => fun V Q host nx out hb hx hQ => by
    have hr := c_printRow hB hW hN hd1 hg1 hls hwd f d (by omega)
    have e : d + 2 * (f + 1) + 3 = d + 2 * f + 5 := by omega
    rw [e]
    exact c_printRowS (by omega) hr hB hW hN hd1 hg1 hls hwd hb hx hQ
set_option maxRecDepth 4000 in
theorem c_printTo (hB : bkK K R B) (hW : gRow K R W N) (hN : N ≤ 1000) (hd1 : W + 2 ≤ B ∨ B + 70 ≤ W) (hg1 : gBd gs 100) (hls : lsW tx gs) (hwd : wdW tx gs) (hb : bkIs V B tx gs) (hQ : ∀ V', rIs V' W N (prR (ladd N) tx gs 5 (-1) (0, [])).2 → rFr V V' W → Q none (K, R, V')) : gC l E (d + 14) iX1_printTo [ga B, ga W] (K, R, V) Q := by
  refine gC_of kX1_printTo (ls := [some (ga B), some (ga W)]) rfl (Nat.le_of_ble_eq_true rfl) ?_
  refine gX_aloadn dX1_printTo_0 rfl ?_
  refine gX_virt (J := iX6_clear) (av := []) (a := W) (st := []) dX1_printTo_1 lkX1_46 kX6_clear vX6_clear (gFit_m (by decide)) hW.1 rfl rfl (Nat.le_of_ble_eq_true rfl) (Nat.zero_le _) (Nat.zero_le _) rfl ?_
  refine q_Row_clear hW (fun V1 hx1 hf1 => ?_)
  show gX l E _ 4 [some (ga B), some (ga W)] [] (K, R, V1) _ _
  refine gX_aloadn dX1_printTo_4 rfl ?_
  refine gX_iconst dX1_printTo_5 ⟨by decide, by decide⟩ ?_
  refine gX_iconst dX1_printTo_6 ⟨by decide, by decide⟩ ?_
  refine gX_aloadn dX1_printTo_7 rfl ?_
  refine gX_iconst dX1_printTo_8 ⟨by decide, by decide⟩ ?_
  refine gX_virt (J := iX1_printRow) (av := [gi (-1), gi 0, ga W, gi 0]) (a := B) (st := []) dX1_printTo_9 lkX1_123 kX1_printRow vX1_printRow (gFit_m (by decide)) hB.1 rfl rfl (Nat.le_of_ble_eq_true rfl) (Nat.zero_le _) (Nat.zero_le _) rfl ?_
  refine c_printRow hB hW hN hd1 hg1 hls hwd 5 d (by omega) V1 _ (-1) 0 [] (hb.fr (hf1.fr (lo := W) (hi := W + 2) (by omega) (by omega)) (by omega)) hx1 (fun V2 hx2 hf2 => ?_)
  show gX l E _ 12 [some (ga B), some (ga W)] [gi ((prR (ladd N) tx gs 5 (-1) (0, [])).1)] (K, R, V2) _ _
  refine gX_pop dX1_printTo_12 rfl ?_
  refine gX_vret dX1_printTo_13 rfl ?_
  exact hQ V2 hx2 (hf1.trans hf2)
end PRINT
