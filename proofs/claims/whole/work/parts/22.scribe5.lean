/-! Scribe: into, move. Written by wip/whole/tools/mk_scribe5.py. -/
/-- spans of the text: in it, apart or one -/
def spW (tx : List Int) (gs : List gG) : Prop := (∀ q ∈ gs, onT q = 1 → 0 ≤ q.2.2.1 ∧ q.2.2.1 ≤ q.2.2.2.1 ∧ q.2.2.2.1 < tx.length) ∧ ∀ p ∈ gs, ∀ q ∈ gs, onT p = 1 → onT q = 1 → (p.2.2.1 = q.2.2.1 ∧ p.2.2.2.1 = q.2.2.2.1) ∨ p.2.2.2.1 < q.2.2.1 ∨ q.2.2.2.1 < p.2.2.1
def rwW (gs : List gG) : Prop := ∀ q ∈ gs, 1 ≤ q.2.2.2.2.2.length
theorem onT_sh (a b : Int) (q : gG) : onT (shQ a b q) = onT q := by unfold shQ; split <;> rfl
theorem onT_st (a b : Int) (q : gG) : onT (stQ a b q) = onT q := by unfold stQ; split <;> rfl
theorem shQ_off {a b : Int} {q : gG} (h : ¬ onT q = 1) : shQ a b q = q := by unfold shQ; rw [if_neg (fun z => h z.1)]
theorem stQ_off {a b : Int} {q : gG} (h : ¬ onT q = 1) : stQ a b q = q := by unfold stQ; rw [if_neg (fun z => h z.1)]
theorem shQ_on {a b : Int} {q : gG} (h : onT q = 1) : (a ≤ q.2.2.1 ∧ (shQ a b q).2.2.1 = q.2.2.1 + b ∧ (shQ a b q).2.2.2.1 = q.2.2.2.1 + b) ∨ (q.2.2.1 < a ∧ (shQ a b q).2.2.1 = q.2.2.1 ∧ (shQ a b q).2.2.2.1 = q.2.2.2.1) := by
  unfold shQ
  by_cases c : a ≤ q.2.2.1
  · rw [if_pos ⟨h, c⟩]; exact Or.inl ⟨c, rfl, rfl⟩
  · rw [if_neg (fun z => c z.2)]; exact Or.inr ⟨by omega, rfl, rfl⟩
theorem stQ_on {a b : Int} {q : gG} (h : onT q = 1) : (q.2.2.1 = a ∧ (stQ a b q).2.2.1 = q.2.2.1 ∧ (stQ a b q).2.2.2.1 = b) ∨ (q.2.2.1 ≠ a ∧ (stQ a b q).2.2.1 = q.2.2.1 ∧ (stQ a b q).2.2.2.1 = q.2.2.2.1) := by
  unfold stQ
  by_cases c : q.2.2.1 = a
  · rw [if_pos ⟨h, c⟩]; exact Or.inl ⟨c, rfl, rfl⟩
  · rw [if_neg (fun z => c z.2)]; exact Or.inr ⟨c, rfl, rfl⟩
/-- what a slip does to one gloss -/
def slF (wy : Int) (q : gG) : gG → gG := if wy = 0 then shQ q.2.2.1 q.2.2.2.2.2.length else if wy = 1 then shQ (q.2.2.2.1 + 1) q.2.2.2.2.2.length else fun p => stQ q.2.2.1 (q.2.2.1 + q.2.2.2.2.2.length - 1) (shQ (q.2.2.2.1 + 1) (q.2.2.2.2.2.length - lml q) p)
theorem slO_gs (wy : Int) (tx : List Int) (gs : List gG) (q : gG) : (slO wy tx gs q).2 = gs.map (slF wy q) := by
  unfold slO slF
  split
  · rfl
  · split
    · rfl
    · rw [List.map_map]; rfl
theorem slF_onT (wy : Int) (q p : gG) : onT (slF wy q p) = onT p := by
  unfold slF
  split
  · exact onT_sh _ _ _
  · split
    · exact onT_sh _ _ _
    · show onT (stQ _ _ (shQ _ _ p)) = _
      rw [onT_st, onT_sh]
theorem slF_off {wy : Int} {q p : gG} (h : ¬ onT p = 1) : slF wy q p = p := by
  unfold slF
  split
  · exact shQ_off h
  · split
    · exact shQ_off h
    · show stQ _ _ (shQ _ _ p) = _
      rw [shQ_off h, stQ_off h]
theorem slF_row (wy : Int) (q p : gG) : (slF wy q p).2.2.2.2.2 = p.2.2.2.2.2 := by
  unfold slF
  split
  · exact shQ_row _ _ _
  · split
    · exact shQ_row _ _ _
    · show (stQ _ _ (shQ _ _ p)).2.2.2.2.2 = _
      rw [stQ_row, shQ_row]
theorem slO_len {wy : Int} {tx : List Int} {gs : List gG} {q : gG} (h0 : 0 ≤ q.2.2.1) (h1 : q.2.2.1 ≤ q.2.2.2.1) (h2 : q.2.2.2.1 < tx.length) : ((slO wy tx gs q).1.length : Int) = tx.length - (if wy = 0 then 0 else if wy = 1 then 0 else lml q) + q.2.2.2.2.2.length := by
  have hl : lml q = q.2.2.2.1 - q.2.2.1 + 1 := rfl
  unfold slO
  split
  · simp only [List.length_append, List.length_take, List.length_drop]; omega
  · split
    · simp only [List.length_append, List.length_take, List.length_drop]; omega
    · simp only [List.length_append, List.length_take, List.length_drop]; omega
/-- how one gloss on the text fares -/
theorem slF_on {wy : Int} {q p : gG} (h : onT p = 1) (hr : 1 ≤ q.2.2.2.2.2.length) (hpq : (p.2.2.1 = q.2.2.1 ∧ p.2.2.2.1 = q.2.2.2.1) ∨ p.2.2.2.1 < q.2.2.1 ∨ q.2.2.2.1 < p.2.2.1) (hp : p.2.2.1 ≤ p.2.2.2.1) (hq : q.2.2.1 ≤ q.2.2.2.1) :
    (p.2.2.2.1 < q.2.2.1 ∧ (slF wy q p).2.2.1 = p.2.2.1 ∧ (slF wy q p).2.2.2.1 = p.2.2.2.1)
    ∨ (q.2.2.2.1 < p.2.2.1 ∧ (slF wy q p).2.2.1 = p.2.2.1 + (q.2.2.2.2.2.length - (if wy = 0 then 0 else if wy = 1 then 0 else lml q)) ∧ (slF wy q p).2.2.2.1 = p.2.2.2.1 + (q.2.2.2.2.2.length - (if wy = 0 then 0 else if wy = 1 then 0 else lml q)))
    ∨ (p.2.2.1 = q.2.2.1 ∧ p.2.2.2.1 = q.2.2.2.1 ∧ (slF wy q p).2.2.1 = (if wy = 0 then q.2.2.1 + q.2.2.2.2.2.length else q.2.2.1) ∧ (slF wy q p).2.2.2.1 = (if wy = 0 then q.2.2.2.1 + q.2.2.2.2.2.length else if wy = 1 then q.2.2.2.1 else q.2.2.1 + q.2.2.2.2.2.length - 1)) := by
  have hl : lml q = q.2.2.2.1 - q.2.2.1 + 1 := rfl
  unfold slF
  by_cases c0 : wy = 0
  · simp only [if_pos c0]
    have s1 := shQ_on (a := q.2.2.1) (b := (q.2.2.2.2.2.length : Int)) h
    omega
  · simp only [if_neg c0]
    by_cases c1 : wy = 1
    · simp only [if_pos c1]
      have s1 := shQ_on (a := q.2.2.2.1 + 1) (b := (q.2.2.2.2.2.length : Int)) h
      omega
    · simp only [if_neg c1]
      have s1 := shQ_on (a := q.2.2.2.1 + 1) (b := (q.2.2.2.2.2.length : Int) - lml q) h
      have h' : onT (shQ (q.2.2.2.1 + 1) (q.2.2.2.2.2.length - lml q) p) = 1 := by rw [onT_sh]; exact h
      have s2 := stQ_on (a := q.2.2.1) (b := q.2.2.1 + q.2.2.2.2.2.length - 1) h'
      omega
theorem slO_W {wy : Int} {tx : List Int} {gs : List gG} {q : gG} (hw : spW tx gs) (hr : rwW gs) (hq : q ∈ gs) (ho : onT q = 1) : spW (slO wy tx gs q).1 (slO wy tx gs q).2 := by
  have bq := hw.1 q hq ho
  have hrq := hr q hq
  have hlen := slO_len (wy := wy) (gs := gs) bq.1 bq.2.1 bq.2.2
  have hl : lml q = q.2.2.2.1 - q.2.2.1 + 1 := rfl
  rw [slO_gs]
  constructor
  · intro x hx hxo
    obtain ⟨p, hp, rfl⟩ := List.mem_map.mp hx
    rw [slF_onT] at hxo
    have bp := hw.1 p hp hxo
    have s1 := slF_on (wy := wy) hxo hrq (hw.2 p hp q hq hxo ho) bp.2.1 bq.2.1
    by_cases c0 : wy = 0
    · simp only [if_pos c0] at s1 hlen; omega
    · simp only [if_neg c0] at s1 hlen
      by_cases c1 : wy = 1
      · simp only [if_pos c1] at s1 hlen; omega
      · simp only [if_neg c1] at s1 hlen; omega
  · intro x hx y hy hxo hyo
    obtain ⟨p, hp, rfl⟩ := List.mem_map.mp hx
    obtain ⟨r, hr', rfl⟩ := List.mem_map.mp hy
    rw [slF_onT] at hxo hyo
    have bp := hw.1 p hp hxo
    have br := hw.1 r hr' hyo
    have s1 := slF_on (wy := wy) hxo hrq (hw.2 p hp q hq hxo ho) bp.2.1 bq.2.1
    have s2 := slF_on (wy := wy) hyo hrq (hw.2 r hr' q hq hyo ho) br.2.1 bq.2.1
    have s3 := hw.2 p hp r hr' hxo hyo
    by_cases c0 : wy = 0
    · simp only [if_pos c0] at s1 s2; omega
    · simp only [if_neg c0] at s1 s2
      by_cases c1 : wy = 1
      · simp only [if_pos c1] at s1 s2; omega
      · simp only [if_neg c1] at s1 s2; omega
theorem mem_away {gs : List gG} {g : Int} (h0 : 0 ≤ g) (h1 : g < gs.length) {x : gG} (hx : x ∈ awayG gs g) : ∃ q0 ∈ gs, x = q0 ∨ x = setGone q0 := by
  obtain ⟨k, hk⟩ := List.getElem?_of_mem hx
  obtain ⟨q0, g1, g2⟩ := awayG_at h0 h1 hk
  exact ⟨q0, List.mem_of_getElem? g1, g2⟩
theorem onT_gone (q : gG) : ¬ onT (setGone q) = 1 := by
  unfold onT setGone
  rw [if_neg (fun z => by have := z.1; simp at this)]
  decide
theorem spW.away {tx : List Int} {gs : List gG} {g : Int} (h : spW tx gs) (h0 : 0 ≤ g) (h1 : g < gs.length) : spW tx (awayG gs g) := by
  constructor
  · intro x hx ho
    obtain ⟨q0, m0, e | e⟩ := mem_away h0 h1 hx
    · rw [e] at ho ⊢; exact h.1 q0 m0 ho
    · rw [e] at ho; exact absurd ho (onT_gone q0)
  · intro x hx y hy hxo hyo
    obtain ⟨q0, m0, e | e⟩ := mem_away h0 h1 hx
    · obtain ⟨q1, m1, f | f⟩ := mem_away h0 h1 hy
      · rw [e] at hxo ⊢; rw [f] at hyo ⊢; exact h.2 q0 m0 q1 m1 hxo hyo
      · rw [f] at hyo; exact absurd hyo (onT_gone q1)
    · rw [e] at hxo; exact absurd hxo (onT_gone q0)
theorem rwW.away {gs : List gG} {g : Int} (h : rwW gs) (h0 : 0 ≤ g) (h1 : g < gs.length) : rwW (awayG gs g) := by
  intro x hx
  obtain ⟨q0, m0, e | e⟩ := mem_away h0 h1 hx
  · rw [e]; exact h q0 m0
  · rw [e]; exact h q0 m0
theorem slO_bd {wy : Int} {tx : List Int} {gs : List gG} {q : gG} (hb : gBd gs 100) (hw : spW (slO wy tx gs q).1 (slO wy tx gs q).2) (hl : (slO wy tx gs q).1.length ≤ 40) : gBd (slO wy tx gs q).2 100 := by
  intro x hx
  by_cases ho : onT x = 1
  · have := hw.1 x hx ho; omega
  · rw [slO_gs] at hx
    obtain ⟨p, hp, rfl⟩ := List.mem_map.mp hx
    rw [slF_onT] at ho
    rw [slF_off ho]
    exact hb p hp
theorem slO_rw {wy : Int} {tx : List Int} {gs : List gG} {q : gG} (h : rwW gs) : rwW (slO wy tx gs q).2 := by
  intro x hx
  rw [slO_gs] at hx
  obtain ⟨p, hp, rfl⟩ := List.mem_map.mp hx
  rw [slF_row]
  exact h p hp
theorem slO_gl (wy : Int) (tx : List Int) (gs : List gG) (q : gG) : (slO wy tx gs q).2.length = gs.length := by rw [slO_gs, List.length_map]
def inC (wy : Int) (s : cS) (g : Int) : Bool := decide (onT (gq s.2.1 g) = 1) && decide ((gq s.2.1 g).1 = 0) && decide ((s.1.length : Int) - (if wy = 2 then lml (gq s.2.1 g) else 0) + (gq s.2.1 g).2.2.2.2.2.length ≤ 40)
def inS (wy m : Int) : Nat → Nat → cS → cS
  | 0, _, s => s
  | n + 1, g, s => if inC wy s g = true then (if tkn (lat s.2.2.1 3 + 1) m = 1 then inS wy m n (g + 1) ((slO wy s.1 s.2.1 (gq s.2.1 g)).1, awayG (slO wy s.1 s.2.1 (gq s.2.1 g)).2 g, (tcS 3 m s).2.2) else inS wy m n (g + 1) (tcS 3 m s)) else inS wy m n (g + 1) s
section SCRIBE5
variable {l : Launch} {E : gE} {d : Nat} {K : List gK} {R V : Int → Int → Int} {B H g : Int} {Q : gQ} {tx : List Int} {gs : List gG} {q : gG} {ex sc rc wy : Int} {ch tk fr to fe ea : List Int}
set_option maxRecDepth 4000 in
theorem c_slipIn {s0 : cS} (hB : bkK K R B) (hH : hdK K R H) (hd1 : H + 9 ≤ B ∨ B + 70 ≤ H) (hs : fbIs V B ex sc s0) (hh : hdIs V H fr to fe ea rc wy) (hwy : 0 ≤ wy ∧ wy ≤ 2) (hg : gBd s0.2.1 100) (hw : spW s0.1 s0.2.1) (hr : rwW s0.2.1) (hc : cBd s0.2.2.1 2000) (ht : cBd s0.2.2.2 2000) (hQ : ∀ V', fbIs V' B ex sc (inS wy (lat ea 3) s0.2.1.length 0 s0) → gFr V V' B (B + 70) → Q none (K, R, V')) : gC l E (d + 4) iX7_slipIn [ga B, ga H] (K, R, V) Q := by
  refine gC_of kX7_slipIn (ls := [some (ga B), some (ga H), none, none, none, none]) rfl (Nat.le_of_ble_eq_true rfl) ?_
  have h20 := hs.1.2.2.1
  have lp : ∀ (jj : Nat) (i : Int) (j3 : Option gV) (j4 : Option gV) (j5 : Option gV) (V1 : Int → Int → Int) (s : cS) (bc bs : Nat), (s.2.1.length : Int) - i < (jj : Int) → 0 ≤ i → i ≤ s.2.1.length → s.2.1.length = s0.2.1.length → fbIs V1 B ex sc s → hdIs V1 H fr to fe ea rc wy → gFr V V1 B (B + 70) → gBd s.2.1 100 → spW s.1 s.2.1 → rwW s.2.1 → cBd s.2.2.1 (2000 + i) → cBd s.2.2.2 (2000 + i) → (∀ V', fbIs V' B ex sc (inS wy (lat ea 3) (s.2.1.length - i.toNat) i.toNat s) → gFr V V' B (B + 70) → Q none (K, R, V')) → gX l E (gFm E (d + 4) iX7_slipIn Q) 2 [some (ga B), some (ga H), some (gi i), j3, j4, j5] [] (K, R, V1) bc bs := by
    intro jj
    induction jj with
    | zero =>
      intro i j3 j4 j5 V1 s bc bs hj q0 q1 q2 hs1 hh1 hf1 hg1 hw1 hr1 hc1 ht1 hq2
      exfalso; omega
    | succ jj ih =>
      intro i j3 j4 j5 V1 s bc bs hj q0 q1 q2 hs1 hh1 hf1 hg1 hw1 hr1 hc1 ht1 hq2
      have hcn := hs1.1.2.1
      have h20 := hs1.1.2.2.1
      have hxl := hs1.1.1.2.1
      refine gX_iloadn dX7_slipIn_2 rfl ?_
      refine gX_aloadn dX7_slipIn_3 rfl ?_
      refine gX_gI 5 dX7_slipIn_4 fdX7_84 rfl (Or.inl rfl) hB.1 ?_
      refine gX_icmpge (tgt := 108) dX7_slipIn_7 (by decide) (fun w1 => ?_) (fun w1 => ?_)
      · refine gX_vret dX7_slipIn_108 rfl ?_
        have ei : s.2.1.length - i.toNat = 0 := by omega
        rw [ei] at hq2
        exact hq2 V1 hs1 hf1
      · refine gX_aloadn dX7_slipIn_10 rfl ?_
        refine gX_iloadn dX7_slipIn_11 rfl ?_
        refine gX_virt (J := iX1_glossAt) (av := [gi i]) (a := B) (st := []) dX7_slipIn_12 lkX7_116 kX1_glossAt vX1_glossAt (gFit_m (by decide)) hB.1 rfl rfl (Nat.le_of_ble_eq_true rfl) (Nat.zero_le _) (Nat.zero_le _) rfl ?_
        refine c_glossAt hB hs1.1 q0 (by omega) ?_
        show gX l E _ 15 [some (ga B), some (ga H), some (gi i), j3, j4, j5] [ga (B + 10 + 3 * i)] (K, R, V1) _ _
        refine gX_astoren dX7_slipIn_15 (show (3 : Nat) < 6 from by decide) (ls2 := [some (ga B), some (ga H), some (gi i), some (ga (B + 10 + 3 * i)), j4, j5]) rfl ?_
        refine gX_aloadn dX7_slipIn_16 rfl ?_
        refine gX_ifnull (tgt := 102) dX7_slipIn_17 (by decide) (fun w2 => absurd (kd_pos (hB.2.2.2.2.2.2.2.2.2.2.2 i q0 (by omega)).2.1) (by omega)) (fun w2 => ?_)
        refine gX_aloadn dX7_slipIn_20 rfl ?_
        refine gX_virt (J := iX3_isOnText) (av := []) (a := (B + 10 + 3 * i)) (st := []) dX7_slipIn_21 lkX7_120 kX3_isOnText vX3_isOnText (gFit_m (by decide)) (hB.2.2.2.2.2.2.2.2.2.2.2 i q0 (by omega)).2.1 rfl rfl (Nat.le_of_ble_eq_true rfl) (Nat.zero_le _) (Nat.zero_le _) rfl ?_
        refine c_isOnText (hB.2.2.2.2.2.2.2.2.2.2.2 i q0 (by omega)).2 (hs1.1.gl q0 (by omega)) ?_
        show gX l E _ 24 [some (ga B), some (ga H), some (gi i), some (ga (B + 10 + 3 * i)), j4, j5] [gi (onT (gq s.2.1 i))] (K, R, V1) _ _
        have o1 := onT_01 (gq s.2.1 i)
        have hll : lml (gq s.2.1 i) = (gq s.2.1 i).2.2.2.1 - (gq s.2.1 i).2.2.1 + 1 := rfl
        have gb := hg1 _ (gq_mem (gs := s.2.1) (g := i) q0 (by omega))
        have hrl := (hs1.1.gl q0 (by omega : i < (s.2.1.length : Int))).2.2.2.2.2.2.2.1
        refine gX_ifeq (tgt := 102) dX7_slipIn_24 (by decide) (fun w3 => ?_) (fun w3 => ?_)
        · refine gX_iinc dX7_slipIn_102 rfl (show (2 : Nat) < 6 from by decide) ⟨by omega, by omega⟩ (ls2 := [some (ga B), some (ga H), some (gi (i + 1)), some (ga (B + 10 + 3 * i)), j4, j5]) rfl ?_
          refine gX_goto (tgt := 2) dX7_slipIn_105 (by decide) ?_
          have ec : inC wy s i = false := by
            unfold inC
            simp only [Bool.and_eq_false_iff, decide_eq_false_iff_not]
            exact Or.inl (by omega)
          have ek : s.2.1.length - i.toNat = (s.2.1.length - (i + 1).toNat) + 1 := by omega
          have e1 : inS wy (lat ea 3) (s.2.1.length - i.toNat) i.toNat s = inS wy (lat ea 3) (s.2.1.length - (i + 1).toNat) (i + 1).toNat s := by
            rw [ek]
            show (if _ then (if _ then _ else _) else _) = _
            rw [Int.toNat_of_nonneg q0, show i.toNat + 1 = (i + 1).toNat by omega]
            rw [if_neg (by rw [ec]; decide)]
          rw [e1] at hq2
          exact ih (i + 1) _ _ _ V1 s _ _ (by omega) (by omega) (by omega) q2 hs1 hh1 hf1 hg1 hw1 hr1 (hc1.up (by omega)) (ht1.up (by omega)) hq2
        · refine gX_aloadn dX7_slipIn_27 rfl ?_
          refine gX_gI 1 dX7_slipIn_28 fdX7_143 rfl (Or.inl rfl) (hB.2.2.2.2.2.2.2.2.2.2.2 i q0 (by omega)).2.1 ?_
          rw [(hs1.1.gl q0 (by omega)).1]
          refine gX_ifne (tgt := 102) dX7_slipIn_31 (by decide) (fun w4 => ?_) (fun w4 => ?_)
          · refine gX_iinc dX7_slipIn_102 rfl (show (2 : Nat) < 6 from by decide) ⟨by omega, by omega⟩ (ls2 := [some (ga B), some (ga H), some (gi (i + 1)), some (ga (B + 10 + 3 * i)), j4, j5]) rfl ?_
            refine gX_goto (tgt := 2) dX7_slipIn_105 (by decide) ?_
            have ec : inC wy s i = false := by
              unfold inC
              simp only [Bool.and_eq_false_iff, decide_eq_false_iff_not]
              exact Or.inl (by omega)
            have ek : s.2.1.length - i.toNat = (s.2.1.length - (i + 1).toNat) + 1 := by omega
            have e1 : inS wy (lat ea 3) (s.2.1.length - i.toNat) i.toNat s = inS wy (lat ea 3) (s.2.1.length - (i + 1).toNat) (i + 1).toNat s := by
              rw [ek]
              show (if _ then (if _ then _ else _) else _) = _
              rw [Int.toNat_of_nonneg q0, show i.toNat + 1 = (i + 1).toNat by omega]
              rw [if_neg (by rw [ec]; decide)]
            rw [e1] at hq2
            exact ih (i + 1) _ _ _ V1 s _ _ (by omega) (by omega) (by omega) q2 hs1 hh1 hf1 hg1 hw1 hr1 (hc1.up (by omega)) (ht1.up (by omega)) hq2
          · have bw := hw1.1 _ (gq_mem (gs := s.2.1) (g := i) q0 (by omega)) (by omega)
            refine gX_aloadn dX7_slipIn_34 rfl ?_
            refine gX_gI 5 dX7_slipIn_35 fdX7_146 rfl (Or.inl rfl) hH.1 ?_
            rw [hh1.2.2.2.2.2]
            refine gX_iconst dX7_slipIn_38 ⟨by decide, by decide⟩ ?_
            refine gX_icmpne (tgt := 49) dX7_slipIn_39 (by decide) (fun w5 => ?_) (fun w5 => ?_)
            · refine gX_iconst dX7_slipIn_49 ⟨by decide, by decide⟩ ?_
              refine gX_istore dX7_slipIn_50 (show (4 : Nat) < 6 from by decide) (ls2 := [some (ga B), some (ga H), some (gi i), some (ga (B + 10 + 3 * i)), some (gi 0), j5]) rfl ?_
              refine gX_aloadn dX7_slipIn_52 rfl ?_
              refine gX_gR 0 dX7_slipIn_53 fdX7_77 rfl rfl hB.1 hB.2.1 ?_
              refine gX_virt (J := iX6_length) (av := []) (a := (B + 1)) (st := []) dX7_slipIn_56 lkX7_70 kX6_length vX6_length (gFit_m (by decide)) hB.2.2.2.2.2.2.1.1 rfl rfl (Nat.le_of_ble_eq_true rfl) (Nat.zero_le _) (Nat.zero_le _) rfl ?_
              refine q_Row_length hB.2.2.2.2.2.2.1 hs1.1.1 ?_
              show gX l E _ 59 [some (ga B), some (ga H), some (gi i), some (ga (B + 10 + 3 * i)), some (gi 0), j5] [gi s.1.length] (K, R, V1) _ _
              refine gX_iload dX7_slipIn_59 rfl ?_
              refine gX_isub dX7_slipIn_61 ⟨by omega, by omega⟩ ?_
              refine gX_aloadn dX7_slipIn_62 rfl ?_
              refine gX_gR 0 dX7_slipIn_63 fdX7_152 rfl rfl (hB.2.2.2.2.2.2.2.2.2.2.2 i q0 (by omega)).2.1 (hB.2.2.2.2.2.2.2.2.2.2.2 i q0 (by omega)).2.2.1 ?_
              refine gX_virt (J := iX6_length) (av := []) (a := (B + 10 + 3 * i + 1)) (st := [gi (s.1.length - 0)]) dX7_slipIn_66 lkX7_70 kX6_length vX6_length (gFit_m (by decide)) (hB.2.2.2.2.2.2.2.2.2.2.2 i q0 (by omega)).2.2.2.1 rfl rfl (Nat.le_of_ble_eq_true rfl) (Nat.zero_le _) (Nat.zero_le _) rfl ?_
              refine q_Row_length (hB.2.2.2.2.2.2.2.2.2.2.2 i q0 (by omega)).2.2.2 (hs1.1.gl q0 (by omega)).2.2.2.2.2.2 ?_
              show gX l E _ 69 [some (ga B), some (ga H), some (gi i), some (ga (B + 10 + 3 * i)), some (gi 0), j5] [gi ((gq s.2.1 i).2.2.2.2.2.length), gi (s.1.length - 0)] (K, R, V1) _ _
              refine gX_iadd dX7_slipIn_69 ⟨by omega, by omega⟩ ?_
              refine gX_istore dX7_slipIn_70 (show (5 : Nat) < 6 from by decide) (ls2 := [some (ga B), some (ga H), some (gi i), some (ga (B + 10 + 3 * i)), some (gi 0), some (gi ((s.1.length - 0) + ((gq s.2.1 i).2.2.2.2.2.length)))]) rfl ?_
              refine gX_iload dX7_slipIn_72 rfl ?_
              refine gX_bipush dX7_slipIn_74 (by decide) ⟨by decide, by decide⟩ ?_
              refine gX_icmpgt (tgt := 102) dX7_slipIn_76 (by decide) (fun w6 => ?_) (fun w6 => ?_)
              · refine gX_iinc dX7_slipIn_102 rfl (show (2 : Nat) < 6 from by decide) ⟨by omega, by omega⟩ (ls2 := [some (ga B), some (ga H), some (gi (i + 1)), some (ga (B + 10 + 3 * i)), some (gi 0), some (gi ((s.1.length - 0) + ((gq s.2.1 i).2.2.2.2.2.length)))]) rfl ?_
                refine gX_goto (tgt := 2) dX7_slipIn_105 (by decide) ?_
                have ec : inC wy s i = false := by
                  unfold inC
                  simp only [Bool.and_eq_false_iff, decide_eq_false_iff_not]
                  refine Or.inr ?_
                  rw [if_neg (by omega)]
                  omega
                have ek : s.2.1.length - i.toNat = (s.2.1.length - (i + 1).toNat) + 1 := by omega
                have e1 : inS wy (lat ea 3) (s.2.1.length - i.toNat) i.toNat s = inS wy (lat ea 3) (s.2.1.length - (i + 1).toNat) (i + 1).toNat s := by
                  rw [ek]
                  show (if _ then (if _ then _ else _) else _) = _
                  rw [Int.toNat_of_nonneg q0, show i.toNat + 1 = (i + 1).toNat by omega]
                  rw [if_neg (by rw [ec]; decide)]
                rw [e1] at hq2
                exact ih (i + 1) _ _ _ V1 s _ _ (by omega) (by omega) (by omega) q2 hs1 hh1 hf1 hg1 hw1 hr1 (hc1.up (by omega)) (ht1.up (by omega)) hq2
              · refine gX_iconst dX7_slipIn_79 ⟨by decide, by decide⟩ ?_
                refine gX_aloadn dX7_slipIn_80 rfl ?_
                refine gX_aloadn dX7_slipIn_81 rfl ?_
                refine gX_stat (J := iX7_chance) (av := [gi 3, ga B, ga H]) (st := []) dX7_slipIn_82 lkX7_105 kX7_chance sX7_chance (gFit_m (by decide)) rfl (Nat.le_of_ble_eq_true rfl) (Nat.zero_le _) (Nat.zero_le _) rfl ?_
                refine c_chance hB hH hs1.2 hh1 (by omega) (by omega) (hc1.up (by omega)) (ht1.up (by omega)) (fun V2 hm2 hf2 => ?_)
                show gX l E _ 85 [some (ga B), some (ga H), some (gi i), some (ga (B + 10 + 3 * i)), some (gi 0), some (gi ((s.1.length - 0) + ((gq s.2.1 i).2.2.2.2.2.length)))] [gi (tkn (lat s.2.2.1 3 + 1) (lat ea 3))] (K, R, V2) _ _
                have o3 := tkn_01 (lat s.2.2.1 3 + 1) (lat ea 3)
                refine gX_ifeq (tgt := 102) dX7_slipIn_85 (by decide) (fun w7 => ?_) (fun w7 => ?_)
                · refine gX_iinc dX7_slipIn_102 rfl (show (2 : Nat) < 6 from by decide) ⟨by omega, by omega⟩ (ls2 := [some (ga B), some (ga H), some (gi (i + 1)), some (ga (B + 10 + 3 * i)), some (gi 0), some (gi ((s.1.length - 0) + ((gq s.2.1 i).2.2.2.2.2.length)))]) rfl ?_
                  refine gX_goto (tgt := 2) dX7_slipIn_105 (by decide) ?_
                  have ec : inC wy s i = true := by
                    unfold inC
                    simp only [Bool.and_eq_true, decide_eq_true_eq]
                    refine ⟨⟨by omega, by omega⟩, ?_⟩
                    rw [if_neg (by omega)]
                    omega
                  have ek : s.2.1.length - i.toNat = (s.2.1.length - (i + 1).toNat) + 1 := by omega
                  have e1 : inS wy (lat ea 3) (s.2.1.length - i.toNat) i.toNat s = inS wy (lat ea 3) (s.2.1.length - (i + 1).toNat) (i + 1).toNat (tcS 3 (lat ea 3) s) := by
                    rw [ek]
                    show (if _ then (if _ then _ else _) else _) = _
                    rw [Int.toNat_of_nonneg q0, show i.toNat + 1 = (i + 1).toNat by omega]
                    rw [if_pos ec, if_neg (by omega)]
                  rw [e1] at hq2
                  exact ih (i + 1) _ _ _ V2 (tcS 3 (lat ea 3) s) _ _ (by show (s.2.1.length : Int) - (i + 1) < _; omega) (by omega) (by show i + 1 ≤ (s.2.1.length : Int); omega) q2 ⟨hs1.1.m hf2, hm2⟩ (hh1.fr hf2 (by omega)) (hf1.trans (hf2.wide (by omega) (by omega))) hg1 hw1 hr1 ((tcS_c (h := 3) (m := lat ea 3) hc1 (by omega) (by omega)).up (by omega)) ((tcS_t (h := 3) (m := lat ea 3) ht1 (by omega) (by omega)).up (by omega)) hq2
                · refine gX_aloadn dX7_slipIn_88 rfl ?_
                  refine gX_aloadn dX7_slipIn_89 rfl ?_
                  refine gX_aloadn dX7_slipIn_90 rfl ?_
                  refine gX_gI 5 dX7_slipIn_91 fdX7_146 rfl (Or.inl rfl) hH.1 ?_
                  rw [(hh1.fr hf2 (by omega)).2.2.2.2.2]
                  refine gX_stat (J := iX7_slipOne) (av := [ga B, ga (B + 10 + 3 * i), gi wy]) (st := []) dX7_slipIn_94 lkX7_155 kX7_slipOne sX7_slipOne (gFit_m (by decide)) rfl (Nat.le_of_ble_eq_true rfl) (Nat.zero_le _) (Nat.zero_le _) rfl ?_
                  refine c_slipOne hB (hs1.1.m hf2) q0 (by omega) (hg1.up (by omega)) (hg1.up (by omega)) (by omega) (by omega) (by omega) (by omega) (by first | (rw [if_pos (by omega)]; omega) | (rw [if_neg (by omega)]; omega)) (fun V3 hb3 hf3 => ?_)
                  show gX l E _ 97 [some (ga B), some (ga H), some (gi i), some (ga (B + 10 + 3 * i)), some (gi 0), some (gi ((s.1.length - 0) + ((gq s.2.1 i).2.2.2.2.2.length)))] [] (K, R, V3) _ _
                  refine gX_aloadn dX7_slipIn_97 rfl ?_
                  refine gX_iloadn dX7_slipIn_98 rfl ?_
                  refine gX_virt (J := iX1_takeAway) (av := [gi i]) (a := B) (st := []) dX7_slipIn_99 lkX7_136 kX1_takeAway vX1_takeAway (gFit_m (by decide)) hB.1 rfl rfl (Nat.le_of_ble_eq_true rfl) (Nat.zero_le _) (Nat.zero_le _) rfl ?_
                  refine c_takeAway hB hb3 q0 (by rw [slO_gl]; omega) (fun V4 hb4 hf4 => ?_)
                  show gX l E _ 102 [some (ga B), some (ga H), some (gi i), some (ga (B + 10 + 3 * i)), some (gi 0), some (gi ((s.1.length - 0) + ((gq s.2.1 i).2.2.2.2.2.length)))] [] (K, R, V4) _ _
                  refine gX_iinc dX7_slipIn_102 rfl (show (2 : Nat) < 6 from by decide) ⟨by omega, by omega⟩ (ls2 := [some (ga B), some (ga H), some (gi (i + 1)), some (ga (B + 10 + 3 * i)), some (gi 0), some (gi ((s.1.length - 0) + ((gq s.2.1 i).2.2.2.2.2.length)))]) rfl ?_
                  refine gX_goto (tgt := 2) dX7_slipIn_105 (by decide) ?_
                  have ec : inC wy s i = true := by
                    unfold inC
                    simp only [Bool.and_eq_true, decide_eq_true_eq]
                    refine ⟨⟨by omega, by omega⟩, ?_⟩
                    rw [if_neg (by omega)]
                    omega
                  have ek : s.2.1.length - i.toNat = (s.2.1.length - (i + 1).toNat) + 1 := by omega
                  have e1 : inS wy (lat ea 3) (s.2.1.length - i.toNat) i.toNat s = inS wy (lat ea 3) (s.2.1.length - (i + 1).toNat) (i + 1).toNat ((slO wy s.1 s.2.1 (gq s.2.1 i)).1, awayG (slO wy s.1 s.2.1 (gq s.2.1 i)).2 i, (tcS 3 (lat ea 3) s).2.2) := by
                    rw [ek]
                    show (if _ then (if _ then _ else _) else _) = _
                    rw [Int.toNat_of_nonneg q0, show i.toNat + 1 = (i + 1).toNat by omega]
                    rw [if_pos ec, if_pos (by omega)]
                  rw [e1] at hq2
                  have el0 := slO_gl wy s.1 s.2.1 (gq s.2.1 i)
                  have el := awayG_len (slO wy s.1 s.2.1 (gq s.2.1 i)).2 i
                  have hwS := slO_W (wy := wy) hw1 hr1 (gq_mem (gs := s.2.1) (g := i) q0 (by omega)) (by omega)
                  refine ih (i + 1) _ _ _ V4 ((slO wy s.1 s.2.1 (gq s.2.1 i)).1, awayG (slO wy s.1 s.2.1 (gq s.2.1 i)).2 i, (tcS 3 (lat ea 3) s).2.2) _ _ (by show ((awayG (slO wy s.1 s.2.1 (gq s.2.1 i)).2 i).length : Int) - (i + 1) < _; omega) (by omega) (by show i + 1 ≤ ((awayG (slO wy s.1 s.2.1 (gq s.2.1 i)).2 i).length : Int); omega) (by show (awayG (slO wy s.1 s.2.1 (gq s.2.1 i)).2 i).length = _; omega) ⟨hb4, (hm2.b hf3).b (hf4.b (by omega) (by omega))⟩ (((hh1.fr hf2 (by omega)).fr hf3.out (by omega)).fr (hf4.wide (lo2 := B) (by omega) (Int.le_refl _)) (by omega)) (hf1.trans ((hf2.wide (by omega) (by omega)).trans (hf3.out.trans (hf4.wide (by omega) (by omega))))) ((slO_bd hg1 hwS hb3.1.2.1).away q0 (by omega)) (hwS.away q0 (by omega)) ((slO_rw hr1).away q0 (by omega)) ((tcS_c (h := 3) (m := lat ea 3) hc1 (by omega) (by omega)).up (by omega)) ((tcS_t (h := 3) (m := lat ea 3) ht1 (by omega) (by omega)).up (by omega)) ?_
                  show ∀ V', fbIs V' B ex sc (inS wy (lat ea 3) ((awayG (slO wy s.1 s.2.1 (gq s.2.1 i)).2 i).length - (i + 1).toNat) (i + 1).toNat _) → _
                  rw [el, el0]
                  exact hq2
            · refine gX_aloadn dX7_slipIn_42 rfl ?_
              refine gX_virt (J := iX3_lemmaLength) (av := []) (a := (B + 10 + 3 * i)) (st := []) dX7_slipIn_43 lkX7_149 kX3_lemmaLength vX3_lemmaLength (gFit_m (by decide)) (hB.2.2.2.2.2.2.2.2.2.2.2 i q0 (by omega)).2.1 rfl rfl (Nat.le_of_ble_eq_true rfl) (Nat.zero_le _) (Nat.zero_le _) rfl ?_
              refine c_lemmaLength (hB.2.2.2.2.2.2.2.2.2.2.2 i q0 (by omega)).2 (hs1.1.gl q0 (by omega)) ⟨⟨by omega, by omega⟩, ⟨by omega, by omega⟩⟩ ?_
              show gX l E _ 46 [some (ga B), some (ga H), some (gi i), some (ga (B + 10 + 3 * i)), j4, j5] [gi (lml (gq s.2.1 i))] (K, R, V1) _ _
              refine gX_goto (tgt := 50) dX7_slipIn_46 (by decide) ?_
              refine gX_istore dX7_slipIn_50 (show (4 : Nat) < 6 from by decide) (ls2 := [some (ga B), some (ga H), some (gi i), some (ga (B + 10 + 3 * i)), some (gi (lml (gq s.2.1 i))), j5]) rfl ?_
              refine gX_aloadn dX7_slipIn_52 rfl ?_
              refine gX_gR 0 dX7_slipIn_53 fdX7_77 rfl rfl hB.1 hB.2.1 ?_
              refine gX_virt (J := iX6_length) (av := []) (a := (B + 1)) (st := []) dX7_slipIn_56 lkX7_70 kX6_length vX6_length (gFit_m (by decide)) hB.2.2.2.2.2.2.1.1 rfl rfl (Nat.le_of_ble_eq_true rfl) (Nat.zero_le _) (Nat.zero_le _) rfl ?_
              refine q_Row_length hB.2.2.2.2.2.2.1 hs1.1.1 ?_
              show gX l E _ 59 [some (ga B), some (ga H), some (gi i), some (ga (B + 10 + 3 * i)), some (gi (lml (gq s.2.1 i))), j5] [gi s.1.length] (K, R, V1) _ _
              refine gX_iload dX7_slipIn_59 rfl ?_
              refine gX_isub dX7_slipIn_61 ⟨by omega, by omega⟩ ?_
              refine gX_aloadn dX7_slipIn_62 rfl ?_
              refine gX_gR 0 dX7_slipIn_63 fdX7_152 rfl rfl (hB.2.2.2.2.2.2.2.2.2.2.2 i q0 (by omega)).2.1 (hB.2.2.2.2.2.2.2.2.2.2.2 i q0 (by omega)).2.2.1 ?_
              refine gX_virt (J := iX6_length) (av := []) (a := (B + 10 + 3 * i + 1)) (st := [gi (s.1.length - (lml (gq s.2.1 i)))]) dX7_slipIn_66 lkX7_70 kX6_length vX6_length (gFit_m (by decide)) (hB.2.2.2.2.2.2.2.2.2.2.2 i q0 (by omega)).2.2.2.1 rfl rfl (Nat.le_of_ble_eq_true rfl) (Nat.zero_le _) (Nat.zero_le _) rfl ?_
              refine q_Row_length (hB.2.2.2.2.2.2.2.2.2.2.2 i q0 (by omega)).2.2.2 (hs1.1.gl q0 (by omega)).2.2.2.2.2.2 ?_
              show gX l E _ 69 [some (ga B), some (ga H), some (gi i), some (ga (B + 10 + 3 * i)), some (gi (lml (gq s.2.1 i))), j5] [gi ((gq s.2.1 i).2.2.2.2.2.length), gi (s.1.length - (lml (gq s.2.1 i)))] (K, R, V1) _ _
              refine gX_iadd dX7_slipIn_69 ⟨by omega, by omega⟩ ?_
              refine gX_istore dX7_slipIn_70 (show (5 : Nat) < 6 from by decide) (ls2 := [some (ga B), some (ga H), some (gi i), some (ga (B + 10 + 3 * i)), some (gi (lml (gq s.2.1 i))), some (gi ((s.1.length - (lml (gq s.2.1 i))) + ((gq s.2.1 i).2.2.2.2.2.length)))]) rfl ?_
              refine gX_iload dX7_slipIn_72 rfl ?_
              refine gX_bipush dX7_slipIn_74 (by decide) ⟨by decide, by decide⟩ ?_
              refine gX_icmpgt (tgt := 102) dX7_slipIn_76 (by decide) (fun w8 => ?_) (fun w8 => ?_)
              · refine gX_iinc dX7_slipIn_102 rfl (show (2 : Nat) < 6 from by decide) ⟨by omega, by omega⟩ (ls2 := [some (ga B), some (ga H), some (gi (i + 1)), some (ga (B + 10 + 3 * i)), some (gi (lml (gq s.2.1 i))), some (gi ((s.1.length - (lml (gq s.2.1 i))) + ((gq s.2.1 i).2.2.2.2.2.length)))]) rfl ?_
                refine gX_goto (tgt := 2) dX7_slipIn_105 (by decide) ?_
                have ec : inC wy s i = false := by
                  unfold inC
                  simp only [Bool.and_eq_false_iff, decide_eq_false_iff_not]
                  refine Or.inr ?_
                  rw [if_pos (by omega)]
                  omega
                have ek : s.2.1.length - i.toNat = (s.2.1.length - (i + 1).toNat) + 1 := by omega
                have e1 : inS wy (lat ea 3) (s.2.1.length - i.toNat) i.toNat s = inS wy (lat ea 3) (s.2.1.length - (i + 1).toNat) (i + 1).toNat s := by
                  rw [ek]
                  show (if _ then (if _ then _ else _) else _) = _
                  rw [Int.toNat_of_nonneg q0, show i.toNat + 1 = (i + 1).toNat by omega]
                  rw [if_neg (by rw [ec]; decide)]
                rw [e1] at hq2
                exact ih (i + 1) _ _ _ V1 s _ _ (by omega) (by omega) (by omega) q2 hs1 hh1 hf1 hg1 hw1 hr1 (hc1.up (by omega)) (ht1.up (by omega)) hq2
              · refine gX_iconst dX7_slipIn_79 ⟨by decide, by decide⟩ ?_
                refine gX_aloadn dX7_slipIn_80 rfl ?_
                refine gX_aloadn dX7_slipIn_81 rfl ?_
                refine gX_stat (J := iX7_chance) (av := [gi 3, ga B, ga H]) (st := []) dX7_slipIn_82 lkX7_105 kX7_chance sX7_chance (gFit_m (by decide)) rfl (Nat.le_of_ble_eq_true rfl) (Nat.zero_le _) (Nat.zero_le _) rfl ?_
                refine c_chance hB hH hs1.2 hh1 (by omega) (by omega) (hc1.up (by omega)) (ht1.up (by omega)) (fun V2 hm2 hf2 => ?_)
                show gX l E _ 85 [some (ga B), some (ga H), some (gi i), some (ga (B + 10 + 3 * i)), some (gi (lml (gq s.2.1 i))), some (gi ((s.1.length - (lml (gq s.2.1 i))) + ((gq s.2.1 i).2.2.2.2.2.length)))] [gi (tkn (lat s.2.2.1 3 + 1) (lat ea 3))] (K, R, V2) _ _
                have o3 := tkn_01 (lat s.2.2.1 3 + 1) (lat ea 3)
                refine gX_ifeq (tgt := 102) dX7_slipIn_85 (by decide) (fun w9 => ?_) (fun w9 => ?_)
                · refine gX_iinc dX7_slipIn_102 rfl (show (2 : Nat) < 6 from by decide) ⟨by omega, by omega⟩ (ls2 := [some (ga B), some (ga H), some (gi (i + 1)), some (ga (B + 10 + 3 * i)), some (gi (lml (gq s.2.1 i))), some (gi ((s.1.length - (lml (gq s.2.1 i))) + ((gq s.2.1 i).2.2.2.2.2.length)))]) rfl ?_
                  refine gX_goto (tgt := 2) dX7_slipIn_105 (by decide) ?_
                  have ec : inC wy s i = true := by
                    unfold inC
                    simp only [Bool.and_eq_true, decide_eq_true_eq]
                    refine ⟨⟨by omega, by omega⟩, ?_⟩
                    rw [if_pos (by omega)]
                    omega
                  have ek : s.2.1.length - i.toNat = (s.2.1.length - (i + 1).toNat) + 1 := by omega
                  have e1 : inS wy (lat ea 3) (s.2.1.length - i.toNat) i.toNat s = inS wy (lat ea 3) (s.2.1.length - (i + 1).toNat) (i + 1).toNat (tcS 3 (lat ea 3) s) := by
                    rw [ek]
                    show (if _ then (if _ then _ else _) else _) = _
                    rw [Int.toNat_of_nonneg q0, show i.toNat + 1 = (i + 1).toNat by omega]
                    rw [if_pos ec, if_neg (by omega)]
                  rw [e1] at hq2
                  exact ih (i + 1) _ _ _ V2 (tcS 3 (lat ea 3) s) _ _ (by show (s.2.1.length : Int) - (i + 1) < _; omega) (by omega) (by show i + 1 ≤ (s.2.1.length : Int); omega) q2 ⟨hs1.1.m hf2, hm2⟩ (hh1.fr hf2 (by omega)) (hf1.trans (hf2.wide (by omega) (by omega))) hg1 hw1 hr1 ((tcS_c (h := 3) (m := lat ea 3) hc1 (by omega) (by omega)).up (by omega)) ((tcS_t (h := 3) (m := lat ea 3) ht1 (by omega) (by omega)).up (by omega)) hq2
                · refine gX_aloadn dX7_slipIn_88 rfl ?_
                  refine gX_aloadn dX7_slipIn_89 rfl ?_
                  refine gX_aloadn dX7_slipIn_90 rfl ?_
                  refine gX_gI 5 dX7_slipIn_91 fdX7_146 rfl (Or.inl rfl) hH.1 ?_
                  rw [(hh1.fr hf2 (by omega)).2.2.2.2.2]
                  refine gX_stat (J := iX7_slipOne) (av := [ga B, ga (B + 10 + 3 * i), gi wy]) (st := []) dX7_slipIn_94 lkX7_155 kX7_slipOne sX7_slipOne (gFit_m (by decide)) rfl (Nat.le_of_ble_eq_true rfl) (Nat.zero_le _) (Nat.zero_le _) rfl ?_
                  refine c_slipOne hB (hs1.1.m hf2) q0 (by omega) (hg1.up (by omega)) (hg1.up (by omega)) (by omega) (by omega) (by omega) (by omega) (by first | (rw [if_pos (by omega)]; omega) | (rw [if_neg (by omega)]; omega)) (fun V3 hb3 hf3 => ?_)
                  show gX l E _ 97 [some (ga B), some (ga H), some (gi i), some (ga (B + 10 + 3 * i)), some (gi (lml (gq s.2.1 i))), some (gi ((s.1.length - (lml (gq s.2.1 i))) + ((gq s.2.1 i).2.2.2.2.2.length)))] [] (K, R, V3) _ _
                  refine gX_aloadn dX7_slipIn_97 rfl ?_
                  refine gX_iloadn dX7_slipIn_98 rfl ?_
                  refine gX_virt (J := iX1_takeAway) (av := [gi i]) (a := B) (st := []) dX7_slipIn_99 lkX7_136 kX1_takeAway vX1_takeAway (gFit_m (by decide)) hB.1 rfl rfl (Nat.le_of_ble_eq_true rfl) (Nat.zero_le _) (Nat.zero_le _) rfl ?_
                  refine c_takeAway hB hb3 q0 (by rw [slO_gl]; omega) (fun V4 hb4 hf4 => ?_)
                  show gX l E _ 102 [some (ga B), some (ga H), some (gi i), some (ga (B + 10 + 3 * i)), some (gi (lml (gq s.2.1 i))), some (gi ((s.1.length - (lml (gq s.2.1 i))) + ((gq s.2.1 i).2.2.2.2.2.length)))] [] (K, R, V4) _ _
                  refine gX_iinc dX7_slipIn_102 rfl (show (2 : Nat) < 6 from by decide) ⟨by omega, by omega⟩ (ls2 := [some (ga B), some (ga H), some (gi (i + 1)), some (ga (B + 10 + 3 * i)), some (gi (lml (gq s.2.1 i))), some (gi ((s.1.length - (lml (gq s.2.1 i))) + ((gq s.2.1 i).2.2.2.2.2.length)))]) rfl ?_
                  refine gX_goto (tgt := 2) dX7_slipIn_105 (by decide) ?_
                  have ec : inC wy s i = true := by
                    unfold inC
                    simp only [Bool.and_eq_true, decide_eq_true_eq]
                    refine ⟨⟨by omega, by omega⟩, ?_⟩
                    rw [if_pos (by omega)]
                    omega
                  have ek : s.2.1.length - i.toNat = (s.2.1.length - (i + 1).toNat) + 1 := by omega
                  have e1 : inS wy (lat ea 3) (s.2.1.length - i.toNat) i.toNat s = inS wy (lat ea 3) (s.2.1.length - (i + 1).toNat) (i + 1).toNat ((slO wy s.1 s.2.1 (gq s.2.1 i)).1, awayG (slO wy s.1 s.2.1 (gq s.2.1 i)).2 i, (tcS 3 (lat ea 3) s).2.2) := by
                    rw [ek]
                    show (if _ then (if _ then _ else _) else _) = _
                    rw [Int.toNat_of_nonneg q0, show i.toNat + 1 = (i + 1).toNat by omega]
                    rw [if_pos ec, if_pos (by omega)]
                  rw [e1] at hq2
                  have el0 := slO_gl wy s.1 s.2.1 (gq s.2.1 i)
                  have el := awayG_len (slO wy s.1 s.2.1 (gq s.2.1 i)).2 i
                  have hwS := slO_W (wy := wy) hw1 hr1 (gq_mem (gs := s.2.1) (g := i) q0 (by omega)) (by omega)
                  refine ih (i + 1) _ _ _ V4 ((slO wy s.1 s.2.1 (gq s.2.1 i)).1, awayG (slO wy s.1 s.2.1 (gq s.2.1 i)).2 i, (tcS 3 (lat ea 3) s).2.2) _ _ (by show ((awayG (slO wy s.1 s.2.1 (gq s.2.1 i)).2 i).length : Int) - (i + 1) < _; omega) (by omega) (by show i + 1 ≤ ((awayG (slO wy s.1 s.2.1 (gq s.2.1 i)).2 i).length : Int); omega) (by show (awayG (slO wy s.1 s.2.1 (gq s.2.1 i)).2 i).length = _; omega) ⟨hb4, (hm2.b hf3).b (hf4.b (by omega) (by omega))⟩ (((hh1.fr hf2 (by omega)).fr hf3.out (by omega)).fr (hf4.wide (lo2 := B) (by omega) (Int.le_refl _)) (by omega)) (hf1.trans ((hf2.wide (by omega) (by omega)).trans (hf3.out.trans (hf4.wide (by omega) (by omega))))) ((slO_bd hg1 hwS hb3.1.2.1).away q0 (by omega)) (hwS.away q0 (by omega)) ((slO_rw hr1).away q0 (by omega)) ((tcS_c (h := 3) (m := lat ea 3) hc1 (by omega) (by omega)).up (by omega)) ((tcS_t (h := 3) (m := lat ea 3) ht1 (by omega) (by omega)).up (by omega)) ?_
                  show ∀ V', fbIs V' B ex sc (inS wy (lat ea 3) ((awayG (slO wy s.1 s.2.1 (gq s.2.1 i)).2 i).length - (i + 1).toNat) (i + 1).toNat _) → _
                  rw [el, el0]
                  exact hq2
  refine gX_iconst dX7_slipIn_0 ⟨by decide, by decide⟩ ?_
  refine gX_istoren dX7_slipIn_1 (show (2 : Nat) < 6 from by decide) (ls2 := [some (ga B), some (ga H), some (gi 0), none, none, none]) rfl ?_
  exact lp (s0.2.1.length + 1) 0 none none none V s0 _ _ (by omega) (by omega) (by omega) rfl hs hh gFr.rf hg hw hr (hc.up (by omega)) (ht.up (by omega)) hQ
end SCRIBE5
