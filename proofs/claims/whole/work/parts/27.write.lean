/-! Scribe.write. Written by wip/whole/tools/mk_scribe9.py. -/
def wr1 (fr to fe : List Int) (s : cS) : cS := foS fr to fe s
def wr2 (ea : List Int) (rc : Int) (s : cS) : cS := if lat ea 1 = -1 then s else skS rc (lat ea 1) 40 0 s
def wr3 (ea : List Int) (s : cS) : cS := if lat ea 2 = -1 then s else tuS (lat ea 2) 41 0 s
def wr4 (ea : List Int) (wy : Int) (s : cS) : cS := if lat ea 3 = -1 then s else inS wy (lat ea 3) s.2.1.length 0 s
def wr5 (ea : List Int) (s : cS) : cS := if lat ea 4 = -1 then s else drS (lat ea 4) s.2.1.length 0 s
def wr6 (ea : List Int) (s : cS) : cS := if lat ea 5 = -1 then s else mvS (lat ea 5) s.2.1.length 0 s
def wrS (fr to fe ea : List Int) (rc wy : Int) (s : cS) : cS := wr6 ea (wr5 ea (wr4 ea wy (wr3 ea (wr2 ea rc (wr1 fr to fe s)))))
def wrE (fr to fe ea : List Int) (rc wy : Int) (s : cS) : cS := ((wrS fr to fe ea rc wy s).1, reN (wrS fr to fe ea rc wy s).2.1, (wrS fr to fe ea rc wy s).2.2)
theorem wr2_h {ea : List Int} {rc : Int} {s : cS} (h : wfS s) : hab 40 s (wr2 ea rc s) := by
  unfold wr2; split
  · exact hab.rf h (by omega)
  · exact skS_h 40 0 s (by omega) h
theorem wr3_h {ea : List Int} {s : cS} (h : wfS s) : hab 41 s (wr3 ea s) := by
  unfold wr3; split
  · exact hab.rf h (by omega)
  · exact tuS_h 41 0 s h
theorem hab.up {a b : Int} {s s1 : cS} (h : hab a s s1) (hz : a ≤ b) : hab b s s1 := ⟨h.1, h.2.1, fun c h1 h2 => by have := h.2.2 c h1 h2; exact ⟨this.1.up (by omega), this.2.up (by omega)⟩⟩
theorem wr4_h {ea : List Int} {wy : Int} {s : cS} (hw : lat ea 3 ≠ -1 → 0 ≤ wy ∧ wy ≤ 2) (h : wfS s) : hab 20 s (wr4 ea wy s) := by
  have := h.2.2.2.2.2
  unfold wr4; split
  next => exact hab.rf h (by omega)
  next c => exact (inS_h (hw c) s.2.1.length 0 s (by omega) h).up (by omega)
theorem wr5_h {ea : List Int} {s : cS} (h : wfS s) : hab 20 s (wr5 ea s) := by
  have := h.2.2.2.2.2
  unfold wr5; split
  · exact hab.rf h (by omega)
  · exact (drS_h s.2.1.length 0 s (by omega) h).up (by omega)
theorem wr6_h {ea : List Int} {s : cS} (h : wfS s) : hab 20 s (wr6 ea s) := by
  have := h.2.2.2.2.2
  unfold wr6; split
  · exact hab.rf h (by omega)
  · exact (mvS_h s.2.1.length 0 s (by omega) h).up (by omega)
theorem wr1_h {fr to fe : List Int} {s : cS} (hl : fr.length ≤ 4) (h : wfS s) (h8 : ∀ q ∈ s.2.1, q.2.2.2.2.2.length ≤ 8) (hc : cBd s.2.2.1 0) (ht : cBd s.2.2.2 0) : wfS (wr1 fr to fe s) ∧ (wr1 fr to fe s).2.1.length = s.2.1.length ∧ cBd (wr1 fr to fe s).2.2.1 800 ∧ cBd (wr1 fr to fe s).2.2.2 800 := by
  have k := foS_lk fr to fe s
  have x := foS_tx fr to fe s
  exact ⟨⟨k.spW x h.1, k.rwW h.2.1, k.hoW h.2.2.1, k.gBd h.2.2.2.1, by show (foS fr to fe s).1.length ≤ 40; rw [x]; exact h.2.2.2.2.1, by show (foS fr to fe s).2.1.length ≤ 20; rw [k.len]; exact h.2.2.2.2.2⟩, k.len, foS_B hl h.2.2.2.2.1 h.2.2.2.2.2 h8 hc ht⟩
section SCRIBE9
variable {l : Launch} {E : gE} {d : Nat} {K : List gK} {R V : Int → Int → Int} {B H S g : Int} {Q : gQ} {tx : List Int} {gs : List gG} {q : gG} {ex sc rc wy : Int} {ch tk fr to fe ea : List Int}
set_option maxRecDepth 4000 in
theorem c_write {s0 : cS} (hS : scK K R S) (hB : bkK K R B) (hH : hdK K R H) (hd1 : H + 9 ≤ B ∨ B + 70 ≤ H) (hd2 : S + 3 ≤ B ∨ B + 70 ≤ S) (hd3 : S + 3 ≤ H ∨ H + 9 ≤ S) (hs : fbIs V B ex sc s0) (hh : hdIs V H fr to fe ea rc wy) (hw : wfS s0) (h8 : ∀ q ∈ s0.2.1, q.2.2.2.2.2.length ≤ 8) (hc : cBd s0.2.2.1 0) (ht : cBd s0.2.2.2 0) (hrc : -1 ≤ rc ∧ rc ≤ 100) (hwy : lat ea 3 ≠ -1 → 0 ≤ wy ∧ wy ≤ 2) (hQ : ∀ V', fbIs V' B ex sc (wrE fr to fe ea rc wy s0) → wFr V V' B S → Q none (K, R, V')) : gC l E (d + 6) iX7_write [ga S, ga B, ga H] (K, R, V) Q := by
  refine gC_of kX7_write (ls := [some (ga S), some (ga B), some (ga H)]) rfl (Nat.le_of_ble_eq_true rfl) ?_
  have hfl := hh.1.2.1
  have w1 := wr1_h (to := to) (fe := fe) hfl hw h8 hc ht
  have v2 := wr2_h (ea := ea) (rc := rc) w1.1
  have w2 : wfS (wr2 ea rc (wr1 fr to fe s0)) ∧ (wr2 ea rc (wr1 fr to fe s0)).2.1.length = s0.2.1.length ∧ cBd (wr2 ea rc (wr1 fr to fe s0)).2.2.1 840 ∧ cBd (wr2 ea rc (wr1 fr to fe s0)).2.2.2 840 := ⟨v2.1, v2.2.1.trans w1.2.1, v2.2.2 800 w1.2.2.1 w1.2.2.2⟩
  have v3 := wr3_h (ea := ea) w2.1
  have w3 : wfS (wr3 ea (wr2 ea rc (wr1 fr to fe s0))) ∧ (wr3 ea (wr2 ea rc (wr1 fr to fe s0))).2.1.length = s0.2.1.length ∧ cBd (wr3 ea (wr2 ea rc (wr1 fr to fe s0))).2.2.1 881 ∧ cBd (wr3 ea (wr2 ea rc (wr1 fr to fe s0))).2.2.2 881 := ⟨v3.1, v3.2.1.trans w2.2.1, v3.2.2 840 w2.2.2.1 w2.2.2.2⟩
  have v4 := wr4_h (ea := ea) hwy w3.1
  have w4 : wfS (wr4 ea wy (wr3 ea (wr2 ea rc (wr1 fr to fe s0)))) ∧ (wr4 ea wy (wr3 ea (wr2 ea rc (wr1 fr to fe s0)))).2.1.length = s0.2.1.length ∧ cBd (wr4 ea wy (wr3 ea (wr2 ea rc (wr1 fr to fe s0)))).2.2.1 901 ∧ cBd (wr4 ea wy (wr3 ea (wr2 ea rc (wr1 fr to fe s0)))).2.2.2 901 := ⟨v4.1, v4.2.1.trans w3.2.1, v4.2.2 881 w3.2.2.1 w3.2.2.2⟩
  have v5 := wr5_h (ea := ea) w4.1
  have w5 : wfS (wr5 ea (wr4 ea wy (wr3 ea (wr2 ea rc (wr1 fr to fe s0))))) ∧ (wr5 ea (wr4 ea wy (wr3 ea (wr2 ea rc (wr1 fr to fe s0))))).2.1.length = s0.2.1.length ∧ cBd (wr5 ea (wr4 ea wy (wr3 ea (wr2 ea rc (wr1 fr to fe s0))))).2.2.1 921 ∧ cBd (wr5 ea (wr4 ea wy (wr3 ea (wr2 ea rc (wr1 fr to fe s0))))).2.2.2 921 := ⟨v5.1, v5.2.1.trans w4.2.1, v5.2.2 901 w4.2.2.1 w4.2.2.2⟩
  have v6 := wr6_h (ea := ea) w5.1
  have w6 : wfS (wr6 ea (wr5 ea (wr4 ea wy (wr3 ea (wr2 ea rc (wr1 fr to fe s0)))))) ∧ (wr6 ea (wr5 ea (wr4 ea wy (wr3 ea (wr2 ea rc (wr1 fr to fe s0)))))).2.1.length = s0.2.1.length ∧ cBd (wr6 ea (wr5 ea (wr4 ea wy (wr3 ea (wr2 ea rc (wr1 fr to fe s0)))))).2.2.1 941 ∧ cBd (wr6 ea (wr5 ea (wr4 ea wy (wr3 ea (wr2 ea rc (wr1 fr to fe s0)))))).2.2.2 941 := ⟨v6.1, v6.2.1.trans w5.2.1, v6.2.2 921 w5.2.2.1 w5.2.2.2⟩
  have t5 : ∀ (V1 : Int → Int → Int) (bc bs : Nat), fbIs V1 B ex sc (wr6 ea (wr5 ea (wr4 ea wy (wr3 ea (wr2 ea rc (wr1 fr to fe s0)))))) → hdIs V1 H fr to fe ea rc wy → wFr V V1 B S → gX l E (gFm E (d + 6) iX7_write Q) 91 [some (ga S), some (ga B), some (ga H)] [] (K, R, V1) bc bs := by
    intro V1 bc bs hs1 hh1 hf1
    refine gX_aloadn dX7_write_91 rfl ?_
    refine gX_virt (J := iX1_numberAnew) (av := []) (a := B) (st := []) dX7_write_92 lkX7_48 kX1_numberAnew vX1_numberAnew (gFit_m (by decide)) hB.1 rfl rfl (Nat.le_of_ble_eq_true rfl) (Nat.zero_le _) (Nat.zero_le _) rfl ?_
    refine c_numberAnew hB hs1.1 w6.1.2.2.1 (fun V2 hb2 hf2 hg2 hk2 => ?_)
    show gX l E _ 95 [some (ga S), some (ga B), some (ga H)] [] (K, R, V2) _ _
    refine gX_vret dX7_write_95 rfl ?_
    exact hQ V2 ⟨hb2, ⟨by rw [hk2 6 (by omega)]; exact hs1.2.1, by rw [hk2 7 (by omega)]; exact hs1.2.2.1, hs1.2.2.2.1.kept (hg2 _ (by omega) (by omega)) (hg2 _ (by omega) (by omega)), hs1.2.2.2.2.kept (hg2 _ (by omega) (by omega)) (hg2 _ (by omega) (by omega))⟩⟩ (fun a g1 g2 g3 => (hf2 a g1).trans (hf1 a g1 g2 g3))
  have t4 : ∀ (V1 : Int → Int → Int) (bc bs : Nat), fbIs V1 B ex sc (wr5 ea (wr4 ea wy (wr3 ea (wr2 ea rc (wr1 fr to fe s0))))) → hdIs V1 H fr to fe ea rc wy → wFr V V1 B S → gX l E (gFm E (d + 6) iX7_write Q) 74 [some (ga S), some (ga B), some (ga H)] [] (K, R, V1) bc bs := by
    intro V1 bc bs hs1 hh1 hf1
    refine gX_aloadn dX7_write_74 rfl ?_
    refine gX_gR 3 dX7_write_75 fdX7_24 rfl rfl hH.1 hH.2.2.2.2.1 ?_
    refine gX_iconst dX7_write_78 ⟨by decide, by decide⟩ ?_
    refine gX_virt (J := iX6_at) (av := [gi 5]) (a := (H + 7)) (st := []) dX7_write_79 lkX7_29 kX6_at vX6_at (gFit_m (by decide)) hH.2.2.2.2.2.2.2.2.1 rfl rfl (Nat.le_of_ble_eq_true rfl) (Nat.zero_le _) (Nat.zero_le _) rfl ?_
    refine q_Row_at hH.2.2.2.2.2.2.2.2 hh1.2.2.2.1 ?_
    show gX l E _ 82 [some (ga S), some (ga B), some (ga H)] [gi (lat ea 5)] (K, R, V1) _ _
    refine gX_iconst dX7_write_82 ⟨by decide, by decide⟩ ?_
    refine gX_icmpeq (tgt := 91) dX7_write_83 (by decide) (fun u4_1 => ?_) (fun u4_1 => ?_)
    · have e1 : wr6 ea (wr5 ea (wr4 ea wy (wr3 ea (wr2 ea rc (wr1 fr to fe s0))))) = wr5 ea (wr4 ea wy (wr3 ea (wr2 ea rc (wr1 fr to fe s0)))) := if_pos (by omega)
      refine t5 V1 _ _ ?_ hh1 hf1
      rw [e1]
      exact hs1
    · refine gX_aloadn dX7_write_86 rfl ?_
      refine gX_aloadn dX7_write_87 rfl ?_
      refine gX_stat (J := iX7_move) (av := [ga B, ga H]) (st := []) dX7_write_88 lkX7_45 kX7_move sX7_move (gFit_m (by decide)) rfl (Nat.le_of_ble_eq_true rfl) (Nat.zero_le _) (Nat.zero_le _) rfl ?_
      refine c_move hB hH hd1 hs1 hh1 w5.1.2.2.2.1 (w5.2.2.1.up (by omega)) (w5.2.2.2.up (by omega)) (fun V2 hs2 hf2 => ?_)
      show gX l E _ 91 [some (ga S), some (ga B), some (ga H)] [] (K, R, V2) _ _
      refine t5 V2 _ _ ?_ (hh1.fr hf2 (by omega)) (hf1.trans (fun a g1 g2 g3 => hf2 a (by omega)))
      have e1 : wr6 ea (wr5 ea (wr4 ea wy (wr3 ea (wr2 ea rc (wr1 fr to fe s0))))) = _ := if_neg (by omega)
      rw [e1]
      exact hs2
  have t3 : ∀ (V1 : Int → Int → Int) (bc bs : Nat), fbIs V1 B ex sc (wr4 ea wy (wr3 ea (wr2 ea rc (wr1 fr to fe s0)))) → hdIs V1 H fr to fe ea rc wy → wFr V V1 B S → gX l E (gFm E (d + 6) iX7_write Q) 57 [some (ga S), some (ga B), some (ga H)] [] (K, R, V1) bc bs := by
    intro V1 bc bs hs1 hh1 hf1
    refine gX_aloadn dX7_write_57 rfl ?_
    refine gX_gR 3 dX7_write_58 fdX7_24 rfl rfl hH.1 hH.2.2.2.2.1 ?_
    refine gX_iconst dX7_write_61 ⟨by decide, by decide⟩ ?_
    refine gX_virt (J := iX6_at) (av := [gi 4]) (a := (H + 7)) (st := []) dX7_write_62 lkX7_29 kX6_at vX6_at (gFit_m (by decide)) hH.2.2.2.2.2.2.2.2.1 rfl rfl (Nat.le_of_ble_eq_true rfl) (Nat.zero_le _) (Nat.zero_le _) rfl ?_
    refine q_Row_at hH.2.2.2.2.2.2.2.2 hh1.2.2.2.1 ?_
    show gX l E _ 65 [some (ga S), some (ga B), some (ga H)] [gi (lat ea 4)] (K, R, V1) _ _
    refine gX_iconst dX7_write_65 ⟨by decide, by decide⟩ ?_
    refine gX_icmpeq (tgt := 74) dX7_write_66 (by decide) (fun u3_1 => ?_) (fun u3_1 => ?_)
    · have e1 : wr5 ea (wr4 ea wy (wr3 ea (wr2 ea rc (wr1 fr to fe s0)))) = wr4 ea wy (wr3 ea (wr2 ea rc (wr1 fr to fe s0))) := if_pos (by omega)
      refine t4 V1 _ _ ?_ hh1 hf1
      rw [e1]
      exact hs1
    · refine gX_aloadn dX7_write_69 rfl ?_
      refine gX_aloadn dX7_write_70 rfl ?_
      refine gX_stat (J := iX7_drop) (av := [ga B, ga H]) (st := []) dX7_write_71 lkX7_42 kX7_drop sX7_drop (gFit_m (by decide)) rfl (Nat.le_of_ble_eq_true rfl) (Nat.zero_le _) (Nat.zero_le _) rfl ?_
      refine c_drop hB hH hd1 hs1 hh1 (w4.2.2.1.up (by omega)) (w4.2.2.2.up (by omega)) (fun V2 hs2 hf2 => ?_)
      show gX l E _ 74 [some (ga S), some (ga B), some (ga H)] [] (K, R, V2) _ _
      refine t4 V2 _ _ ?_ (hh1.fr hf2 (by omega)) (hf1.trans (fun a g1 g2 g3 => hf2 a (by omega)))
      have e1 : wr5 ea (wr4 ea wy (wr3 ea (wr2 ea rc (wr1 fr to fe s0)))) = _ := if_neg (by omega)
      rw [e1]
      exact hs2
  have t2 : ∀ (V1 : Int → Int → Int) (bc bs : Nat), fbIs V1 B ex sc (wr3 ea (wr2 ea rc (wr1 fr to fe s0))) → hdIs V1 H fr to fe ea rc wy → wFr V V1 B S → gX l E (gFm E (d + 6) iX7_write Q) 40 [some (ga S), some (ga B), some (ga H)] [] (K, R, V1) bc bs := by
    intro V1 bc bs hs1 hh1 hf1
    refine gX_aloadn dX7_write_40 rfl ?_
    refine gX_gR 3 dX7_write_41 fdX7_24 rfl rfl hH.1 hH.2.2.2.2.1 ?_
    refine gX_iconst dX7_write_44 ⟨by decide, by decide⟩ ?_
    refine gX_virt (J := iX6_at) (av := [gi 3]) (a := (H + 7)) (st := []) dX7_write_45 lkX7_29 kX6_at vX6_at (gFit_m (by decide)) hH.2.2.2.2.2.2.2.2.1 rfl rfl (Nat.le_of_ble_eq_true rfl) (Nat.zero_le _) (Nat.zero_le _) rfl ?_
    refine q_Row_at hH.2.2.2.2.2.2.2.2 hh1.2.2.2.1 ?_
    show gX l E _ 48 [some (ga S), some (ga B), some (ga H)] [gi (lat ea 3)] (K, R, V1) _ _
    refine gX_iconst dX7_write_48 ⟨by decide, by decide⟩ ?_
    refine gX_icmpeq (tgt := 57) dX7_write_49 (by decide) (fun u2_1 => ?_) (fun u2_1 => ?_)
    · have e1 : wr4 ea wy (wr3 ea (wr2 ea rc (wr1 fr to fe s0))) = wr3 ea (wr2 ea rc (wr1 fr to fe s0)) := if_pos (by omega)
      refine t3 V1 _ _ ?_ hh1 hf1
      rw [e1]
      exact hs1
    · refine gX_aloadn dX7_write_52 rfl ?_
      refine gX_aloadn dX7_write_53 rfl ?_
      refine gX_stat (J := iX7_slipIn) (av := [ga B, ga H]) (st := []) dX7_write_54 lkX7_39 kX7_slipIn sX7_slipIn (gFit_m (by decide)) rfl (Nat.le_of_ble_eq_true rfl) (Nat.zero_le _) (Nat.zero_le _) rfl ?_
      refine c_slipIn hB hH hd1 hs1 hh1 (hwy (by omega)) w3.1.2.2.2.1 w3.1.1 w3.1.2.1 (w3.2.2.1.up (by omega)) (w3.2.2.2.up (by omega)) (fun V2 hs2 hf2 => ?_)
      show gX l E _ 57 [some (ga S), some (ga B), some (ga H)] [] (K, R, V2) _ _
      refine t3 V2 _ _ ?_ (hh1.fr hf2 (by omega)) (hf1.trans (fun a g1 g2 g3 => hf2 a (by omega)))
      have e1 : wr4 ea wy (wr3 ea (wr2 ea rc (wr1 fr to fe s0))) = _ := if_neg (by omega)
      rw [e1]
      exact hs2
  have t1 : ∀ (V1 : Int → Int → Int) (bc bs : Nat), fbIs V1 B ex sc (wr2 ea rc (wr1 fr to fe s0)) → hdIs V1 H fr to fe ea rc wy → wFr V V1 B S → gX l E (gFm E (d + 6) iX7_write Q) 23 [some (ga S), some (ga B), some (ga H)] [] (K, R, V1) bc bs := by
    intro V1 bc bs hs1 hh1 hf1
    refine gX_aloadn dX7_write_23 rfl ?_
    refine gX_gR 3 dX7_write_24 fdX7_24 rfl rfl hH.1 hH.2.2.2.2.1 ?_
    refine gX_iconst dX7_write_27 ⟨by decide, by decide⟩ ?_
    refine gX_virt (J := iX6_at) (av := [gi 2]) (a := (H + 7)) (st := []) dX7_write_28 lkX7_29 kX6_at vX6_at (gFit_m (by decide)) hH.2.2.2.2.2.2.2.2.1 rfl rfl (Nat.le_of_ble_eq_true rfl) (Nat.zero_le _) (Nat.zero_le _) rfl ?_
    refine q_Row_at hH.2.2.2.2.2.2.2.2 hh1.2.2.2.1 ?_
    show gX l E _ 31 [some (ga S), some (ga B), some (ga H)] [gi (lat ea 2)] (K, R, V1) _ _
    refine gX_iconst dX7_write_31 ⟨by decide, by decide⟩ ?_
    refine gX_icmpeq (tgt := 40) dX7_write_32 (by decide) (fun u1_1 => ?_) (fun u1_1 => ?_)
    · have e1 : wr3 ea (wr2 ea rc (wr1 fr to fe s0)) = wr2 ea rc (wr1 fr to fe s0) := if_pos (by omega)
      refine t2 V1 _ _ ?_ hh1 hf1
      rw [e1]
      exact hs1
    · refine gX_aloadn dX7_write_35 rfl ?_
      refine gX_aloadn dX7_write_36 rfl ?_
      refine gX_stat (J := iX7_turn) (av := [ga B, ga H]) (st := []) dX7_write_37 lkX7_36 kX7_turn sX7_turn (gFit_m (by decide)) rfl (Nat.le_of_ble_eq_true rfl) (Nat.zero_le _) (Nat.zero_le _) rfl ?_
      refine c_turn hB hH hd1 hs1 hh1 (w2.2.2.1.up (by omega)) (w2.2.2.2.up (by omega)) (fun V2 hs2 hf2 => ?_)
      show gX l E _ 40 [some (ga S), some (ga B), some (ga H)] [] (K, R, V2) _ _
      refine t2 V2 _ _ ?_ (hh1.fr hf2 (by omega)) (hf1.trans (fun a g1 g2 g3 => hf2 a (by omega)))
      have e1 : wr3 ea (wr2 ea rc (wr1 fr to fe s0)) = _ := if_neg (by omega)
      rw [e1]
      exact hs2
  have t0 : ∀ (V1 : Int → Int → Int) (bc bs : Nat), fbIs V1 B ex sc (wr1 fr to fe s0) → hdIs V1 H fr to fe ea rc wy → wFr V V1 B S → gX l E (gFm E (d + 6) iX7_write Q) 6 [some (ga S), some (ga B), some (ga H)] [] (K, R, V1) bc bs := by
    intro V1 bc bs hs1 hh1 hf1
    refine gX_aloadn dX7_write_6 rfl ?_
    refine gX_gR 3 dX7_write_7 fdX7_24 rfl rfl hH.1 hH.2.2.2.2.1 ?_
    refine gX_iconst dX7_write_10 ⟨by decide, by decide⟩ ?_
    refine gX_virt (J := iX6_at) (av := [gi 1]) (a := (H + 7)) (st := []) dX7_write_11 lkX7_29 kX6_at vX6_at (gFit_m (by decide)) hH.2.2.2.2.2.2.2.2.1 rfl rfl (Nat.le_of_ble_eq_true rfl) (Nat.zero_le _) (Nat.zero_le _) rfl ?_
    refine q_Row_at hH.2.2.2.2.2.2.2.2 hh1.2.2.2.1 ?_
    show gX l E _ 14 [some (ga S), some (ga B), some (ga H)] [gi (lat ea 1)] (K, R, V1) _ _
    refine gX_iconst dX7_write_14 ⟨by decide, by decide⟩ ?_
    refine gX_icmpeq (tgt := 23) dX7_write_15 (by decide) (fun u0_1 => ?_) (fun u0_1 => ?_)
    · have e1 : wr2 ea rc (wr1 fr to fe s0) = wr1 fr to fe s0 := if_pos (by omega)
      refine t1 V1 _ _ ?_ hh1 hf1
      rw [e1]
      exact hs1
    · refine gX_aloadn dX7_write_18 rfl ?_
      refine gX_aloadn dX7_write_19 rfl ?_
      refine gX_stat (J := iX7_skip) (av := [ga B, ga H]) (st := []) dX7_write_20 lkX7_33 kX7_skip sX7_skip (gFit_m (by decide)) rfl (Nat.le_of_ble_eq_true rfl) (Nat.zero_le _) (Nat.zero_le _) rfl ?_
      refine c_skip hB hH hd1 hs1 hh1 hrc.1 hrc.2 w1.1.2.2.2.1 (w1.2.2.1.up (by omega)) (w1.2.2.2.up (by omega)) (fun V2 hs2 hf2 => ?_)
      show gX l E _ 23 [some (ga S), some (ga B), some (ga H)] [] (K, R, V2) _ _
      refine t1 V2 _ _ ?_ (hh1.fr hf2 (by omega)) (hf1.trans (fun a g1 g2 g3 => hf2 a (by omega)))
      have e1 : wr2 ea rc (wr1 fr to fe s0) = _ := if_neg (by omega)
      rw [e1]
      exact hs2
  refine gX_aloadn dX7_write_0 rfl ?_
  refine gX_aloadn dX7_write_1 rfl ?_
  refine gX_aloadn dX7_write_2 rfl ?_
  refine gX_virt (J := iX7_putForOthers) (av := [ga B, ga H]) (a := S) (st := []) dX7_write_3 lkX7_20 kX7_putForOthers vX7_putForOthers (gFit_m (by decide)) hS.1 rfl rfl (Nat.le_of_ble_eq_true rfl) (Nat.zero_le _) (Nat.zero_le _) rfl ?_
  refine c_putFor hS hB hH hd1 hd2 hd3 hs hh hc ht (fun V1 hs1 hh1 hf1 => ?_)
  show gX l E _ 6 [some (ga S), some (ga B), some (ga H)] [] (K, R, V1) _ _
  exact t0 V1 _ _ hs1 hh1 hf1
end SCRIBE9
