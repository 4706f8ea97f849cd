/-! Told.tokenIs; HandReader. Written by wip/whole/tools/mk_hand.py. -/
def tiF (ys : List Int) (tok : Int) (i : Nat) : Nat → Int → Bool
  | 0, _ => true
  | n + 1, k => if lat ys (tok + k) = sCh i k.toNat then tiF ys tok i n (k + 1) else false
def tkIs (ys : List Int) (t : tS) (i : Nat) : Bool := if t.1 - t.2.1 = sLn i then tiF ys t.2.1 i (sLn i) 0 else false
section HANDS
variable {l : Launch} {E : gE} {d : Nat} {K : List gK} {R V : Int → Int → Int} {T H : Int} {Q : gQ} {ys : List Int} {t : tS} {m : gM}
theorem c_sCharAtI {i : Nat} {k : Int} (hi : i < 9) (h0 : 0 ≤ k) (hk : k < sLn i) (hQ : Q (some (gi (sCh i k.toNat))) m) : gC l E (d + 4) iJ0_charAt_5068e [ga (1000000 + (i : Int)), gi k] m Q := by
  obtain ⟨n, rfl⟩ := Int.eq_ofNat_of_zero_le h0
  exact c_sCharAt hi (by omega) hQ
set_option maxRecDepth 4000 in
theorem c_tokenIs {i : Nat} (hi : i < 9) (hT : toK K R T) (ht : toIs V T ys t) (hb : -1000 ≤ t.1 ∧ t.1 ≤ 1000 ∧ -1000 ≤ t.2.1 ∧ t.2.1 ≤ 1000) (hQ : Q (some (gi (b2i (tkIs ys t i)))) (K, R, V)) : gC l E (d + 5) iX8_tokenIs [ga T, ga (1000000 + (i : Int))] (K, R, V) Q := by
  refine gC_of kX8_tokenIs (ls := [some (ga T), some (ga (1000000 + (i : Int))), none]) rfl (Nat.le_of_ble_eq_true rfl) ?_
  have hsb := sLn_bd i hi
  have lp : ∀ (jj : Nat) (k : Int) (bc bs : Nat), (sLn i : Int) - k < (jj : Int) → 0 ≤ k → k ≤ sLn i → (Q (some (gi (b2i (tiF ys t.2.1 i (sLn i - k.toNat) k)))) (K, R, V)) → gX l E (gFm E (d + 5) iX8_tokenIs Q) 20 [some (ga T), some (ga (1000000 + (i : Int))), some (gi k)] [] (K, R, V) bc bs := by
    intro jj
    induction jj with
    | zero =>
      intro k bc bs hj q0 q1 hq2
      exfalso; omega
    | succ jj ih =>
      intro k bc bs hj q0 q1 hq2
      refine gX_iloadn dX8_tokenIs_20 rfl ?_
      refine gX_aloadn dX8_tokenIs_21 rfl ?_
      refine gX_virS (J := iJ0_length_8abf5) (i := i) (av := []) (st := [gi k]) dX8_tokenIs_22 mlX8_54 kJ0_length_8abf5 vJ0_length_8abf5 (gFit_m (by decide)) hi rfl rfl (Nat.le_of_ble_eq_true rfl) (Nat.zero_le _) (Nat.zero_le _) rfl ?_
      refine c_sLength hi ?_
      show gX l E _ 25 [some (ga T), some (ga (1000000 + (i : Int))), some (gi k)] [gi (sLn i), gi k] (K, R, V) _ _
      refine gX_icmpge (tgt := 57) dX8_tokenIs_25 (by decide) (fun w1 => ?_) (fun w1 => ?_)
      · refine gX_iconst dX8_tokenIs_57 ⟨by decide, by decide⟩ ?_
        refine gX_iret dX8_tokenIs_58 (Or.inr ⟨rfl, Or.inr rfl⟩) ?_
        have ei : sLn i - k.toNat = 0 := by omega
        rw [ei] at hq2
        exact hq2
      · refine gX_aloadn dX8_tokenIs_28 rfl ?_
        refine gX_gR 0 dX8_tokenIs_29 fdX8_14 rfl rfl hT.1 hT.2.1 ?_
        refine gX_aloadn dX8_tokenIs_32 rfl ?_
        refine gX_gI 2 dX8_tokenIs_33 fdX8_24 rfl (Or.inl rfl) hT.1 ?_
        rw [ht.2.1]
        refine gX_iloadn dX8_tokenIs_36 rfl ?_
        refine gX_iadd dX8_tokenIs_37 ⟨by omega, by omega⟩ ?_
        refine gX_virt (J := iX6_at) (av := [gi (t.2.1 + k)]) (a := (T + 1)) (st := []) dX8_tokenIs_38 lkX8_37 kX6_at vX6_at (gFit_m (by decide)) hT.2.2.1 rfl rfl (Nat.le_of_ble_eq_true rfl) (Nat.zero_le _) (Nat.zero_le _) rfl ?_
        refine q_Row_at hT.2.2 ht.2.2.2.2 ?_
        show gX l E _ 41 [some (ga T), some (ga (1000000 + (i : Int))), some (gi k)] [gi (lat ys (t.2.1 + k))] (K, R, V) _ _
        refine gX_aloadn dX8_tokenIs_41 rfl ?_
        refine gX_iloadn dX8_tokenIs_42 rfl ?_
        refine gX_virS (J := iJ0_charAt_5068e) (i := i) (av := [gi k]) (st := [gi (lat ys (t.2.1 + k))]) dX8_tokenIs_43 mlX8_57 kJ0_charAt_5068e vJ0_charAt_5068e (gFit_m (by decide)) hi rfl rfl (Nat.le_of_ble_eq_true rfl) (Nat.zero_le _) (Nat.zero_le _) rfl ?_
        refine c_sCharAtI hi q0 (by omega) ?_
        show gX l E _ 46 [some (ga T), some (ga (1000000 + (i : Int))), some (gi k)] [gi (sCh i k.toNat), gi (lat ys (t.2.1 + k))] (K, R, V) _ _
        refine gX_icmpeq (tgt := 51) dX8_tokenIs_46 (by decide) (fun w2 => ?_) (fun w2 => ?_)
        · refine gX_iinc dX8_tokenIs_51 rfl (show (2 : Nat) < 3 from by decide) ⟨by omega, by omega⟩ (ls2 := [some (ga T), some (ga (1000000 + (i : Int))), some (gi (k + 1))]) rfl ?_
          refine gX_goto (tgt := 20) dX8_tokenIs_54 (by decide) ?_
          have ek : sLn i - k.toNat = (sLn i - (k + 1).toNat) + 1 := by omega
          have e1 : tiF ys t.2.1 i (sLn i - k.toNat) k = tiF ys t.2.1 i (sLn i - (k + 1).toNat) (k + 1) := by
            rw [ek]
            exact if_pos (by omega)
          rw [e1] at hq2
          exact ih (k + 1) _ _ (by omega) (by omega) (by omega) hq2
        · refine gX_iconst dX8_tokenIs_49 ⟨by decide, by decide⟩ ?_
          refine gX_iret dX8_tokenIs_50 (Or.inr ⟨rfl, Or.inl rfl⟩) ?_
          have ek : sLn i - k.toNat = (sLn i - (k + 1).toNat) + 1 := by omega
          have e1 : tiF ys t.2.1 i (sLn i - k.toNat) k = false := by
            rw [ek]
            exact if_neg (by omega)
          rw [e1] at hq2
          exact hq2
  refine gX_aloadn dX8_tokenIs_0 rfl ?_
  refine gX_gI 1 dX8_tokenIs_1 fdX8_20 rfl (Or.inl rfl) hT.1 ?_
  rw [ht.1]
  refine gX_aloadn dX8_tokenIs_4 rfl ?_
  refine gX_gI 2 dX8_tokenIs_5 fdX8_24 rfl (Or.inl rfl) hT.1 ?_
  rw [ht.2.1]
  refine gX_isub dX8_tokenIs_8 ⟨by omega, by omega⟩ ?_
  refine gX_aloadn dX8_tokenIs_9 rfl ?_
  refine gX_virS (J := iJ0_length_8abf5) (i := i) (av := []) (st := [gi (t.1 - t.2.1)]) dX8_tokenIs_10 mlX8_54 kJ0_length_8abf5 vJ0_length_8abf5 (gFit_m (by decide)) hi rfl rfl (Nat.le_of_ble_eq_true rfl) (Nat.zero_le _) (Nat.zero_le _) rfl ?_
  refine c_sLength hi ?_
  show gX l E _ 13 [some (ga T), some (ga (1000000 + (i : Int))), none] [gi (sLn i), gi (t.1 - t.2.1)] (K, R, V) _ _
  refine gX_icmpeq (tgt := 18) dX8_tokenIs_13 (by decide) (fun m1 => ?_) (fun m1 => ?_)
  · refine gX_iconst dX8_tokenIs_18 ⟨by decide, by decide⟩ ?_
    refine gX_istoren dX8_tokenIs_19 (show (2 : Nat) < 3 from by decide) (ls2 := [some (ga T), some (ga (1000000 + (i : Int))), some (gi 0)]) rfl ?_
    have e : tkIs ys t i = tiF ys t.2.1 i (sLn i) 0 := if_pos (by omega)
    rw [e] at hQ
    exact lp (sLn i + 1) 0 _ _ (by omega) (by omega) (by omega) hQ
  · refine gX_iconst dX8_tokenIs_16 ⟨by decide, by decide⟩ ?_
    refine gX_iret dX8_tokenIs_17 (Or.inr ⟨rfl, Or.inl rfl⟩) ?_
    have e : tkIs ys t i = false := if_neg (by omega)
    rw [e] at hQ
    exact hQ
end HANDS
