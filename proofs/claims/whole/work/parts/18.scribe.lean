/-! Hands, and what they do to a copy, by lists; Scribe. Written by wip/whole/tools/mk_scribe.py. -/
def hdK (K : List gK) (R : Int → Int → Int) (H : Int) : Prop := kd (K, R, fun _ _ => 0) H = some (.inl 4) ∧ R H 0 = H + 1 ∧ R H 1 = H + 3 ∧ R H 2 = H + 5 ∧ R H 3 = H + 7 ∧ gRow K R (H + 1) 4 ∧ gRow K R (H + 3) 4 ∧ gRow K R (H + 5) 4 ∧ gRow K R (H + 7) 6
/-- a hand: A's, B's, M's of 'for', M's of the others, D, the way -/
def hdIs (V : Int → Int → Int) (H : Int) (fr to fe ea : List Int) (rc wy : Int) : Prop := rIs V (H + 1) 4 fr ∧ rIs V (H + 3) 4 to ∧ rIs V (H + 5) 4 fe ∧ rIs V (H + 7) 6 ea ∧ V H 4 = rc ∧ V H 5 = wy
theorem hdIs.fr {V V' : Int → Int → Int} {H : Int} {fr to fe ea : List Int} {rc wy : Int} (h : hdIs V H fr to fe ea rc wy) {lo hi : Int} (hf : gFr V V' lo hi) (h1 : H + 9 ≤ lo ∨ hi ≤ H) : hdIs V' H fr to fe ea rc wy :=
  ⟨h.1.fr hf (by omega), h.2.1.fr hf (by omega), h.2.2.1.fr hf (by omega), h.2.2.2.1.fr hf (by omega), by rw [hf H (by omega)]; exact h.2.2.2.2.1, by rw [hf H (by omega)]; exact h.2.2.2.2.2⟩
def bump (xs : List Int) (h : Int) : List Int := lput xs h (lat xs h + 1)
/-- is the nth chance taken, where each m-th is -/
def tkn (nth m : Int) : Int := if 0 < m ∧ nth % m = 0 then 1 else 0
def tkL (tk : List Int) (h t : Int) : List Int := if t = 1 then bump tk h else tk
theorem tkn_01 (a b : Int) : tkn a b = 0 ∨ tkn a b = 1 := by unfold tkn; split <;> omega
/-- counts of six habits, none beyond c -/
def cBd (xs : List Int) (c : Int) : Prop := xs.length = 6 ∧ ∀ h : Int, 0 ≤ h → h < 6 → 0 ≤ lat xs h ∧ lat xs h ≤ c
theorem cBd.bmp {xs : List Int} {c h : Int} (hx : cBd xs c) (h0 : 0 ≤ h) (h1 : h < 6) : cBd (bump xs h) (c + 1) := by
  refine ⟨by unfold bump; rw [lput_len]; exact hx.1, fun k k0 k1 => ?_⟩
  have e : lat (lput xs h (lat xs h + 1)) ((k.toNat : Nat) : Int) = if ((k.toNat : Nat) : Int) = h then lat xs h + 1 else lat xs ((k.toNat : Nat) : Int) := lat_lput h0 (by rw [hx.1]; omega) (by rw [hx.1]; omega)
  rw [Int.toNat_of_nonneg k0] at e
  have a1 := hx.2 h h0 h1
  have a2 := hx.2 k k0 k1
  show 0 ≤ lat (lput xs h (lat xs h + 1)) k ∧ lat (lput xs h (lat xs h + 1)) k ≤ c + 1
  rw [e]
  split <;> omega
theorem cBd.up {xs : List Int} {c c2 : Int} (h : cBd xs c) (h2 : c ≤ c2) : cBd xs c2 := ⟨h.1, fun k k0 k1 => by have := h.2 k k0 k1; omega⟩
theorem cBd.tk {xs : List Int} {c h t : Int} (hx : cBd xs c) (h0 : 0 ≤ h) (h1 : h < 6) : cBd (tkL xs h t) (c + 1) := by
  unfold tkL
  split
  · exact hx.bmp h0 h1
  · exact hx.up (by omega)
section SCRIBE
variable {l : Launch} {E : gE} {d : Nat} {K : List gK} {R V : Int → Int → Int} {B H g : Int} {Q : gQ} {tx : List Int} {gs : List gG} {q : gG} {ex sc rc wy : Int} {ch tk fr to fe ea : List Int}
set_option maxRecDepth 4000 in
theorem c_isTaken {h nth m : Int} (hB : bkK K R B) (hm : bmIs V B ex sc ch tk) (h0 : 0 ≤ h) (h1 : h < 6) (hn : 0 ≤ nth) (hc : cBd ch 1000000) (ht : cBd tk 1000000) (hQ : ∀ V', bmIs V' B ex sc (bump ch h) (tkL tk h (tkn nth m)) → gFr V V' (B + 6) (B + 10) → Q (some (gi (tkn nth m))) (K, R, V')) : gC l E (d + 2) iX7_isTaken [gi h, gi nth, gi m, ga B] (K, R, V) Q := by
  refine gC_of kX7_isTaken (ls := [some (gi h), some (gi nth), some (gi m), some (ga B)]) rfl (Nat.le_of_ble_eq_true rfl) ?_
  have b1 := hc.2 h h0 h1
  have b2 := ht.2 h h0 h1
  refine gX_aloadn dX7_isTaken_0 rfl ?_
  refine gX_gR 3 dX7_isTaken_1 fdX7_53 rfl rfl hB.1 hB.2.2.2.2.1 ?_
  refine gX_iloadn dX7_isTaken_4 rfl ?_
  refine gX_aloadn dX7_isTaken_5 rfl ?_
  refine gX_gR 3 dX7_isTaken_6 fdX7_53 rfl rfl hB.1 hB.2.2.2.2.1 ?_
  refine gX_iloadn dX7_isTaken_9 rfl ?_
  refine gX_virt (J := iX6_at) (av := [gi h]) (a := (B + 6)) (st := [gi h, ga (B + 6)]) dX7_isTaken_10 lkX7_29 kX6_at vX6_at (gFit_m (by decide)) hB.2.2.2.2.2.2.2.2.2.1.1 rfl rfl (Nat.le_of_ble_eq_true rfl) (Nat.zero_le _) (Nat.zero_le _) rfl ?_
  refine q_Row_at hB.2.2.2.2.2.2.2.2.2.1 hm.2.2.1 ?_
  show gX l E _ 13 [some (gi h), some (gi nth), some (gi m), some (ga B)] [gi (lat ch h), gi h, ga (B + 6)] (K, R, V) _ _
  refine gX_iconst dX7_isTaken_13 ⟨by decide, by decide⟩ ?_
  refine gX_iadd dX7_isTaken_14 ⟨by omega, by omega⟩ ?_
  refine gX_virt (J := iX6_put) (av := [gi h, gi ((lat ch h) + 1)]) (a := (B + 6)) (st := []) dX7_isTaken_15 lkX7_60 kX6_put vX6_put (gFit_m (by decide)) hB.2.2.2.2.2.2.2.2.2.1.1 rfl rfl (Nat.le_of_ble_eq_true rfl) (Nat.zero_le _) (Nat.zero_le _) rfl ?_
  refine q_Row_put hB.2.2.2.2.2.2.2.2.2.1 hm.2.2.1 (fun V1 hx1 hf1 => ?_)
  show gX l E _ 18 [some (gi h), some (gi nth), some (gi m), some (ga B)] [] (K, R, V1) _ _
  refine gX_iloadn dX7_isTaken_18 rfl ?_
  refine gX_ifle (tgt := 28) dX7_isTaken_19 (by decide) (fun w1 => ?_) (fun w1 => ?_)
  · refine gX_iconst dX7_isTaken_28 ⟨by decide, by decide⟩ ?_
    refine gX_iret dX7_isTaken_29 (Or.inr ⟨rfl, Or.inl rfl⟩) ?_
    have et : tkn nth m = 0 := by unfold tkn; split <;> omega
    rw [et] at hQ
    refine hQ V1 ⟨?_, ?_, hx1, ?_⟩ (hf1.fr (by omega) (by omega))
    · rw [hf1 B (by omega) (by omega)]; exact hm.1
    · rw [hf1 B (by omega) (by omega)]; exact hm.2.1
    · unfold tkL; rw [if_neg (by omega)]; exact hm.2.2.2.kept (hf1 _ (by omega) (by omega)) (hf1 _ (by omega) (by omega))
  · refine gX_iloadn dX7_isTaken_22 rfl ?_
    refine gX_iloadn dX7_isTaken_23 rfl ?_
    refine gX_irem dX7_isTaken_24 (by omega) (by omega) ?_
    refine gX_ifeq (tgt := 30) dX7_isTaken_25 (by decide) (fun w2 => ?_) (fun w2 => ?_)
    · refine gX_aloadn dX7_isTaken_30 rfl ?_
      refine gX_gR 4 dX7_isTaken_31 fdX7_64 rfl rfl hB.1 hB.2.2.2.2.2.1 ?_
      refine gX_iloadn dX7_isTaken_34 rfl ?_
      refine gX_aloadn dX7_isTaken_35 rfl ?_
      refine gX_gR 4 dX7_isTaken_36 fdX7_64 rfl rfl hB.1 hB.2.2.2.2.2.1 ?_
      refine gX_iloadn dX7_isTaken_39 rfl ?_
      refine gX_virt (J := iX6_at) (av := [gi h]) (a := (B + 8)) (st := [gi h, ga (B + 8)]) dX7_isTaken_40 lkX7_29 kX6_at vX6_at (gFit_m (by decide)) hB.2.2.2.2.2.2.2.2.2.2.1.1 rfl rfl (Nat.le_of_ble_eq_true rfl) (Nat.zero_le _) (Nat.zero_le _) rfl ?_
      refine q_Row_at hB.2.2.2.2.2.2.2.2.2.2.1 (hm.2.2.2.kept (hf1 _ (by omega) (by omega)) (hf1 _ (by omega) (by omega))) ?_
      show gX l E _ 43 [some (gi h), some (gi nth), some (gi m), some (ga B)] [gi (lat tk h), gi h, ga (B + 8)] (K, R, V1) _ _
      refine gX_iconst dX7_isTaken_43 ⟨by decide, by decide⟩ ?_
      refine gX_iadd dX7_isTaken_44 ⟨by omega, by omega⟩ ?_
      refine gX_virt (J := iX6_put) (av := [gi h, gi ((lat tk h) + 1)]) (a := (B + 8)) (st := []) dX7_isTaken_45 lkX7_60 kX6_put vX6_put (gFit_m (by decide)) hB.2.2.2.2.2.2.2.2.2.2.1.1 rfl rfl (Nat.le_of_ble_eq_true rfl) (Nat.zero_le _) (Nat.zero_le _) rfl ?_
      refine q_Row_put hB.2.2.2.2.2.2.2.2.2.2.1 (hm.2.2.2.kept (hf1 _ (by omega) (by omega)) (hf1 _ (by omega) (by omega))) (fun V2 hx2 hf2 => ?_)
      show gX l E _ 48 [some (gi h), some (gi nth), some (gi m), some (ga B)] [] (K, R, V2) _ _
      refine gX_iconst dX7_isTaken_48 ⟨by decide, by decide⟩ ?_
      refine gX_iret dX7_isTaken_49 (Or.inr ⟨rfl, Or.inr rfl⟩) ?_
      have et : tkn nth m = 1 := by unfold tkn; split <;> omega
      rw [et] at hQ
      refine hQ V2 ⟨?_, ?_, ?_, ?_⟩ ((hf1.fr (by omega) (by omega)).trans (hf2.fr (by omega) (by omega)))
      · rw [hf2 B (by omega) (by omega), hf1 B (by omega) (by omega)]; exact hm.1
      · rw [hf2 B (by omega) (by omega), hf1 B (by omega) (by omega)]; exact hm.2.1
      · exact hx1.kept (hf2 _ (by omega) (by omega)) (hf2 _ (by omega) (by omega))
      · unfold tkL; rw [if_pos rfl]; exact hx2
    · refine gX_iconst dX7_isTaken_28 ⟨by decide, by decide⟩ ?_
      refine gX_iret dX7_isTaken_29 (Or.inr ⟨rfl, Or.inl rfl⟩) ?_
      have et : tkn nth m = 0 := by unfold tkn; split <;> omega
      rw [et] at hQ
      refine hQ V1 ⟨?_, ?_, hx1, ?_⟩ (hf1.fr (by omega) (by omega))
      · rw [hf1 B (by omega) (by omega)]; exact hm.1
      · rw [hf1 B (by omega) (by omega)]; exact hm.2.1
      · unfold tkL; rw [if_neg (by omega)]; exact hm.2.2.2.kept (hf1 _ (by omega) (by omega)) (hf1 _ (by omega) (by omega))
set_option maxRecDepth 4000 in
theorem c_chance {h : Int} (hB : bkK K R B) (hH : hdK K R H) (hm : bmIs V B ex sc ch tk) (hh : hdIs V H fr to fe ea rc wy) (h0 : 0 ≤ h) (h1 : h < 6) (hc : cBd ch 1000000) (ht : cBd tk 1000000) (hQ : ∀ V', bmIs V' B ex sc (bump ch h) (tkL tk h (tkn (lat ch h + 1) (lat ea h))) → gFr V V' (B + 6) (B + 10) → Q (some (gi (tkn (lat ch h + 1) (lat ea h)))) (K, R, V')) : gC l E (d + 3) iX7_chance [gi h, ga B, ga H] (K, R, V) Q := by
  refine gC_of kX7_chance (ls := [some (gi h), some (ga B), some (ga H)]) rfl (Nat.le_of_ble_eq_true rfl) ?_
  have b1 := hc.2 h h0 h1
  have b2 := tkn_01 (lat ch h + 1) (lat ea h)
  refine gX_iloadn dX7_chance_0 rfl ?_
  refine gX_aloadn dX7_chance_1 rfl ?_
  refine gX_gR 3 dX7_chance_2 fdX7_53 rfl rfl hB.1 hB.2.2.2.2.1 ?_
  refine gX_iloadn dX7_chance_5 rfl ?_
  refine gX_virt (J := iX6_at) (av := [gi h]) (a := (B + 6)) (st := [gi h]) dX7_chance_6 lkX7_29 kX6_at vX6_at (gFit_m (by decide)) hB.2.2.2.2.2.2.2.2.2.1.1 rfl rfl (Nat.le_of_ble_eq_true rfl) (Nat.zero_le _) (Nat.zero_le _) rfl ?_
  refine q_Row_at hB.2.2.2.2.2.2.2.2.2.1 hm.2.2.1 ?_
  show gX l E _ 9 [some (gi h), some (ga B), some (ga H)] [gi (lat ch h), gi h] (K, R, V) _ _
  refine gX_iconst dX7_chance_9 ⟨by decide, by decide⟩ ?_
  refine gX_iadd dX7_chance_10 ⟨by omega, by omega⟩ ?_
  refine gX_aloadn dX7_chance_11 rfl ?_
  refine gX_gR 3 dX7_chance_12 fdX7_24 rfl rfl hH.1 hH.2.2.2.2.1 ?_
  refine gX_iloadn dX7_chance_15 rfl ?_
  refine gX_virt (J := iX6_at) (av := [gi h]) (a := (H + 7)) (st := [gi ((lat ch h) + 1), gi h]) dX7_chance_16 lkX7_29 kX6_at vX6_at (gFit_m (by decide)) hH.2.2.2.2.2.2.2.2.1 rfl rfl (Nat.le_of_ble_eq_true rfl) (Nat.zero_le _) (Nat.zero_le _) rfl ?_
  refine q_Row_at hH.2.2.2.2.2.2.2.2 hh.2.2.2.1 ?_
  show gX l E _ 19 [some (gi h), some (ga B), some (ga H)] [gi (lat ea h), gi ((lat ch h) + 1), gi h] (K, R, V) _ _
  refine gX_aloadn dX7_chance_19 rfl ?_
  refine gX_stat (J := iX7_isTaken) (av := [gi h, gi ((lat ch h) + 1), gi (lat ea h), ga B]) (st := []) dX7_chance_20 lkX7_56 kX7_isTaken sX7_isTaken (gFit_m (by decide)) rfl (Nat.le_of_ble_eq_true rfl) (Nat.zero_le _) (Nat.zero_le _) rfl ?_
  refine c_isTaken hB hm h0 h1 (by omega) hc ht (fun V1 hm1 hf1 => ?_)
  show gX l E _ 23 [some (gi h), some (ga B), some (ga H)] [gi (tkn (lat ch h + 1) (lat ea h))] (K, R, V1) _ _
  refine gX_iret dX7_chance_23 (Or.inr ⟨rfl, by omega⟩) ?_
  exact hQ _ hm1 hf1
def nxtF (tx : List Int) (w b : Int) : Nat → Int → Int
  | 0, _ => -1
  | n + 1, k => if k ≤ b ∧ k < tx.length then (if lat tx k = w then k else nxtF tx w b n (k + 1)) else -1
/-- the next place like i, at most rc behind it -/
def nxtL (tx : List Int) (i rc : Int) : Int := nxtF tx (lat tx i) (i + rc) 41 (i + 1)
def plc (p f t : Int) : Int := if p ≤ f then p else if p ≤ t then f else p - (t - f + 1)
/-- a gloss with another span -/
def spG (q : gG) (a b : Int) : gG := (q.1, q.2.1, a, b, q.2.2.2.2.1, q.2.2.2.2.2)
/-- gloss g when the places f .. t of the text are left out -/
def lv1 (f t : Int) (gs : List gG) (g : Nat) : List gG := if onT (gq gs g) = 1 then (if plc (gq gs g).2.2.1 f t = plc ((gq gs g).2.2.2.1 + 1) f t then awayG (gs.set g (spG (gq gs g) (plc (gq gs g).2.2.1 f t) (plc ((gq gs g).2.2.2.1 + 1) f t - 1))) g else gs.set g (spG (gq gs g) (plc (gq gs g).2.2.1 f t) (plc ((gq gs g).2.2.2.1 + 1) f t - 1))) else gs
def lvG (f t : Int) : Nat → Nat → List gG → List gG
  | 0, _, gs => gs
  | n + 1, g, gs => lvG f t n (g + 1) (lv1 f t gs g)
def gBd (gs : List gG) (c : Int) : Prop := ∀ q ∈ gs, -c ≤ q.2.2.1 ∧ q.2.2.1 ≤ c ∧ -c ≤ q.2.2.2.1 ∧ q.2.2.2.1 ≤ c
theorem gq_mem {gs : List gG} {g : Int} (h0 : 0 ≤ g) (h1 : g < gs.length) : gq gs g ∈ gs := by
  have hg : gs[g.toNat]? = some gs[g.toNat] := List.getElem?_eq_getElem (by omega)
  have h8 := gq_of hg
  rw [Int.toNat_of_nonneg h0] at h8
  rw [h8]
  exact List.getElem_mem _
theorem mem_set {gs : List gG} {k : Nat} {q x : gG} (h : x ∈ gs.set k q) : x = q ∨ x ∈ gs := by
  rcases List.mem_or_eq_of_mem_set h with h | h
  · exact Or.inr h
  · exact Or.inl h
theorem gBd.set {gs : List gG} {c : Int} (h : gBd gs c) {k : Nat} {q : gG} (hq : -c ≤ q.2.2.1 ∧ q.2.2.1 ≤ c ∧ -c ≤ q.2.2.2.1 ∧ q.2.2.2.1 ≤ c) : gBd (gs.set k q) c := by
  intro x hx
  rcases mem_set hx with rfl | hx
  · exact hq
  · exact h x hx
theorem gBd.up {gs : List gG} {c c2 : Int} (h : gBd gs c) (h2 : c ≤ c2) : gBd gs c2 := fun q hq => by have := h q hq; omega
theorem goL_len : ∀ (n h : Nat) (gs : List gG), (goL gs n h).length = gs.length := by
  intro n
  induction n with
  | zero => intro h gs; rfl
  | succ n ih =>
    intro h gs
    show (goL (if _ then _ else _) n (h + 1)).length = _
    rw [ih]
    split
    · rw [List.length_set]
    · rfl
theorem awayG_len (gs : List gG) (g : Int) : (awayG gs g).length = gs.length := by
  unfold awayG
  rw [goL_len, List.length_set]
/-- setting glosses gone changes nothing else of them -/
theorem goL_at : ∀ (n h : Nat) (gs : List gG) (k : Nat) (q : gG), (goL gs n h)[k]? = some q → ∃ q0, gs[k]? = some q0 ∧ (q = q0 ∨ q = setGone q0) := by
  intro n
  induction n with
  | zero => intro h gs k q hk; exact ⟨q, hk, Or.inl rfl⟩
  | succ n ih =>
    intro h gs k q hk
    obtain ⟨q1, h1, h2⟩ := ih (h + 1) _ k q hk
    split at h1
    · by_cases c : k = h
      · subst c
        have hl := (List.getElem?_eq_some_iff.mp h1).1
        rw [List.length_set] at hl
        rw [List.getElem?_set_self hl] at h1
        cases h1
        have hg : gs[k]? = some gs[k] := List.getElem?_eq_getElem hl
        have h8 := gq_of hg
        refine ⟨gs[k], hg, Or.inr ?_⟩
        rw [h8] at h2
        rcases h2 with h2 | h2
        · exact h2
        · rw [h2]; rfl
      · rw [List.getElem?_set_ne (fun z => c z.symm)] at h1
        exact ⟨q1, h1, h2⟩
    · exact ⟨q1, h1, h2⟩
theorem awayG_at {gs : List gG} {g : Int} (h0 : 0 ≤ g) (h1 : g < gs.length) {k : Nat} {q : gG} (hk : (awayG gs g)[k]? = some q) : ∃ q0, gs[k]? = some q0 ∧ (q = q0 ∨ q = setGone q0) := by
  obtain ⟨q1, h2, h3⟩ := goL_at _ _ _ k q hk
  by_cases c : k = g.toNat
  · subst c
    rw [List.getElem?_set_self (by omega)] at h2
    cases h2
    have hg : gs[g.toNat]? = some gs[g.toNat] := List.getElem?_eq_getElem (by omega)
    have h8 := gq_of hg
    rw [Int.toNat_of_nonneg h0] at h8
    refine ⟨_, hg, Or.inr ?_⟩
    rw [h8] at h3
    rcases h3 with h3 | h3
    · exact h3
    · rw [h3]; rfl
  · rw [List.getElem?_set_ne (fun z => c z.symm)] at h2
    exact ⟨q1, h2, h3⟩
theorem gBd.away {gs : List gG} {c g : Int} (h : gBd gs c) (h0 : 0 ≤ g) (h1 : g < gs.length) : gBd (awayG gs g) c := by
  intro x hx
  obtain ⟨k, hk⟩ := List.getElem?_of_mem hx
  obtain ⟨q0, g1, g2⟩ := awayG_at h0 h1 hk
  have := h q0 (List.mem_of_getElem? g1)
  rcases g2 with rfl | rfl
  · exact this
  · exact this
set_option maxRecDepth 4000 in
theorem c_nextLike {ra i : Int} (hra : gRow K R ra 40) (hx : rIs V ra 40 tx) (h0 : 0 ≤ i) (h1 : i ≤ 40) (hr0 : -1 ≤ rc) (hr1 : rc ≤ 100) (hQ : Q (some (gi (nxtL tx i rc))) (K, R, V)) : gC l E (d + 2) iX7_nextLike [ga ra, gi i, gi rc] (K, R, V) Q := by
  refine gC_of kX7_nextLike (ls := [some (ga ra), some (gi i), some (gi rc), none]) rfl (Nat.le_of_ble_eq_true rfl) ?_
  have hl := hx.2.1
  have lp : ∀ (jj : Nat) (k : Int) (bc bs : Nat), 41 - k < (jj : Int) → 0 ≤ k → k ≤ 41 → Q (some (gi (nxtF tx (lat tx i) (i + rc) jj k))) (K, R, V) → gX l E (gFm E (d + 2) iX7_nextLike Q) 4 [some (ga ra), some (gi i), some (gi rc), some (gi k)] [] (K, R, V) bc bs := by
    intro jj
    induction jj with
    | zero =>
      intro k bc bs hj q0 q1 hq
      exfalso; omega
    | succ jj ih =>
      intro k bc bs hj q0 q1 hq
      refine gX_iloadn dX7_nextLike_4 rfl ?_
      refine gX_iloadn dX7_nextLike_5 rfl ?_
      refine gX_iloadn dX7_nextLike_6 rfl ?_
      refine gX_iadd dX7_nextLike_7 ⟨by omega, by omega⟩ ?_
      refine gX_icmpgt (tgt := 40) dX7_nextLike_8 (by decide) (fun w1 => ?_) (fun w1 => ?_)
      · refine gX_iconst dX7_nextLike_40 ⟨by decide, by decide⟩ ?_
        refine gX_iret dX7_nextLike_41 (Or.inl rfl) ?_
        have e : nxtF tx (lat tx i) (i + rc) (jj + 1) k = -1 := by
          show (if _ then _ else _) = _
          rw [if_neg (by omega)]
        rw [e] at hq
        exact hq
      · refine gX_iloadn dX7_nextLike_11 rfl ?_
        refine gX_aloadn dX7_nextLike_12 rfl ?_
        refine gX_virt (J := iX6_length) (av := []) (a := ra) (st := [gi k]) dX7_nextLike_13 lkX7_70 kX6_length vX6_length (gFit_m (by decide)) hra.1 rfl rfl (Nat.le_of_ble_eq_true rfl) (Nat.zero_le _) (Nat.zero_le _) rfl ?_
        refine q_Row_length hra hx ?_
        show gX l E _ 16 [some (ga ra), some (gi i), some (gi rc), some (gi k)] [gi tx.length, gi k] (K, R, V) _ _
        refine gX_icmpge (tgt := 40) dX7_nextLike_16 (by decide) (fun w2 => ?_) (fun w2 => ?_)
        · refine gX_iconst dX7_nextLike_40 ⟨by decide, by decide⟩ ?_
          refine gX_iret dX7_nextLike_41 (Or.inl rfl) ?_
          have e : nxtF tx (lat tx i) (i + rc) (jj + 1) k = -1 := by
            show (if _ then _ else _) = _
            rw [if_neg (by omega)]
          rw [e] at hq
          exact hq
        · refine gX_aloadn dX7_nextLike_19 rfl ?_
          refine gX_iloadn dX7_nextLike_20 rfl ?_
          refine gX_virt (J := iX6_at) (av := [gi k]) (a := ra) (st := []) dX7_nextLike_21 lkX7_29 kX6_at vX6_at (gFit_m (by decide)) hra.1 rfl rfl (Nat.le_of_ble_eq_true rfl) (Nat.zero_le _) (Nat.zero_le _) rfl ?_
          refine q_Row_at hra hx ?_
          show gX l E _ 24 [some (ga ra), some (gi i), some (gi rc), some (gi k)] [gi (lat tx k)] (K, R, V) _ _
          refine gX_aloadn dX7_nextLike_24 rfl ?_
          refine gX_iloadn dX7_nextLike_25 rfl ?_
          refine gX_virt (J := iX6_at) (av := [gi i]) (a := ra) (st := [gi (lat tx k)]) dX7_nextLike_26 lkX7_29 kX6_at vX6_at (gFit_m (by decide)) hra.1 rfl rfl (Nat.le_of_ble_eq_true rfl) (Nat.zero_le _) (Nat.zero_le _) rfl ?_
          refine q_Row_at hra hx ?_
          show gX l E _ 29 [some (ga ra), some (gi i), some (gi rc), some (gi k)] [gi (lat tx i), gi (lat tx k)] (K, R, V) _ _
          refine gX_icmpne (tgt := 34) dX7_nextLike_29 (by decide) (fun w3 => ?_) (fun w3 => ?_)
          · refine gX_iinc dX7_nextLike_34 rfl (show (3 : Nat) < 4 from by decide) ⟨by omega, by omega⟩ (ls2 := [some (ga ra), some (gi i), some (gi rc), some (gi (k + 1))]) rfl ?_
            refine gX_goto (tgt := 4) dX7_nextLike_37 (by decide) ?_
            refine ih (k + 1) _ _ (by omega) (by omega) (by omega) ?_
            have e : nxtF tx (lat tx i) (i + rc) (jj + 1) k = nxtF tx (lat tx i) (i + rc) jj (k + 1) := by
              show (if _ then _ else _) = _
              rw [if_pos (by omega), if_neg (by omega)]
            rw [e] at hq
            exact hq
          · refine gX_iloadn dX7_nextLike_32 rfl ?_
            refine gX_iret dX7_nextLike_33 (Or.inl rfl) ?_
            have e : nxtF tx (lat tx i) (i + rc) (jj + 1) k = k := by
              show (if _ then _ else _) = _
              rw [if_pos (by omega), if_pos (by omega)]
            rw [e] at hq
            exact hq
  refine gX_iloadn dX7_nextLike_0 rfl ?_
  refine gX_iconst dX7_nextLike_1 ⟨by decide, by decide⟩ ?_
  refine gX_iadd dX7_nextLike_2 ⟨by omega, by omega⟩ ?_
  refine gX_istoren dX7_nextLike_3 (show (3 : Nat) < 4 from by decide) (ls2 := [some (ga ra), some (gi i), some (gi rc), some (gi (i + 1))]) rfl ?_
  exact lp 41 (i + 1) _ _ (by omega) (by omega) (by omega) hQ
set_option maxRecDepth 4000 in
theorem c_placeLeft {x f t : Int} (hb : -1000 ≤ x ∧ x ≤ 1000 ∧ -1000 ≤ f ∧ f ≤ 1000 ∧ -1000 ≤ t ∧ t ≤ 1000) (hQ : Q (some (gi (plc x f t))) (K, R, V)) : gC l E (d + 1) iX7_placeLeft [gi x, gi f, gi t] (K, R, V) Q := by
  refine gC_of kX7_placeLeft (ls := [some (gi x), some (gi f), some (gi t)]) rfl (Nat.le_of_ble_eq_true rfl) ?_
  refine gX_iloadn dX7_placeLeft_0 rfl ?_
  refine gX_iloadn dX7_placeLeft_1 rfl ?_
  refine gX_icmpgt (tgt := 7) dX7_placeLeft_2 (by decide) (fun w1 => ?_) (fun w1 => ?_)
  · refine gX_iloadn dX7_placeLeft_7 rfl ?_
    refine gX_iloadn dX7_placeLeft_8 rfl ?_
    refine gX_icmpgt (tgt := 16) dX7_placeLeft_9 (by decide) (fun w2 => ?_) (fun w2 => ?_)
    · refine gX_iloadn dX7_placeLeft_16 rfl ?_
      refine gX_iloadn dX7_placeLeft_17 rfl ?_
      refine gX_iloadn dX7_placeLeft_18 rfl ?_
      refine gX_isub dX7_placeLeft_19 ⟨by omega, by omega⟩ ?_
      refine gX_iconst dX7_placeLeft_20 ⟨by decide, by decide⟩ ?_
      refine gX_iadd dX7_placeLeft_21 ⟨by omega, by omega⟩ ?_
      refine gX_isub dX7_placeLeft_22 ⟨by omega, by omega⟩ ?_
      refine gX_iret dX7_placeLeft_23 (Or.inl rfl) ?_
      have e : plc x f t = x - ((t - f) + 1) := by unfold plc; split <;> (try split) <;> omega
      rw [← e]
      exact hQ
    · refine gX_iloadn dX7_placeLeft_12 rfl ?_
      refine gX_goto (tgt := 23) dX7_placeLeft_13 (by decide) ?_
      refine gX_iret dX7_placeLeft_23 (Or.inl rfl) ?_
      have e : plc x f t = f := by unfold plc; split <;> (try split) <;> omega
      rw [← e]
      exact hQ
  · refine gX_iloadn dX7_placeLeft_5 rfl ?_
    refine gX_iret dX7_placeLeft_6 (Or.inl rfl) ?_
    have e : plc x f t = x := by unfold plc; split <;> (try split) <;> omega
    rw [← e]
    exact hQ
end SCRIBE
