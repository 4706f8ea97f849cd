/-! Ranks of the glosses that are not gone (by hand). -/
theorem kpt_mo (gs : List gG) {a b : Nat} (h : a ≤ b) : kpt gs a ≤ kpt gs b := by
  induction b with
  | zero => rw [show a = 0 by omega]; omega
  | succ b ih =>
    by_cases c : a = b + 1
    · rw [c]; omega
    · have := ih (by omega)
      rw [kpt_s]
      split <;> omega
theorem kpt_lt (gs : List gG) {a b : Nat} (h : a < b) (ha : lvQ (gq gs a)) : kpt gs a < kpt gs b := by
  have := kpt_mo gs (show a + 1 ≤ b from h)
  rw [kpt_s, if_pos (show (gq gs (a : Int)).2.2.2.2.1 = 0 from ha)] at this
  omega
/-- the place of rank k -/
def lvN (gs : List gG) : Nat → Int → Int
  | 0, _ => 0
  | n + 1, k => if (gq gs n).2.2.2.2.1 = 0 ∧ kpt gs n = k then (n : Int) else lvN gs n k
theorem lvN_r {gs : List gG} : ∀ {n i : Nat}, i < n → lvQ (gq gs i) → lvN gs n (kpt gs i) = i
  | 0, i, h, _ => by omega
  | n + 1, i, h, hl => by
    show (if _ then _ else _) = _
    by_cases c : i = n
    · subst c; rw [if_pos ⟨hl, rfl⟩]
    · have := kpt_lt gs (show i < n by omega) hl
      rw [if_neg (fun z => by omega)]
      exact lvN_r (by omega) hl
theorem lvN_in {gs : List gG} : ∀ {n : Nat} {k : Int}, 0 ≤ k → k < kpt gs n → ∃ i : Nat, i < n ∧ lvQ (gq gs i) ∧ kpt gs i = k ∧ lvN gs n k = i
  | 0, k, h0, h => by have : kpt gs 0 = 0 := rfl; omega
  | n + 1, k, h0, h => by
    by_cases c : k < kpt gs n
    · obtain ⟨i, i1, i2, i3, i4⟩ := lvN_in (n := n) h0 c
      refine ⟨i, by omega, i2, i3, ?_⟩
      show (if _ then _ else _) = _
      rw [if_neg (fun z => by omega)]
      exact i4
    · rw [kpt_s] at h
      by_cases c2 : (gq gs n).2.2.2.2.1 = 0
      · rw [if_pos c2] at h
        refine ⟨n, by omega, c2, by omega, ?_⟩
        show (if _ then _ else _) = _
        rw [if_pos ⟨c2, by omega⟩]
      · rw [if_neg c2] at h; omega
theorem reN_n (gs : List gG) : ((reN gs).length : Int) = kpt gs gs.length := by
  have := reN_len gs gs.length (Nat.le_refl _)
  rw [List.take_length] at this
  exact this
theorem reN_at {gs : List gG} {i : Nat} (h : i < gs.length) (hl : lvQ (gq gs i)) : gq (reN gs) (kpt gs i) = hoG (gq gs i) (nnG gs (gq gs i).2.1) := by
  have e : gs = gs.take i ++ (gs[i] :: gs.drop (i + 1)) := by rw [List.getElem_cons_drop, List.take_append_drop]
  have eq1 : gq gs i = gs[i] := by
    unfold gq
    rw [List.getD_eq_getElem?_getD, show ((i : Nat) : Int).toNat = i from rfl, List.getElem?_eq_getElem h]; rfl
  have hr : reQ gs gs[i] = some (hoG (gq gs i) (nnG gs (gq gs i).2.1)) := by
    unfold reQ
    rw [← eq1, if_pos (show (gq gs (i : Int)).2.2.2.2.1 = 0 from hl)]
  have hlen := reN_len gs i (by omega)
  have hb := kpt_bd gs i
  have ef : reN gs = (gs.take i).filterMap (reQ gs) ++ (hoG (gq gs i) (nnG gs (gq gs i).2.1) :: (gs.drop (i + 1)).filterMap (reQ gs)) := by
    have : reN gs = (gs.take i ++ (gs[i] :: gs.drop (i + 1))).filterMap (reQ gs) := by rw [← e]; rfl
    rw [this, List.filterMap_append, List.filterMap_cons_some hr]
  unfold gq
  rw [ef, List.getD_eq_getElem?_getD, List.getElem?_append_right (by omega), show (kpt gs i).toNat - ((gs.take i).filterMap (reQ gs)).length = 0 by omega]
  rfl
/-- what rank k stands for -/
theorem rank {gs : List gG} {k : Int} (k0 : 0 ≤ k) (k1 : k < (reN gs).length) : ∃ i : Nat, i < gs.length ∧ lvQ (gq gs i) ∧ kpt gs i = k ∧ lvN gs gs.length k = i ∧ gq (reN gs) k = hoG (gq gs i) (nnG gs (gq gs i).2.1) := by
  rw [reN_n] at k1
  obtain ⟨i, i1, i2, i3, i4⟩ := lvN_in k0 k1
  refine ⟨i, i1, i2, i3, i4, ?_⟩
  rw [← i3]
  exact reN_at i1 i2
theorem rank_mo {gs : List gG} {j k : Int} (j0 : 0 ≤ j) (jk : j < k) (k1 : k < (reN gs).length) : lvN gs gs.length j < lvN gs gs.length k := by
  obtain ⟨a, a1, a2, a3, a4, -⟩ := rank (gs := gs) j0 (by omega)
  obtain ⟨c, c1, c2, c3, c4, -⟩ := rank (gs := gs) (k := k) (by omega) k1
  rw [a4, c4]
  refine Decidable.byContradiction fun z => ?_
  have := kpt_mo gs (show c ≤ a by omega)
  omega
theorem rank_of {gs : List gG} {i : Int} (i0 : 0 ≤ i) (i1 : i < gs.length) (hl : lvQ (gq gs i)) : 0 ≤ kpt gs i.toNat ∧ kpt gs i.toNat < (reN gs).length ∧ lvN gs gs.length (kpt gs i.toNat) = i ∧ nnG gs i = kpt gs i.toNat := by
  have hl2 : lvQ (gq gs (i.toNat : Int)) := hl
  refine ⟨(kpt_bd gs _).1, by rw [reN_n]; exact kpt_lt gs (by omega) hl2, ?_, if_pos ⟨i0, i1, hl⟩⟩
  rw [lvN_r (by omega) hl2]
  omega
/-- the host of rank k -/
theorem rank_ho {gs : List gG} {k : Int} (hw : hoW gs) (hl : hlW gs) (k0 : 0 ≤ k) (k1 : k < (reN gs).length) : -1 ≤ (gq (reN gs) k).2.1 ∧ (gq (reN gs) k).2.1 < k ∧ rkE (lvN gs gs.length) (gq (reN gs) k).2.1 = (gq gs (lvN gs gs.length k)).2.1 := by
  obtain ⟨i, i1, i2, i3, i4, i5⟩ := rank k0 k1
  rw [i5, i4]
  have hi := hw.at (g := (i : Int)) (by omega) (by omega)
  show -1 ≤ nnG gs (gq gs i).2.1 ∧ nnG gs (gq gs i).2.1 < k ∧ rkE (lvN gs gs.length) (nnG gs (gq gs i).2.1) = (gq gs i).2.1
  rcases hl i (by omega) (by omega) i2 with z | ⟨z1, z2, z3⟩
  · have : nnG gs (gq gs i).2.1 = -1 := if_neg (by omega)
    rw [this, z]
    exact ⟨by omega, by omega, if_pos (by omega)⟩
  · obtain ⟨r1, r2, r3, r4⟩ := rank_of z1 z2 z3
    rw [r4]
    refine ⟨by omega, ?_, ?_⟩
    · rw [← i3]
      exact kpt_lt gs (by omega) z3
    · unfold rkE
      rw [if_neg (by omega), r3]
theorem rank_hk {gs : List gG} {h : Int} (h0 : -1 ≤ h) (h1 : h < (reN gs).length) : hoK gs (rkE (lvN gs gs.length) h) ∧ -1 ≤ rkE (lvN gs gs.length) h ∧ rkE (lvN gs gs.length) h < gs.length := by
  unfold rkE
  by_cases c : h < 0
  · rw [if_pos c]; exact ⟨Or.inl rfl, by omega, by omega⟩
  · obtain ⟨i, i1, i2, i3, i4, i5⟩ := rank (gs := gs) (k := h) (by omega) h1
    rw [if_neg c, i4]
    exact ⟨Or.inr ⟨by omega, by omega, i2⟩, by omega, by omega⟩
theorem rank_inj {gs : List gG} {h k : Int} (h0 : -1 ≤ h) (h1 : h < (reN gs).length) (k0 : -1 ≤ k) (k1 : k < (reN gs).length) (e : rkE (lvN gs gs.length) h = rkE (lvN gs gs.length) k) : h = k := by
  unfold rkE at e
  have pos : ∀ x : Int, 0 ≤ x → x < (reN gs).length → 0 ≤ lvN gs gs.length x := fun x x0 x1 => by
    obtain ⟨i, i1, i2, i3, i4, i5⟩ := rank (gs := gs) x0 x1
    omega
  by_cases c : h < 0
  · by_cases c2 : k < 0
    · omega
    · rw [if_pos c, if_neg c2] at e
      have := pos k (by omega) k1
      omega
  · by_cases c2 : k < 0
    · rw [if_neg c, if_pos c2] at e
      have := pos h (by omega) h1
      omega
    · rw [if_neg c, if_neg c2] at e
      refine Decidable.byContradiction fun z => ?_
      by_cases c3 : h < k
      · have := rank_mo (gs := gs) (by omega) c3 k1; omega
      · have := rank_mo (gs := gs) (j := k) (k := h) (by omega) (by omega) h1; omega
theorem rank_rw {tx : List Int} {gs : List gG} {h : Int} (h0 : -1 ≤ h) (h1 : h < (reN gs).length) : rwL tx (reN gs) h = rwL tx gs (rkE (lvN gs gs.length) h) := by
  by_cases c : h < 0
  · have : h = -1 := by omega
    subst this
    rw [rwL_n, show rkE (lvN gs gs.length) (-1) = -1 from if_pos (by omega), rwL_n]
  · obtain ⟨i, i1, i2, i3, i4, i5⟩ := rank (gs := gs) (k := h) (by omega) h1
    unfold rwL rkE
    rw [if_neg c, i4, if_pos ⟨by omega, h1⟩, if_pos ⟨by omega, by omega⟩, i5]
    rfl
theorem rank_cv {gs : List gG} {h k i : Int} (hw : hoW gs) (hl : hlW gs) (h0 : -1 ≤ h) (h1 : h < (reN gs).length) (k0 : 0 ≤ k) (k1 : k < (reN gs).length) : cvQ (gq (reN gs) k) h i ↔ cvQ (gq gs (lvN gs gs.length k)) (rkE (lvN gs gs.length) h) i := by
  have ho := rank_ho hw hl k0 k1
  obtain ⟨j, i1, i2, i3, i4, i5⟩ := rank k0 k1
  have e1 : (gq (reN gs) k).2.2.1 = (gq gs (lvN gs gs.length k)).2.2.1 := by rw [i5, i4]; rfl
  have e2 : (gq (reN gs) k).2.2.2.1 = (gq gs (lvN gs gs.length k)).2.2.2.1 := by rw [i5, i4]; rfl
  unfold cvQ
  rw [e1, e2, ← ho.2.2]
  constructor
  · intro z; exact ⟨by rw [z.1], z.2⟩
  · intro z; exact ⟨rank_inj h0 h1 ho.1 (by omega) z.1, z.2⟩
theorem wkI.wv {V : Int → Int → Int} {s : cS} (h : wkI V s) : wV V 10 s.1 (reN s.2.1) s.2.1.length (lvN s.2.1 s.2.1.length) := by
  have hw := h.2.2.2.2.1.2.2.1
  have hl := h.2.2.2.2.2
  have h20 := h.1.2.2.2.2.1
  have hlen : (reN s.2.1).length ≤ 20 := by
    have := reN_n s.2.1
    have := kpt_bd s.2.1 s.2.1.length
    omega
  refine ⟨fun x x0 x1 => ?_, fun k k0 k1 => ?_, fun j k j0 jk k1 => rank_mo j0 jk k1, fun g g0 g1 hg => ?_, h.1.2.2.2.1, by omega, by omega, hlen⟩
  · obtain ⟨y1, y2, y3⟩ := rank_hk x0 x1
    have hs := h.1.hs ⟨y2, y3⟩
    rw [rank_rw x0 x1]
    refine ⟨hs.1, hs.2.1, fun z => hs.2.2 (by
      obtain ⟨i, i1, i2, i3, i4, i5⟩ := rank (gs := s.2.1) z x1
      unfold rkE
      rw [if_neg (by omega), i4]
      omega), fun i i0 i1 => ⟨h.1.wa ⟨y2, y3⟩ i0 i1, fun k k0 k1 => ?_, fun hno => ?_⟩⟩
    · obtain ⟨j, j1, j2, j3, j4, j5⟩ := rank k0 k1
      rw [rank_cv hw hl x0 x1 k0 k1, j4]
      exact (h.2.1.1 j (by omega) (by omega) j2).2 _ i y1 i0 i1
    · refine h.2.1.2 _ i y1 i0 i1 (fun g g0 g1 lg z => ?_)
      obtain ⟨r1, r2, r3, r4⟩ := rank_of g0 g1 lg
      refine hno _ r1 r2 ?_
      rw [rank_cv hw hl x0 x1 r1 r2, r3]
      exact z
  · obtain ⟨i, i1, i2, i3, i4, i5⟩ := rank k0 k1
    rw [i4, i5]
    refine ⟨by omega, by omega, (h.2.2.1 i (by omega) (by omega)).1.trans i2, (h.1.gl (g := (i : Int)) (by omega) (by omega)).1, (h.2.1.1 i (by omega) (by omega) i2).1⟩
  · have := h.2.2.1 g g0 g1
    obtain ⟨r1, r2, r3, r4⟩ := rank_of g0 g1 (show lvQ (gq s.2.1 g) from by unfold lvQ; omega)
    exact ⟨_, r1, r2, r3⟩
/-- a book with none gone, by its own numbers -/
theorem rk1.wv {V : Int → Int → Int} {b : Int} {tx : List Int} {gs : List gG} (hb : 0 ≤ b ∧ b ≤ 10) (hk : rbIs V b tx gs) (hs : rsIs V b tx gs) (hl : ∀ q ∈ gs, lvQ q) (h4 : ∀ j : Int, 0 ≤ j → j < 20 → V 804 j = 0) : wV V b tx gs gs.length (fun k => k) := by
  have h20 := hk.2.2.2.2.1
  have ex : ∀ h : Int, -1 ≤ h → rkE (fun k => k) h = h := fun h h0 => by
    unfold rkE
    split
    · omega
    · rfl
  refine ⟨fun x x0 x1 => ?_, fun k k0 k1 => ?_, fun j k j0 jk k1 => jk, fun g g0 g1 hg => ⟨g, g0, g1, rfl⟩, hk.2.2.2.1, by omega, hb, h20⟩
  · rw [ex x x0]
    have hh := hk.hs ⟨x0, x1⟩
    have ho : hoK gs x := by
      by_cases c : x = -1
      · exact Or.inl c
      · exact Or.inr ⟨by omega, x1, hl _ (gqM (by omega) x1)⟩
    exact ⟨hh.1, hh.2.1, hh.2.2, fun i i0 i1 => ⟨hk.wa ⟨x0, x1⟩ i0 i1, fun k k0 k1 => (hs.1 k k0 k1 (hl _ (gqM k0 k1))).2 x i ho i0 i1, fun hno => hs.2 x i ho i0 i1 (fun g g0 g1 lg => hno g g0 g1)⟩⟩
  · exact ⟨k0, k1, h4 k k0 (by omega), (hk.gl k0 k1).1, (hs.1 k k0 k1 (hl _ (gqM k0 k1))).1⟩
