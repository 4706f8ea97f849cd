/-! The order in which a book is walked (by hand). -/
/-- glosses in the order in which they are printed -/
def PO (gs : List gG) : Prop := ∀ j k : Int, 0 ≤ j → j < k → k < gs.length → (j ≤ (gq gs k).2.1 ∨ (gq gs k).2.1 ≤ (gq gs j).2.1) ∧ ((gq gs j).2.1 = (gq gs k).2.1 → ((gq gs j).2.2.1 = (gq gs k).2.2.1 ∧ (gq gs j).2.2.2.1 = (gq gs k).2.2.2.1) ∨ (gq gs j).2.2.2.1 < (gq gs k).2.2.1)
/-- in row h at place p: N is the next gloss, N0 was the first -/
def RI (gs : List gG) (h p N0 N : Int) : Prop := (-1 ≤ h ∧ h < N0 ∧ N0 ≤ N ∧ N ≤ gs.length) ∧ (∀ j : Int, 0 ≤ j → j < gs.length → (gq gs j).2.1 = h → ((gq gs j).2.2.1 < p → j < N ∧ (gq gs j).2.2.2.1 < p) ∧ (p ≤ (gq gs j).2.2.1 → N ≤ j)) ∧ (∀ j : Int, 0 ≤ j → j < gs.length → h < (gq gs j).2.1 → (gq gs j).2.1 < N → j < N) ∧ ∀ j : Int, N0 ≤ j → j < N → h ≤ (gq gs j).2.1
/-- in row h behind the words of a span, the glosses on it up to g visited -/
def SI (gs : List gG) (h : Int) (op : gG) (N0 g N : Int) : Prop := (-1 ≤ h ∧ h < N0 ∧ N0 ≤ N ∧ N ≤ gs.length ∧ g < N ∧ -1 ≤ g ∧ op.2.1 = h ∧ op.2.2.1 ≤ op.2.2.2.1) ∧ (∀ j : Int, 0 ≤ j → j < gs.length → (gq gs j).2.1 = h → ((gq gs j).2.2.1 < op.2.2.1 → j < N ∧ (gq gs j).2.2.2.1 < op.2.2.1) ∧ (op.2.2.1 < (gq gs j).2.2.1 → N ≤ j ∧ op.2.2.2.1 < (gq gs j).2.2.1) ∧ ((gq gs j).2.2.1 = op.2.2.1 → (gq gs j).2.2.2.1 = op.2.2.2.1 ∧ (j < N → j ≤ g))) ∧ (∀ j : Int, 0 ≤ j → j < gs.length → h < (gq gs j).2.1 → (gq gs j).2.1 < N → j < N) ∧ ∀ j : Int, N0 ≤ j → j < N → h ≤ (gq gs j).2.1
theorem opn_1 {gs : List gG} {h i N : Int} : opn gs h i N = true ↔ (0 ≤ N ∧ N < gs.length ∧ (gq gs N).2.1 = h ∧ (gq gs N).2.2.1 = i ∧ i ≤ (gq gs N).2.2.2.1) := by
  unfold opn
  rw [decide_eq_true_eq]
theorem lsW.at {tx : List Int} {gs : List gG} (h : lsW tx gs) {k : Int} (k0 : 0 ≤ k) (k1 : k < gs.length) : 0 ≤ (gq gs k).2.2.1 ∧ (gq gs k).2.2.1 ≤ (gq gs k).2.2.2.1 ∧ (gq gs k).2.2.2.1 < (rwL tx gs (gq gs k).2.1).length := h _ (gqM k0 k1)
theorem RI.opn {tx : List Int} {gs : List gG} {h p N0 N k : Int} (hr : RI gs h p N0 N) (hp : PO gs) (hl : lsW tx gs) (hw : hoW gs) (k0 : 0 ≤ k) (k1 : k < gs.length) (hk : cvQ (gq gs k) h p) : opn gs h p N = true := by
  obtain ⟨⟨a1, a2, a3, a4⟩, b, c, d⟩ := hr
  obtain ⟨e1, e2, e3⟩ := hk
  have bk := b k k0 k1 e1.symm
  have h1 : (gq gs k).2.2.1 = p := by
    refine Decidable.byContradiction fun z => ?_
    have := (bk.1 (by omega)).2
    omega
  have h2 := bk.2 (by omega)
  by_cases ck : N = k
  · subst ck
    exact opn_1.mpr ⟨k0, k1, e1.symm, h1, e3⟩
  · have n0 : 0 ≤ N := by omega
    have n1 : N < gs.length := by omega
    have po := hp N k n0 (by omega) k1
    have ho := hw.at n0 n1
    have hh : h ≤ (gq gs N).2.1 := by
      rcases po.1 with z | z <;> omega
    have hl1 := hl.at n0 n1
    have hl2 := hl.at k0 k1
    by_cases ch : (gq gs N).2.1 = h
    · have bn := b N n0 n1 ch
      have p1 : p ≤ (gq gs N).2.2.1 := by
        refine Decidable.byContradiction fun z => ?_
        have := (bn.1 (by omega)).1
        omega
      rcases po.2 (by rw [ch, ← e1]) with z | z
      · exact opn_1.mpr ⟨n0, n1, ch, by omega, by omega⟩
      · exfalso; omega
    · have := c N n0 n1 (by omega) ho.2
      exfalso; omega
theorem RI.word {tx : List Int} {gs : List gG} {h p N0 N : Int} (hr : RI gs h p N0 N) (hp : PO gs) (hl : lsW tx gs) (hw : hoW gs) (hn : ¬ Jvm.Pilot.CGlossedBooksLaw_law_r9784_8fc8ff.opn gs h p N = true) : RI gs h (p + 1) N0 N := by
  have hr0 := hr
  obtain ⟨a, b, c, d⟩ := hr
  refine ⟨a, fun j j0 j1 hj => ?_, c, d⟩
  have bj := b j j0 j1 hj
  have hl1 := hl.at j0 j1
  refine ⟨fun z => ?_, fun z => bj.2 (by omega)⟩
  by_cases e : (gq gs j).2.2.1 = p
  · exact absurd (hr0.opn hp hl hw j0 j1 ⟨hj.symm, by omega, by omega⟩) hn
  · have := bj.1 (by omega)
    omega
theorem RI.spn {tx : List Int} {gs : List gG} {h p N0 N : Int} (hr : RI gs h p N0 N) (hp : PO gs) (hl : lsW tx gs) (ho : Jvm.Pilot.CGlossedBooksLaw_law_r9784_8fc8ff.opn gs h p N = true) : SI gs h (gq gs N) N0 (-1) N := by
  obtain ⟨⟨a1, a2, a3, a4⟩, b, c, d⟩ := hr
  obtain ⟨o1, o2, o3, o4, o5⟩ := opn_1.mp ho
  refine ⟨⟨a1, a2, a3, a4, by omega, by omega, o3, by omega⟩, fun j j0 j1 hj => ?_, c, d⟩
  have bj := b j j0 j1 hj
  have hl1 := hl.at j0 j1
  refine ⟨fun z => ?_, fun z => ?_, fun z => ?_⟩
  · have := bj.1 (by omega)
    omega
  · have n1 := bj.2 (by omega)
    refine ⟨n1, ?_⟩
    have ne : N ≠ j := fun y => by rw [y] at z; omega
    rcases (hp N j o1 (by omega) j1).2 (by rw [o3, hj]) with y | y <;> omega
  · have n1 := bj.2 (by omega)
    refine ⟨?_, fun y => by omega⟩
    by_cases ne : N = j
    · rw [ne]
    · rcases (hp N j o1 (by omega) j1).2 (by rw [o3, hj]) with y | y <;> omega
theorem SI.nxt {tx : List Int} {gs : List gG} {h : Int} {op : gG} {N0 g N k : Int} (hs : SI gs h op N0 g N) (hp : PO gs) (hl : lsW tx gs) (hw : hoW gs) (k0 : 0 ≤ k) (k1 : k < gs.length) (hk : shr (gq gs k) op = 1) (gk : g < k) : N ≤ k ∧ 0 ≤ N ∧ N < gs.length ∧ shr (gq gs N) op = 1 := by
  obtain ⟨⟨a1, a2, a3, a4, a5, a6, a7, a8⟩, b, c, d⟩ := hs
  obtain ⟨s1, s2⟩ := shr_1.mp hk
  have bk := (b k k0 k1 (by omega)).2.2 s2
  have hN : N ≤ k := by
    refine Decidable.byContradiction fun z => ?_
    have := bk.2 (by omega)
    omega
  refine ⟨hN, by omega, by omega, ?_⟩
  by_cases e : N = k
  · rw [e]; exact hk
  · have n0 : 0 ≤ N := by omega
    have n1 : N < gs.length := by omega
    have po := hp N k n0 (by omega) k1
    have ho := hw.at n0 n1
    have hh : h ≤ (gq gs N).2.1 := by
      rcases po.1 with z | z <;> omega
    have hl1 := hl.at n0 n1
    by_cases ch : (gq gs N).2.1 = h
    · have bn := b N n0 n1 ch
      have p1 : op.2.2.1 ≤ (gq gs N).2.2.1 := by
        refine Decidable.byContradiction fun z => ?_
        have := (bn.1 (by omega)).1
        omega
      rcases po.2 (by omega) with z | z
      · exact shr_1.mpr ⟨by omega, by omega⟩
      · exfalso; omega
    · have := c N n0 n1 (by omega) ho.2
      exfalso; omega
theorem SI.enter {tx : List Int} {gs : List gG} {h : Int} {op : gG} {N0 g N : Int} (hs : SI gs h op N0 g N) (hl : lsW tx gs) (hw : hoW gs) (n1 : N < gs.length) : RI gs N 0 (N + 1) (N + 1) := by
  obtain ⟨⟨a1, a2, a3, a4, a5, a6, a7, a8⟩, b, c, d⟩ := hs
  refine ⟨⟨by omega, by omega, by omega, by omega⟩, fun j j0 j1 hj => ⟨fun z => ?_, fun z => ?_⟩, fun j j0 j1 h1 h2 => by omega, fun j h1 h2 => by omega⟩
  · have := (hl.at j0 j1).1; omega
  · have := (hw.at j0 j1).2; omega
theorem SI.back {tx : List Int} {gs : List gG} {h : Int} {op : gG} {N0 g N N' sz : Int} (hs : SI gs h op N0 g N) (hl : lsW tx gs) (hw : hoW gs) (n1 : N < gs.length) (hk : shr (gq gs N) op = 1) (hsz : sz = (rwL tx gs N).length) (hr : RI gs N sz (N + 1) N') : SI gs h op N0 N N' := by
  obtain ⟨⟨a1, a2, a3, a4, a5, a6, a7, a8⟩, b, c, d⟩ := hs
  obtain ⟨⟨r1, r2, r3, r4⟩, rb, rc, rd⟩ := hr
  obtain ⟨s1, s2⟩ := shr_1.mp hk
  have sub : ∀ j : Int, 0 ≤ j → j < gs.length → N ≤ (gq gs j).2.1 → (gq gs j).2.1 < N' → j < N' := fun j j0 j1 z1 z2 => by
    by_cases e : (gq gs j).2.1 = N
    · have l1 := hl.at j0 j1
      rw [e] at l1
      exact ((rb j j0 j1 e).1 (by omega)).1
    · exact rc j j0 j1 (by omega) z2
  have own : ∀ j : Int, 0 ≤ j → j < gs.length → (gq gs j).2.1 = h → j < N' → j ≤ N := fun j j0 j1 z1 z2 => by
    refine Decidable.byContradiction fun y => ?_
    have := rd j (by omega) z2
    omega
  refine ⟨⟨a1, a2, by omega, r4, by omega, by omega, a7, a8⟩, fun j j0 j1 hj => ?_, fun j j0 j1 z1 z2 => ?_, fun j z1 z2 => ?_⟩
  · have bj := b j j0 j1 hj
    refine ⟨fun z => ?_, fun z => ?_, fun z => ?_⟩
    · have := bj.1 z; omega
    · have b2 := bj.2.1 z
      refine ⟨?_, b2.2⟩
      refine Decidable.byContradiction fun y => ?_
      have o1 := own j j0 j1 hj (by omega)
      have : j = N := by omega
      subst this
      omega
    · have b3 := bj.2.2 z
      exact ⟨b3.1, fun y => own j j0 j1 hj y⟩
  · by_cases e : (gq gs j).2.1 < N
    · have := c j j0 j1 z1 e; omega
    · exact sub j j0 j1 (by omega) z2
  · by_cases e : j < N
    · exact d j z1 e
    · by_cases e2 : j = N
      · subst e2; omega
      · have := rd j (by omega) z2; omega
theorem SI.close {tx : List Int} {gs : List gG} {h : Int} {op : gG} {N0 g N : Int} (hs : SI gs h op N0 g N) (hp : PO gs) (hl : lsW tx gs) (hw : hoW gs) (hn : ¬ (0 ≤ N ∧ N < gs.length ∧ shr (gq gs N) op = 1)) : RI gs h (op.2.2.2.1 + 1) N0 N := by
  have hs0 := hs
  obtain ⟨⟨a1, a2, a3, a4, a5, a6, a7, a8⟩, b, c, d⟩ := hs
  refine ⟨⟨a1, a2, a3, a4⟩, fun j j0 j1 hj => ?_, c, d⟩
  have bj := b j j0 j1 hj
  refine ⟨fun z => ?_, fun z => (bj.2.1 (by omega)).1⟩
  by_cases e1 : (gq gs j).2.2.1 < op.2.2.1
  · have := bj.1 e1; omega
  · by_cases e2 : (gq gs j).2.2.1 = op.2.2.1
    · have b3 := bj.2.2 e2
      refine ⟨?_, by omega⟩
      refine Decidable.byContradiction fun y => ?_
      exact hn (hs0.nxt hp hl hw j0 j1 (shr_1.mpr ⟨by omega, e2⟩) (by omega)).2
    · have := (bj.2.1 (by omega)).2; omega
theorem RI.end {tx : List Int} {gs : List gG} {N : Int} (hr : RI gs (-1) tx.length 0 N) (hl : lsW tx gs) (hw : hoW gs) : N = gs.length := by
  obtain ⟨⟨a1, a2, a3, a4⟩, b, c, d⟩ := hr
  refine Decidable.byContradiction fun y => ?_
  have n1 : N < gs.length := by omega
  have ho := hw.at (g := N) (by omega) n1
  by_cases e : (gq gs N).2.1 = -1
  · have l1 := hl.at (k := N) (by omega) n1
    rw [e, rwL_n] at l1
    have := ((b N (by omega) n1 e).1 (by omega)).1
    omega
  · have := c N (by omega) n1 (by omega) ho.2
    omega
/-- a place in the reference for rank h -/
def rkE (e : Int → Int) (h : Int) : Int := if h < 0 then -1 else e h
/-- the reference's book b, its live glosses by rank -/
def wV (V : Int → Int → Int) (b : Int) (tx : List Int) (gs : List gG) (n : Int) (e : Int → Int) : Prop :=
  (∀ h : Int, -1 ≤ h → h < gs.length → hsA V b (rkE e h) = (rwL tx gs h).length ∧ (rwL tx gs h).length ≤ 40 ∧ (0 ≤ h → (rwL tx gs h).length ≤ 8) ∧ ∀ i : Int, 0 ≤ i → i < (rwL tx gs h).length → wdA V b (rkE e h) i = lat (rwL tx gs h) i ∧ (∀ k : Int, 0 ≤ k → k < gs.length → (spA V b (rkE e h) i = V 782 (20 * b + e k) ↔ cvQ (gq gs k) h i)) ∧ ((∀ k : Int, 0 ≤ k → k < gs.length → ¬ cvQ (gq gs k) h i) → spA V b (rkE e h) i < 0))
  ∧ (∀ k : Int, 0 ≤ k → k < gs.length → 0 ≤ e k ∧ e k < n ∧ V 804 (e k) = 0 ∧ V 780 (20 * b + e k) = (gq gs k).1 ∧ 0 ≤ V 782 (20 * b + e k))
  ∧ (∀ j k : Int, 0 ≤ j → j < k → k < gs.length → e j < e k)
  ∧ (∀ g : Int, 0 ≤ g → g < n → V 804 g = 0 → ∃ k : Int, 0 ≤ k ∧ k < gs.length ∧ e k = g)
  ∧ V 779 b = n ∧ n ≤ 20 ∧ (0 ≤ b ∧ b ≤ 10) ∧ gs.length ≤ 20
/-- only the walk's own cells changed -/
def wlF (V V' : Int → Int → Int) : Prop := (∀ a, a ≠ 775 → (a < 805 ∨ 811 < a) → V' a = V a) ∧ ∀ k, k ≠ 50 → k ≠ 53 → k ≠ 55 → V' 775 k = V 775 k
theorem wlF.rf {V : Int → Int → Int} : wlF V V := ⟨fun _ _ _ => rfl, fun _ _ _ _ => rfl⟩
theorem wlF.trans {V V1 V2 : Int → Int → Int} (h : wlF V V1) (h2 : wlF V1 V2) : wlF V V2 := ⟨fun a a1 a2 => (h2.1 a a1 a2).trans (h.1 a a1 a2), fun k k1 k2 k3 => (h2.2 k k1 k2 k3).trans (h.2 k k1 k2 k3)⟩
theorem wlF.u {V V1 : Int → Int → Int} (h : wlF V V1) {a k x : Int} (h1 : 805 ≤ a) (h2 : a ≤ 811) : wlF V (gup V1 a k x) := h.trans ⟨fun a' a1 a2 => gup_ne (by omega), fun k' _ _ _ => by rw [gup_ne (by omega)]⟩
theorem wlF.uf {V V1 : Int → Int → Int} (h : wlF V V1) {k x : Int} (hk : k = 50 ∨ k = 53 ∨ k = 55) : wlF V (gup V1 775 k x) := h.trans ⟨fun a' a1 a2 => gup_ne a1, fun k' k1 k2 k3 => gup_c (Or.inr (by omega))⟩
theorem wlF.q {V V1 : Int → Int → Int} (h : wlF V V1) : qFr V V1 := ⟨fun a ha => h.1 a (by omega) (by omega), h.2 0 (by omega) (by omega) (by omega), h.2 16 (by omega) (by omega) (by omega), h.2 17 (by omega) (by omega) (by omega)⟩
theorem wV.kept {V V' : Int → Int → Int} {b : Int} {tx : List Int} {gs : List gG} {n : Int} {e : Int → Int} (h : wV V b tx gs n e) (hf : wlF V V') : wV V' b tx gs n e := by
  unfold wV hsA wdA spA at h ⊢
  rw [hf.1 776 (by omega) (by omega), hf.1 777 (by omega) (by omega), hf.1 778 (by omega) (by omega), hf.1 779 (by omega) (by omega), hf.1 780 (by omega) (by omega), hf.1 782 (by omega) (by omega), hf.1 783 (by omega) (by omega), hf.1 784 (by omega) (by omega), hf.1 785 (by omega) (by omega), hf.1 804 (by omega) (by omega)]
  exact h
theorem wV.ex {V : Int → Int → Int} {b : Int} {tx : List Int} {gs : List gG} {n : Int} {e : Int → Int} (h : wV V b tx gs n e) {k : Int} (k0 : -1 ≤ k) (k1 : k < gs.length) : -1 ≤ rkE e k ∧ rkE e k < 20 := by
  unfold rkE
  by_cases c : k < 0
  · rw [if_pos c]; omega
  · rw [if_neg c]
    have := h.2.1 k (by omega) k1
    have := h.2.2.2.2.2.1
    omega
