/-! The reference: the walk as a whole (by hand). -/
theorem oI.kept {V V' : Int → Int → Int} {e : Int → Int} {N : Int} (h : oI V e N) (h1 : V' 775 53 = V 775 53) (h2 : V' 809 = V 809) (h3 : V' 810 = V 810) : oI V' e N := by
  unfold oI
  rw [h1, h2, h3]
  exact h
theorem prW_l {xs : List Int} {last : Int} : ∀ (n : Nat) (i : Int) (o : pO), i ≤ last + 1 → ((prW (ladd 700) xs last n i o).length : Int) ≤ o.length + 3 * (last + 1 - i)
  | 0, i, o, h => by show (o.length : Int) ≤ _; omega
  | n + 1, i, o, h => by
    show ((if i ≤ last ∧ i < xs.length then prW (ladd 700) xs last n (i + 1) (prNum (ladd 700) (lat xs i) o) else o).length : Int) ≤ _
    split
    · have := prW_l (xs := xs) (last := last) n (i + 1) (prNum (ladd 700) (lat xs i) o) (by omega)
      have := prNum_l (v := lat xs i) (o := o)
      omega
    · omega
theorem wV.sh {V : Int → Int → Int} {b n : Int} {tx : List Int} {gs : List gG} {e : Int → Int} (hv : wV V b tx gs n e) (hp : PO gs) (hl : lsW tx gs) (hw : hoW gs) {k m : Int} (k0 : 0 ≤ k) (k1 : k < gs.length) (m0 : 0 ≤ m) (m1 : m < gs.length) : V 782 (20 * b + e k) = V 782 (20 * b + e m) ↔ shr (gq gs k) (gq gs m) = 1 := by
  have lm := hl.at m0 m1
  have lk := hl.at k0 k1
  have hm := hw.at m0 m1
  have hr := ((hv.1 (gq gs m).2.1 hm.1 (by omega)).2.2.2 (gq gs m).2.2.1 lm.1 (by omega)).2.1
  have em := (hr m m0 m1).mpr ⟨rfl, by omega, by omega⟩
  rw [shr_1]
  constructor
  · intro z
    have ck := (hr k k0 k1).mp (em.trans z.symm)
    obtain ⟨c1, c2, c3⟩ := ck
    refine ⟨c1.symm, ?_⟩
    by_cases c : k = m
    · rw [c]
    · by_cases c4 : k < m
      · rcases (hp k m k0 c4 m1).2 c1.symm with y | y <;> omega
      · rcases (hp m k m0 (by omega) k1).2 c1 with y | y <;> omega
  · intro z
    have h1 : (gq gs k).2.2.2.1 = (gq gs m).2.2.2.1 ∨ True := Or.inr trivial
    have ck : cvQ (gq gs k) (gq gs m).2.1 (gq gs m).2.2.1 := ⟨z.1.symm, by omega, by omega⟩
    exact ((hr k k0 k1).mpr ck).symm.trans em
theorem wV.lt {V : Int → Int → Int} {b n : Int} {tx : List Int} {gs : List gG} {e : Int → Int} (hv : wV V b tx gs n e) {g k : Int} (g0 : -1 ≤ g) (g1 : g < gs.length) (k0 : 0 ≤ k) (k1 : k < gs.length) : rkE e g < e k ↔ g < k := by
  unfold rkE
  have ek := hv.2.1 k k0 k1
  by_cases c : g < 0
  · rw [if_pos c]; omega
  · rw [if_neg c]
    by_cases c2 : g < k
    · have := hv.2.2.1 g k (by omega) c2 k1; omega
    · by_cases c3 : g = k
      · subst c3; omega
      · have := hv.2.2.1 k g k0 (by omega) g1; omega
def rowC (l : Launch) (E : gE) (d : Nat) (K : List gK) (R : Int → Int → Int) (Q : gQ) (V : Int → Int → Int) (b : Int) (tx : List Int) (gs : List gG) (e : Int → Int) (f : Nat) : Prop :=
  ∀ (h N0 D Bu : Int) (fu : Nat) (p N : Int) (out : pO) (V1 : Int → Int → Int) (j2 j3 : Option gV) (bc bs : Nat),
  wlF V V1 → V1 775 50 = D + 1 → V1 805 D = rkE e h → V1 806 D = p → V1 807 D = -1 → oI V1 e N → pI V1 out → RI gs h p N0 N → (-1 ≤ h ∧ h < gs.length) → (0 ≤ p ∧ p ≤ (rwL tx gs h).length ∧ (rwL tx gs h).length - p ≤ fu) → (0 ≤ D ∧ D + f = 4 ∧ dpt gs 21 h = D) → (out.length : Int) + 3 * ((rwL tx gs h).length - p) + 28 * (gs.length - N) + Bu ≤ 690 → 0 ≤ Bu →
  (∀ (V2 : Int → Int → Int) (N' : Int) (out' : pO) (k2 k3 : Option gV) (bc bs : Nat), roL (ladd 700) tx gs (prR (ladd 700) tx gs f) h fu p (N, out) = (N', out') → wlF V V2 → (∀ a, 805 ≤ a → a ≤ 808 → ∀ j, j < D → V2 a j = V1 a j) → V2 775 50 = D → oI V2 e N' → pI V2 out' → RI gs h (rwL tx gs h).length N0 N' → (out'.length : Int) + 28 * (gs.length - N') + Bu ≤ 690 → gX l E (gFm E (d + 4) iX12_walk Q) 20 [some (ga 775), some (gi b), k2, k3] [] (K, R, V2) bc bs) →
  gX l E (gFm E (d + 4) iX12_walk Q) 20 [some (ga 775), some (gi b), j2, j3] [] (K, R, V1) bc bs
section WLK
variable {l : Launch} {E : gE} {d : Nat} {K : List gK} {R V : Int → Int → Int} {b n : Int} {Q : gQ} {tx : List Int} {gs : List gG} {e : Int → Int}
theorem walk_st {f : Nat} (hM : mdK K R) (hv : wV V b tx gs n e) (hp : PO gs) (hl : lsW tx gs) (hw : hoW gs) (hwd : wdW tx gs) (hdp : ∀ g : Int, 0 ≤ g → g < gs.length → dpt gs 21 g ≤ 4) (ihf : ∀ f', f = f' + 1 → rowC l E d K R Q V b tx gs e f') : rowC l E d K R Q V b tx gs e f := by
  intro h N0 D Bu fu
  have g20 : gs.length ≤ 20 := hv.2.2.2.2.2.2.2
  have pop : ∀ (fu : Nat) (p N : Int) (out : pO) (V1 : Int → Int → Int) (j2 j3 : Option gV) (bc bs : Nat), ¬ p < (rwL tx gs h).length → roL (ladd 700) tx gs (prR (ladd 700) tx gs f) h fu p (N, out) = (N, out) → wlF V V1 → V1 775 50 = D + 1 → V1 805 D = rkE e h → V1 806 D = p → V1 807 D = -1 → oI V1 e N → pI V1 out → RI gs h p N0 N → (-1 ≤ h ∧ h < gs.length) → (0 ≤ p ∧ p ≤ (rwL tx gs h).length ∧ (rwL tx gs h).length - p ≤ fu) → (0 ≤ D ∧ D + f = 4 ∧ dpt gs 21 h = D) → (out.length : Int) + 3 * ((rwL tx gs h).length - p) + 28 * (gs.length - N) + Bu ≤ 690 → 0 ≤ Bu →
      (∀ (V2 : Int → Int → Int) (N' : Int) (out' : pO) (k2 k3 : Option gV) (bc bs : Nat), roL (ladd 700) tx gs (prR (ladd 700) tx gs f) h fu p (N, out) = (N', out') → wlF V V2 → (∀ a, 805 ≤ a → a ≤ 808 → ∀ j, j < D → V2 a j = V1 a j) → V2 775 50 = D → oI V2 e N' → pI V2 out' → RI gs h (rwL tx gs h).length N0 N' → (out'.length : Int) + 28 * (gs.length - N') + Bu ≤ 690 → gX l E (gFm E (d + 4) iX12_walk Q) 20 [some (ga 775), some (gi b), k2, k3] [] (K, R, V2) bc bs) →
      gX l E (gFm E (d + 4) iX12_walk Q) 20 [some (ga 775), some (gi b), j2, j3] [] (K, R, V1) bc bs := by
    intro fu p N out V1 j2 j3 bc bs c er w1 h50 hH hP hS ho hpo hr hh hpp hDD hbu hB0 hk
    refine walk_pop hM (hv.kept w1) (by omega) h50 hh hH hP hS (by omega) (fun k2 bc bs => ?_)
    have ep : p = (rwL tx gs h).length := by omega
    exact hk _ N out _ _ _ _ er (w1.uf (Or.inl rfl)) (fun a a1 a2 j hj => by rw [gup_ne (by omega)]) gup_s (ho.kept (gup_c (Or.inr (by omega))) (gup_ne (by omega)) (gup_ne (by omega))) (hpo.kept (gup_c (Or.inr (by omega))) (gup_ne (by omega))) (by rw [← ep]; exact hr) (by omega)
  induction fu with
  | zero =>
    intro p N out V1 j2 j3 bc bs w1 h50 hH hP hS ho hpo hr hh hpp hDD hbu hB0 hk
    exact pop 0 p N out V1 j2 j3 bc bs (by omega) rfl w1 h50 hH hP hS ho hpo hr hh hpp hDD hbu hB0 hk
  | succ fu ih =>
    intro p N out V1 j2 j3 bc bs w1 h50 hH hP hS ho hpo hr hh hpp hDD hbu hB0 hk
    by_cases c : p < (rwL tx gs h).length
    case neg => exact pop (fu + 1) p N out V1 j2 j3 bc bs c (if_neg c) w1 h50 hH hP hS ho hpo hr hh hpp hDD hbu hB0 hk
    have hv1 := hv.kept w1
    have hN4 := hr.1.2.2.2
    by_cases co : opn gs h p N = true
    case neg =>
      refine walk_word hM hv1 (by omega) h50 hh hH hP hS hwd ⟨hpp.1, c⟩ hpo (by omega) (fun k k0 k1 z => co (hr.opn hp hl hw k0 k1 z)) (fun V2 k2 bc bs a1 a2 a3 a4 => ?_)
      refine ih (p + 1) N _ V2 k2 j3 bc bs (w1.trans a4.wl) (by rw [a4.2.2 50 (by omega)]; exact h50) (by rw [a4.1 805 (by omega) (by omega) (by omega) (by omega) (by omega)]; exact hH) a2 (a3.trans hS) (ho.kept (a4.2.2 53 (by omega)) (a4.1 809 (by omega) (by omega) (by omega) (by omega) (by omega)) (a4.1 810 (by omega) (by omega) (by omega) (by omega) (by omega))) a1 (hr.word hp hl hw co) hh ⟨by omega, by omega, by omega⟩ hDD (by have := prNum_l (v := lat (rwL tx gs h) p) (o := out); omega) hB0 (fun V3 N' out' k2 k3 bc bs e1 e2 e3 e4 e5 e6 e7 e8 => ?_)
      refine hk V3 N' out' k2 k3 bc bs ?_ e2 (fun a a1 a2 j hj => (e3 a a1 a2 j hj).trans (a4.2.1 a a1 a2 j (by omega))) e4 e5 e6 e7 e8
      show (if p < (rwL tx gs h).length then (if opn gs h p N = true then _ else roL (ladd 700) tx gs (prR (ladd 700) tx gs f) h fu (p + 1) (N, prNum (ladd 700) (lat (rwL tx gs h) p) out)) else _) = _
      rw [if_pos c, if_neg co]
      exact e1
    obtain ⟨o1, o2, o3, o4, o5⟩ := opn_1.mp co
    have l1 := hl.at o1 o2
    rw [o3] at l1
    refine walk_open hM hv1 (by omega) h50 hh hH hP hS hwd ⟨hpp.1, c⟩ hpo o1 o2 ⟨o3, o4, o5, l1.2.2⟩ (by omega) (fun V2 k2 bc bs a1 a2 a3 a4 a5 => ?_)
    have hs0 := hr.spn hp hl co
    have eS : roL (ladd 700) tx gs (prR (ladd 700) tx gs f) h (fu + 1) p (N, out) = roL (ladd 700) tx gs (prR (ladd 700) tx gs f) h fu ((gq gs N).2.2.2.1 + 1) ((spT (ladd 700) gs (prR (ladd 700) tx gs f) (gq gs N) 20 (N, prW (ladd 700) (rwL tx gs h) (gq gs N).2.2.2.1 41 p (ladd 700 out 91))).1, ladd 700 (spT (ladd 700) gs (prR (ladd 700) tx gs f) (gq gs N) 20 (N, prW (ladd 700) (rwL tx gs h) (gq gs N).2.2.2.1 41 p (ladd 700 out 91))).2 93) := by
      show (if p < (rwL tx gs h).length then (if opn gs h p N = true then roL (ladd 700) tx gs (prR (ladd 700) tx gs f) h fu ((gq gs N).2.2.2.1 + 1) (prSp (ladd 700) tx gs (prR (ladd 700) tx gs f) (gq gs N) (N, out)) else _) else _) = _
      rw [if_pos c, if_pos co]
      unfold prSp
      rw [o3, o4]
    rw [eS] at hk
    generalize eT : spT (ladd 700) gs (prR (ladd 700) tx gs f) (gq gs N) 20 (N, prW (ladd 700) (rwL tx gs h) (gq gs N).2.2.2.1 41 p (ladd 700 out 91)) = T at hk
    have clo : ∀ (g N1 : Int) (o2 : pO) (V3 : Int → Int → Int) (k2 k3 : Option gV) (bc bs : Nat), wlF V V3 → V3 775 50 = D + 1 → V3 805 D = rkE e h → V3 806 D = (gq gs N).2.2.2.1 + 1 → V3 807 D = V 782 (20 * b + e N) → V3 808 D = rkE e g → oI V3 e N1 → pI V3 o2 → SI gs h (gq gs N) N0 g N1 → (∀ a, 805 ≤ a → a ≤ 808 → ∀ j, j < D → V3 a j = V1 a j) → ((o2.length : Int) + 1 + 3 * ((rwL tx gs h).length - ((gq gs N).2.2.2.1 + 1)) + 28 * (gs.length - N1) + Bu ≤ 690 ∨ (N1 = N ∧ (o2.length : Int) + 3 * ((rwL tx gs h).length - ((gq gs N).2.2.2.1 + 1)) + 28 * (gs.length - N1) + Bu ≤ 691)) → (N1, o2) = T → ¬ (0 ≤ N1 ∧ N1 < gs.length ∧ shr (gq gs N1) (gq gs N) = 1) → gX l E (gFm E (d + 4) iX12_walk Q) 20 [some (ga 775), some (gi b), k2, k3] [] (K, R, V3) bc bs := by
      intro g N1 ou V3 k2 k3 bc bs w3 g50 gH gP gS gG go gpo gs1 gf gb gT gn
      have hv3 := hv.kept w3
      have e782 : V3 782 = V 782 := w3.1 782 (by omega) (by omega)
      obtain ⟨⟨s1, s2, s3, s4, s5, s6, s7, s8⟩, -⟩ := id gs1
      have hgl : g < gs.length := by omega
      have hx := hv3.ex s6 hgl
      have gb1 : (ou.length : Int) + 1 + 3 * ((rwL tx gs h).length - ((gq gs N).2.2.2.1 + 1)) + 28 * (gs.length - N1) + Bu ≤ 690 := by
        rcases gb with z | z
        · exact z
        · exact absurd ⟨by omega, by omega, by rw [z.1]; exact shr_1.mpr ⟨rfl, rfl⟩⟩ gn
      refine walk_close hM hv3 (by omega) g50 gS (hv.2.1 N o1 o2).2.2.2.2 gG ⟨hx.1, hx.2⟩ gpo (by omega) (fun r hr => ?_) (fun V4 k2 k3 bc bs b1 b2 b3 b4 => ?_)
      · rcases hr with z | ⟨z1, z2, z3, z4, z5⟩
        · exact z.1
        · obtain ⟨k, k0, k1, ek⟩ := hv3.2.2.2.1 r (by omega) z2 z3
          rw [← ek, ← e782] at z4
          rw [← ek] at z1
          have sh := (hv3.sh hp hl hw k0 k1 o1 o2).mp z4
          exact absurd (gs1.nxt hp hl hw k0 k1 sh ((hv3.lt s6 hgl k0 k1).mp z1)).2 gn
      · have ln := ladd_l (n := 700) (xs := ou) (x := 93)
        refine ih ((gq gs N).2.2.2.1 + 1) N1 _ V4 k2 k3 bc bs (w3.trans b4.wl) (by rw [b4.2.2 50 (by omega)]; exact g50) (by rw [b4.1 805 (by omega) (by omega) (by omega) (by omega) (by omega)]; exact gH) (b2.trans gP) b3 (go.kept (b4.2.2 53 (by omega)) (b4.1 809 (by omega) (by omega) (by omega) (by omega) (by omega)) (b4.1 810 (by omega) (by omega) (by omega) (by omega) (by omega))) b1 (gs1.close hp hl hw gn) hh ⟨by omega, by omega, by omega⟩ hDD (by omega) hB0 (fun V5 N' out' k2 k3 bc bs e1 e2 e3 e4 e5 e6 e7 e8 => ?_)
        refine hk V5 N' out' k2 k3 bc bs (by rw [← gT]; exact e1) e2 (fun a a1 a2 j hj => ((e3 a a1 a2 j hj).trans (b4.2.1 a a1 a2 j (by omega))).trans (gf a a1 a2 j hj)) e4 e5 e6 e7 e8
    have spn : ∀ (m : Nat) (g N1 : Int) (o2 : pO) (V3 : Int → Int → Int) (k2 k3 : Option gV) (bc bs : Nat), wlF V V3 → V3 775 50 = D + 1 → V3 805 D = rkE e h → V3 806 D = (gq gs N).2.2.2.1 + 1 → V3 807 D = V 782 (20 * b + e N) → V3 808 D = rkE e g → oI V3 e N1 → pI V3 o2 → SI gs h (gq gs N) N0 g N1 → (∀ a, 805 ≤ a → a ≤ 808 → ∀ j, j < D → V3 a j = V1 a j) → ((o2.length : Int) + 1 + 3 * ((rwL tx gs h).length - ((gq gs N).2.2.2.1 + 1)) + 28 * (gs.length - N1) + Bu ≤ 690 ∨ (N1 = N ∧ (o2.length : Int) + 3 * ((rwL tx gs h).length - ((gq gs N).2.2.2.1 + 1)) + 28 * (gs.length - N1) + Bu ≤ 691)) → (gs.length : Int) - N1 ≤ m → spT (ladd 700) gs (prR (ladd 700) tx gs f) (gq gs N) m (N1, o2) = T → gX l E (gFm E (d + 4) iX12_walk Q) 20 [some (ga 775), some (gi b), k2, k3] [] (K, R, V3) bc bs := by
      intro m
      induction m with
      | zero =>
        intro g N1 ou V3 k2 k3 bc bs w3 g50 gH gP gS gG go gpo gs1 gf gb gm gT
        exact clo g N1 ou V3 k2 k3 bc bs w3 g50 gH gP gS gG go gpo gs1 gf gb gT (by omega)
      | succ m ihm =>
        intro g N1 ou V3 k2 k3 bc bs w3 g50 gH gP gS gG go gpo gs1 gf gb gm gT
        have uT : spT (ladd 700) gs (prR (ladd 700) tx gs f) (gq gs N) (m + 1) (N1, ou) = if 0 ≤ N1 ∧ N1 < gs.length ∧ shr (gq gs N1) (gq gs N) = 1 then spT (ladd 700) gs (prR (ladd 700) tx gs f) (gq gs N) m (prR (ladd 700) tx gs f N1 (N1 + 1, ladd 700 (ladd 700 ou 124) (if (gq gs N1).1 = 0 then 97 else 98))) else (N1, ou) := rfl
        rw [uT] at gT
        by_cases cs : 0 ≤ N1 ∧ N1 < gs.length ∧ shr (gq gs N1) (gq gs N) = 1
        case neg =>
          rw [if_neg cs] at gT
          exact clo g N1 ou V3 k2 k3 bc bs w3 g50 gH gP gS gG go gpo gs1 gf gb gT cs
        rw [if_pos cs] at gT
        obtain ⟨n0, n1, nsh⟩ := cs
        have hv3 := hv.kept w3
        have e782 : V3 782 = V 782 := w3.1 782 (by omega) (by omega)
        obtain ⟨⟨s1, s2, s3, s4, s5, s6, s7, s8⟩, -⟩ := id gs1
        have hgl : g < gs.length := by omega
        have hx := hv3.ex s6 hgl
        have hen := hv3.2.1 N1 n0 n1
        have hn20 := hv3.2.2.2.2.2.1
        have dn := dpt_h hw g20 n0 n1
        have dn4 := hdp N1 n0 n1
        have hsr := shr_1.mp nsh
        rw [hsr.1, o3] at dn
        obtain ⟨f', ef⟩ : ∃ f', f = f' + 1 := ⟨f - 1, by omega⟩
        have sp1 := (hv3.sh hp hl hw n0 n1 o1 o2).mpr nsh
        rw [e782] at sp1
        have r8 := (hv3.1 N1 (by omega) n1).2.2.1 n0
        have ln1 := ladd_l (n := 700) (xs := ou) (x := 124)
        have ln2 := ladd_l (n := 700) (xs := ladd 700 ou 124) (x := if (gq gs N1).1 = 0 then 97 else 98)
        refine walk_ent (r0 := e N1) hM hv3 (by omega) g50 gS (hv.2.1 N o1 o2).2.2.2.2 gG ⟨hx.1, hx.2⟩ gpo (by omega) (by omega) ⟨hen.1, by omega⟩ go.1 ⟨n0, by omega⟩ (fun r hr => ?_) (fun V4 k2 k3 bc bs b1 b2 b3 b4 b5 b6 b7 b8 b9 b10 b11 b12 => ?_)
        · have lt1 := (hv3.lt s6 hgl n0 n1).mpr s5
          rcases hr with z | ⟨z1, z2, z3, z4, z5⟩
          · exact absurd ⟨hen.2.2.1, by rw [e782]; exact sp1⟩ (z.2 (e N1) lt1 hen.2.1)
          · obtain ⟨k, k0, k1, ek⟩ := hv3.2.2.2.1 r (by omega) z2 z3
            rw [← ek, ← e782] at z4
            have sh := (hv3.sh hp hl hw k0 k1 o1 o2).mp z4
            have nx := gs1.nxt hp hl hw k0 k1 sh ((hv3.lt s6 hgl k0 k1).mp (by rw [ek]; exact z1))
            by_cases ck : N1 = k
            · rw [ck, ek]
            · have := hv3.2.2.1 N1 k n0 (by omega) k1
              exact absurd ⟨hen.2.2.1, by rw [e782]; exact sp1⟩ (z5 (e N1) lt1 (by omega))
        · rw [hen.2.2.2.1] at b1
          have erk : rkE e N1 = e N1 := if_neg (by omega)
          have oI4 : oI V4 e (N1 + 1) := ⟨b3, fun k k0 k1 => by
            rw [b4, b5]
            by_cases ck : k = N1
            · subst ck; rw [if_pos rfl, if_pos rfl]; exact ⟨rfl, rfl⟩
            · have := hv3.2.2.1 k N1 k0 (by omega) n1
              rw [if_neg ck, if_neg (by omega)]
              exact go.2 k k0 (by omega)⟩
          refine ihf f' ef N1 (N1 + 1) (D + 1) (Bu + 1 + 3 * ((rwL tx gs h).length - ((gq gs N).2.2.2.1 + 1))) 41 0 (N1 + 1) _ V4 k2 k3 bc bs (w3.trans b12) b2 (by rw [erk]; exact b11.1) b11.2.1 b11.2.2 oI4 b1 (gs1.enter hl hw n1) ⟨by omega, n1⟩ ⟨by omega, by omega, by omega⟩ ⟨by omega, by omega, by omega⟩ (by omega) (by omega) (fun V5 N' out' k2 k3 bc bs c1 c2 c3 c4 c5 c6 c7 c8 => ?_)
          have sb := gs1.back hl hw n1 nsh rfl c7
          have f5 : ∀ a, 805 ≤ a → a ≤ 808 → V5 a D = V4 a D := fun a a1 a2 => c3 a a1 a2 D (by omega)
          refine ihm N1 N' out' V5 k2 k3 bc bs c2 c4 (by rw [f5 805 (by omega) (by omega), b7]; exact gH) (by rw [f5 806 (by omega) (by omega), b8]; exact gP) (by rw [f5 807 (by omega) (by omega), b9]; exact gS) (by rw [f5 808 (by omega) (by omega), b10, erk]) c5 c6 sb (fun a a1 a2 j hj => ((c3 a a1 a2 j (by omega)).trans (b6 a a1 a2 j hj)).trans (gf a a1 a2 j hj)) (Or.inl (by omega)) (by have := c7.1; omega) ?_
          subst ef
          rw [← c1]
          exact gT
    have pl := prW_l (xs := rwL tx gs h) (last := (gq gs N).2.2.2.1) 41 p (ladd 700 out 91) (by omega)
    have ln0 := ladd_l (n := 700) (xs := out) (x := 91)
    refine spn 20 (-1) N _ V2 k2 j3 bc bs (w1.trans a5.wl) (by rw [a5.2.2 50 (by omega)]; exact h50) (by rw [a5.1 805 (by omega) (by omega) (by omega) (by omega) (by omega)]; exact hH) a2 (by rw [a3, w1.1 782 (by omega) (by omega)]) (a4.trans (if_pos (by omega)).symm) (ho.kept (a5.2.2 53 (by omega)) (a5.1 809 (by omega) (by omega) (by omega) (by omega) (by omega)) (a5.1 810 (by omega) (by omega) (by omega) (by omega) (by omega))) a1 hs0 (fun a a1 a2 j hj => a5.2.1 a a1 a2 j (by omega)) (Or.inr ⟨rfl, by omega⟩) (by omega) eT
theorem walk_all (hM : mdK K R) (hv : wV V b tx gs n e) (hp : PO gs) (hl : lsW tx gs) (hw : hoW gs) (hwd : wdW tx gs) (hdp : ∀ g : Int, 0 ≤ g → g < gs.length → dpt gs 21 g ≤ 4) : ∀ f : Nat, rowC l E d K R Q V b tx gs e f
  | 0 => walk_st hM hv hp hl hw hwd hdp (fun f' ef => by omega)
  | f + 1 => walk_st hM hv hp hl hw hwd hdp (fun f' ef => by
      have : f' = f := by omega
      subst this
      exact walk_all hM hv hp hl hw hwd hdp f')
end WLK
