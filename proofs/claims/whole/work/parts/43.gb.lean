/-! GlossedBooks: its state, what its calls share, the calls that only look. Written by wip/whole/tools/mk_gb.py. -/
/-- a book: text, glosses, exemplar, scribe, chances, takes -/
abbrev gbB : Type := List Int × List gG × Int × Int × List Int × List Int
/-- a hand: from, to, each for, each, reach, way -/
abbrev gbH : Type := List Int × List Int × List Int × List Int × Int × Int
/-- books, hands, the told bytes, where the fault is -/
abbrev gbS : Type := List gbB × List gbH × List Int × Int
def gbK (K : List gK) (R : Int → Int → Int) (D T P S' A W L U : Int) : Prop :=
  (D = 3 ∧ T = 12 ∧ P = 15 ∧ S' = 16 ∧ A = 19 ∧ W = 25 ∧ L = 32 ∧ U = 37) ∧ kd (K, R, fun _ _ => 0) 0 = some (.inl 10) ∧ (R 0 0 = 1 ∧ R 0 1 = 2 ∧ R 0 2 = D ∧ R 0 3 = T ∧ R 0 4 = P ∧ R 0 5 = S' ∧ R 0 6 = A ∧ R 0 7 = W ∧ R 0 8 = L ∧ R 0 9 = U) ∧ kd (K, R, fun _ _ => 0) 1 = some (.inr (2, 10)) ∧ kd (K, R, fun _ _ => 0) 2 = some (.inr (3, 4)) ∧ hdK K R D ∧ toK K R T ∧ rdK K R P ∧ scK K R S' ∧ gAl K R A ∧ wtK K R W ∧ trK K R L ∧ gRow K R U 700 ∧ (∀ b : Int, 0 ≤ b → b < 10 → R 1 b = 39 + 70 * b ∧ bkK K R (39 + 70 * b)) ∧ ∀ h : Int, 0 ≤ h → h < 4 → R 2 h = 739 + 9 * h ∧ hdK K R (739 + 9 * h)
def bk1 (V : Int → Int → Int) (B : Int) (q : gbB) : Prop := bkIs V B q.1 q.2.1 ∧ bmIs V B q.2.2.1 q.2.2.2.1 q.2.2.2.2.1 q.2.2.2.2.2
def hd1 (V : Int → Int → Int) (H : Int) (h : gbH) : Prop := hdIs V H h.1 h.2.1 h.2.2.1 h.2.2.2.1 h.2.2.2.2.1 h.2.2.2.2.2
def gbIs (V : Int → Int → Int) (S : gbS) : Prop := V 0 10 = S.1.length ∧ S.1.length ≤ 10 ∧ V 0 11 = S.2.2.2 ∧ (∀ (k : Nat) (q : gbB), S.1[k]? = some q → bk1 V (39 + 70 * k) q) ∧ S.2.1.length = 4 ∧ (∀ (k : Nat) (h : gbH), S.2.1[k]? = some h → hd1 V (739 + 9 * k) h) ∧ rIs V 13 320 S.2.2.1
def gbD : gbB := ([], [], -1, -1, [], [])
def ghD : gbH := ([], [], [], [], -1, -1)
def gbq (S : gbS) (b : Int) : gbB := S.1.getD b.toNat gbD
def ghq (S : gbS) (h : Int) : gbH := S.2.1.getD h.toNat ghD
theorem bk1.kept {V V' : Int → Int → Int} {B : Int} {q : gbB} (h : bk1 V B q) (hf : ∀ a, B ≤ a → a < B + 70 → V' a = V a) : bk1 V' B q := ⟨h.1.kept hf, h.2.kept fun a h1 h2 => hf a h1 (by omega)⟩
theorem hd1.kept {V V' : Int → Int → Int} {H : Int} {q : gbH} (h : hd1 V H q) (hf : ∀ a, H ≤ a → a < H + 9 → V' a = V a) : hd1 V' H q := by
  obtain ⟨h1, h2, h3, h4, h5, h6⟩ := h
  exact ⟨h1.kept (hf _ (by omega) (by omega)) (hf _ (by omega) (by omega)), h2.kept (hf _ (by omega) (by omega)) (hf _ (by omega) (by omega)), h3.kept (hf _ (by omega) (by omega)) (hf _ (by omega) (by omega)), h4.kept (hf _ (by omega) (by omega)) (hf _ (by omega) (by omega)), by rw [hf H (by omega) (by omega)]; exact h5, by rw [hf H (by omega) (by omega)]; exact h6⟩
theorem gbIs.bk {V : Int → Int → Int} {S : gbS} (h : gbIs V S) {b B : Int} (h0 : 0 ≤ b) (h1 : b < S.1.length) (eB : B = 39 + 70 * b) : bk1 V B (gbq S b) := by
  have e : S.1[b.toNat]? = some (gbq S b) := by
    have hl : b.toNat < S.1.length := by omega
    unfold gbq
    rw [List.getD_eq_getElem?_getD, List.getElem?_eq_getElem hl]
    rfl
  have h2 := h.2.2.2.1 _ _ e
  rw [Int.toNat_of_nonneg h0, ← eB] at h2
  exact h2
theorem gbIs.hd {V : Int → Int → Int} {S : gbS} (h : gbIs V S) {b B : Int} (h0 : 0 ≤ b) (h1 : b < 4) (eB : B = 739 + 9 * b) : hd1 V B (ghq S b) := by
  have e : S.2.1[b.toNat]? = some (ghq S b) := by
    have hl : b.toNat < S.2.1.length := by have := h.2.2.2.2.1; omega
    unfold ghq
    rw [List.getD_eq_getElem?_getD, List.getElem?_eq_getElem hl]
    rfl
  have h2 := h.2.2.2.2.2.1 _ _ e
  rw [Int.toNat_of_nonneg h0, ← eB] at h2
  exact h2
theorem gbIs.frB {V V' : Int → Int → Int} {S : gbS} (h : gbIs V S) {ys : List Int} {fa : Int} (hb : ∀ a, 39 ≤ a → a < 39 + 70 * (S.1.length : Int) → V' a = V a) (hh : ∀ a, 739 ≤ a → a < 775 → V' a = V a) (h10 : V' 0 10 = S.1.length) (h11 : V' 0 11 = fa) (hy : rIs V' 13 320 ys) : gbIs V' (S.1, S.2.1, ys, fa) :=
  ⟨h10, h.2.1, h11, fun k q hk => (h.2.2.2.1 k q hk).kept fun a h1 h2 => hb a (by omega) (by have hkl : k < S.1.length := (List.getElem?_eq_some_iff.mp hk).1; omega), h.2.2.2.2.1, fun k q hk => (h.2.2.2.2.2.1 k q hk).kept fun a h1 h2 => hh a (by omega) (by have hkl : k < S.2.1.length := (List.getElem?_eq_some_iff.mp hk).1; have := h.2.2.2.2.1; omega), hy⟩
/-- what only looks keeps all -/
theorem gbIs.look {V V' : Int → Int → Int} {S : gbS} (h : gbIs V S) (hf : gFr V V' 15 39) : gbIs V' S := by
  have h2 : S.1.length ≤ 10 := h.2.1
  exact h.frB (ys := S.2.2.1) (fa := S.2.2.2) (fun a h1 _ => hf a (by omega)) (fun a h1 _ => hf a (by omega)) (by rw [hf 0 (by omega)]; exact h.1) (by rw [hf 0 (by omega)]; exact h.2.2.1) (h.2.2.2.2.2.2.kept (hf 13 (by omega)) (hf _ (by omega)))
theorem gbIs.setb {V V' : Int → Int → Int} {S : gbS} (h : gbIs V S) {b B : Int} {q : gbB} (h0 : 0 ≤ b) (h1 : b < S.1.length) (eB : B = 39 + 70 * b) (hq : bk1 V' B q) (hf : ∀ a, a < B ∨ B + 70 ≤ a → V' a = V a) : gbIs V' (S.1.set b.toNat q, S.2) := by
  refine ⟨by rw [hf 0 (by omega)]; show V 0 10 = ((S.1.set b.toNat q).length : Int); rw [List.length_set]; exact h.1, by show (S.1.set b.toNat q).length ≤ 10; rw [List.length_set]; exact h.2.1, by rw [hf 0 (by omega)]; exact h.2.2.1, fun k p hk => ?_, h.2.2.2.2.1, fun k p hk => (h.2.2.2.2.2.1 k p hk).kept fun a g1 g2 => hf a (by have := h.2.1; omega), h.2.2.2.2.2.2.kept (hf 13 (by omega)) (hf _ (by omega))⟩
  have hk2 : (S.1.set b.toNat q)[k]? = some p := hk
  by_cases e : b.toNat = k
  · subst e
    rw [List.getElem?_set_self (by omega)] at hk2
    cases hk2
    rw [Int.toNat_of_nonneg h0, ← eB]
    exact hq
  · rw [List.getElem?_set_ne e] at hk2
    exact (h.2.2.2.1 k p hk2).kept fun a g1 g2 => hf a (by omega)
theorem gbIs.push {V V' : Int → Int → Int} {S : gbS} (h : gbIs V S) {B : Int} {q : gbB} {ys : List Int} {fa : Int} (hl : S.1.length < 10) (eB : B = 39 + 70 * (S.1.length : Int)) (hq : bk1 V' B q) (hb : ∀ a, 39 ≤ a → a < B → V' a = V a) (hh : ∀ a, 739 ≤ a → a < 775 → V' a = V a) (h10 : V' 0 10 = S.1.length + 1) (h11 : V' 0 11 = fa) (hy : rIs V' 13 320 ys) : gbIs V' (S.1 ++ [q], S.2.1, ys, fa) := by
  refine ⟨by show V' 0 10 = ((S.1 ++ [q]).length : Int); rw [h10, List.length_append]; rfl, by show (S.1 ++ [q]).length ≤ 10; rw [List.length_append]; show S.1.length + 1 ≤ 10; omega, h11, fun k p hk => ?_, h.2.2.2.2.1, fun k p hk => (h.2.2.2.2.2.1 k p hk).kept fun a h1 h2 => hh a (by omega) (by have hkl : k < S.2.1.length := (List.getElem?_eq_some_iff.mp hk).1; have := h.2.2.2.2.1; omega), hy⟩
  have hk2 : (S.1 ++ [q])[k]? = some p := hk
  by_cases e : k < S.1.length
  · rw [List.getElem?_append_left e] at hk2
    exact (h.2.2.2.1 k p hk2).kept fun a g1 g2 => hb a (by omega) (by omega)
  · rw [List.getElem?_append_right (by omega)] at hk2
    by_cases e2 : k - S.1.length = 0
    · rw [e2] at hk2
      cases hk2
      have e3 : (39 : Int) + 70 * (k : Int) = B := by omega
      rw [e3]
      exact hq
    · have : ([q] : List gbB)[k - S.1.length]? = none := List.getElem?_eq_none (by show 1 ≤ k - S.1.length; omega)
      rw [this] at hk2
      cases hk2
theorem gbIs.seth {V V' : Int → Int → Int} {S : gbS} (h : gbIs V S) {b B : Int} {q : gbH} (h0 : 0 ≤ b) (h1 : b < 4) (eB : B = 739 + 9 * b) (hq : hd1 V' B q) (hf : ∀ a, a < B ∨ B + 9 ≤ a → V' a = V a) : gbIs V' (S.1, S.2.1.set b.toNat q, S.2.2) := by
  have h10 := h.2.1
  refine ⟨by rw [hf 0 (by omega)]; exact h.1, h.2.1, by rw [hf 0 (by omega)]; exact h.2.2.1, fun k p hk => (h.2.2.2.1 k p hk).kept fun a g1 g2 => hf a (by have hkl : k < S.1.length := (List.getElem?_eq_some_iff.mp hk).1; omega), by show (S.2.1.set b.toNat q).length = 4; rw [List.length_set]; exact h.2.2.2.2.1, fun k p hk => ?_, h.2.2.2.2.2.2.kept (hf 13 (by omega)) (hf _ (by omega))⟩
  have hk2 : (S.2.1.set b.toNat q)[k]? = some p := hk
  by_cases e : b.toNat = k
  · subst e
    rw [List.getElem?_set_self (by have := h.2.2.2.2.1; omega)] at hk2
    cases hk2
    rw [Int.toNat_of_nonneg h0, ← eB]
    exact hq
  · rw [List.getElem?_set_ne e] at hk2
    exact (h.2.2.2.2.2.1 k p hk2).kept fun a g1 g2 => hf a (by omega)
-- the answers
def aHabit (S : gbS) (h w : Int) : Int := if 0 ≤ h ∧ h < 4 then (if w = 0 then ((ghq S h).1.length : Int) else if 1 ≤ w ∧ w ≤ 5 then lat (ghq S h).2.2.2.1 w else if w = 6 then (ghq S h).2.2.2.2.1 else if w = 7 then (ghq S h).2.2.2.2.2 else -1002) else -1001
def aTaken (S : gbS) (b h al : Int) : Int := if 0 ≤ b ∧ b < S.1.length then (if h < 0 ∨ 5 < h then -1002 else if (gbq S b).2.2.1 = -1 then -1003 else if al = 0 then lat (gbq S b).2.2.2.2.2 h else lat (gbq S b).2.2.2.2.1 h) else -1001
def prL (q : gbB) : List Int := (prR (ladd 700) q.1 q.2.1 5 (-1) (0, [])).2
def aPrint (S : gbS) (b i : Int) : Int := if 0 ≤ b ∧ b < S.1.length then (if i = -1 then ((prL (gbq S b)).length : Int) else lat (prL (gbq S b)) i) else -1001
def aWord (S : gbS) (b i : Int) : Int := if 0 ≤ b ∧ b < S.1.length then lat (gbq S b).1 i else -1001
def aAbout (S : gbS) (b w : Int) : Int := if 0 ≤ b ∧ b < S.1.length then (if w = 0 then ((gbq S b).1.length : Int) else if w = 1 then ((gbq S b).2.1.length : Int) else if w = 2 then dptM (gbq S b).2.1 else if w = 3 then (gbq S b).2.2.1 else if w = 4 then (gbq S b).2.2.2.1 else if w = 5 then spnC (gbq S b).2.1 else if w = 6 then abvC (gbq S b).2.1 else if w = 7 then rwsC (gbq S b).2.1 else -1002) else -1001
def aGloss (S : gbS) (b g w : Int) : Int := if 0 ≤ b ∧ b < S.1.length then (if 0 ≤ g ∧ g < (gbq S b).2.1.length then (if w = 0 then (gq (gbq S b).2.1 g).1 else if w = 1 then (gq (gbq S b).2.1 g).2.1 else if w = 2 then (gq (gbq S b).2.1 g).2.2.1 else if w = 3 then (gq (gbq S b).2.1 g).2.2.2.1 else if w = 4 then ((gq (gbq S b).2.1 g).2.2.2.2.2.length : Int) else if w = 5 then dpt (gbq S b).2.1 5 g else if w = 6 then ordS (gbq S b).2.1 g else if 7 ≤ w ∧ w < 15 then lat (gq (gbq S b).2.1 g).2.2.2.2.2 (w - 7) else -1002) else -1001) else -1001
def copC (S : gbS) : Int := cntB (fun k => decide ((gbq S k).2.2.1 ≠ -1)) S.1.length
def aCount (S : gbS) (w : Int) : Int := if w = 0 then (S.1.length : Int) else if w = 1 then (S.2.2.1.length : Int) else if w = 2 then copC S else -1002
def aExpl (S : gbS) (b w : Int) : Int := if 0 ≤ b ∧ b < S.1.length then (if 0 ≤ w ∧ w ≤ 63 then expl (gbq S b).1 (gbq S b).2.1 (glshl 1 w) else -1002) else -1001
def aSteps (S : gbS) (b w v : Int) : Int := if 0 ≤ b ∧ b < S.1.length then (if (0 ≤ w ∧ w ≤ 63) ∧ (0 ≤ v ∧ v ≤ 63) then stps (gbq S b).1 (gbq S b).2.1 w v else -1002) else -1001
def rouF (tx : List Int) (gs : List gG) : Nat → Int → Int → Int
  | 0, _, x => x
  | j + 1, w, x => rouF tx gs j (w + 1) (if stps tx gs w w = -1 then x else glor x (glshl 1 w))
def aRound (S : gbS) (b : Int) : Int := if 0 ≤ b ∧ b < S.1.length then rouF (gbq S b).1 (gbq S b).2.1 64 0 0 else -1001
section GB
variable {l : Launch} {E : gE} {d : Nat} {K : List gK} {R V : Int → Int → Int} {D T P S' A W L U B H b h i w : Int} {Q : gQ} {S : gbS}
theorem c_glossAtE {tx : List Int} {gs : List gG} {g G : Int} (hB : bkK K R B) (hb : bkIs V B tx gs) (h0 : 0 ≤ g) (h1 : g < gs.length) (eG : G = B + 10 + 3 * g) (hQ : Q (some (ga G)) (K, R, V)) : gC l E (d + 1) iX1_glossAt [ga B, gi g] (K, R, V) Q := c_glossAt hB hb h0 h1 (by rw [← eG]; exact hQ)
set_option maxRecDepth 4000 in
theorem c_bookAt (hG : gbK K R D T P S' A W L U) (hS : gbIs V S) (hr : 0 ≤ b ∧ b < S.1.length) (eB : B = 39 + 70 * b) (hQ : Q (some (ga B)) (K, R, V)) : gC l E (d + 1) iX11_bookAt [ga 0, gi b] (K, R, V) Q := by
  refine gC_of kX11_bookAt (ls := [some (ga 0), some (gi b)]) rfl (Nat.le_of_ble_eq_true rfl) ?_
  have hG0 := hG
  obtain ⟨⟨eD, eT, eP, eS, eA, eW, eL, eU⟩, hO, ⟨r0, r1, r2, r3, r4, r5, r6, r7, r8, r9⟩, k1, k2, hDr, hTo, hRe, hSc, hAl, hWt, hTr, hPr, hBk, hHd⟩ := hG
  have hn0 := hS.1
  have hn1 := hS.2.1
  refine gX_iloadn dX11_bookAt_0 rfl ?_
  refine gX_iflt (tgt := 30) dX11_bookAt_1 (by decide) (fun w1 => ?_) (fun w1 => ?_)
  · exfalso
    omega
  · refine gX_iloadn dX11_bookAt_4 rfl ?_
    refine gX_aloadn dX11_bookAt_5 rfl ?_
    refine gX_gI 10 dX11_bookAt_6 fdX11_77 rfl (Or.inl rfl) hO ?_
    rw [hn0]
    refine gX_icmpge (tgt := 30) dX11_bookAt_9 (by decide) (fun w2 => ?_) (fun w2 => ?_)
    · exfalso
      omega
    · refine gX_iloadn dX11_bookAt_12 rfl ?_
      refine gX_aloadn dX11_bookAt_13 rfl ?_
      refine gX_gR 0 dX11_bookAt_14 fdX11_11 rfl rfl hO r0 ?_
      refine gX_alen dX11_bookAt_17 k1 (by decide) (by omega) ?_
      refine gX_icmpge (tgt := 30) dX11_bookAt_18 (by decide) (fun w3 => ?_) (fun w3 => ?_)
      · exfalso
        omega
      · refine gX_aloadn dX11_bookAt_21 rfl ?_
        refine gX_gR 0 dX11_bookAt_22 fdX11_11 rfl rfl hO r0 ?_
        refine gX_iloadn dX11_bookAt_25 rfl ?_
        refine gX_aald dX11_bookAt_26 k1 rfl (by omega) (by omega) (show R 1 b = B by rw [(hBk b (by omega) (by omega)).1]; exact eB.symm) ?_
        refine gX_goto (tgt := 31) dX11_bookAt_27 (by decide) ?_
        refine gX_aret dX11_bookAt_31 rfl rfl ?_
        exact hQ
set_option maxRecDepth 4000 in
theorem c_bookAtN (hG : gbK K R D T P S' A W L U) (hS : gbIs V S) (hr : ¬ (0 ≤ b ∧ b < S.1.length)) (hQ : Q (some (ga (-1))) (K, R, V)) : gC l E (d + 1) iX11_bookAt [ga 0, gi b] (K, R, V) Q := by
  refine gC_of kX11_bookAt (ls := [some (ga 0), some (gi b)]) rfl (Nat.le_of_ble_eq_true rfl) ?_
  have hG0 := hG
  obtain ⟨⟨eD, eT, eP, eS, eA, eW, eL, eU⟩, hO, ⟨r0, r1, r2, r3, r4, r5, r6, r7, r8, r9⟩, k1, k2, hDr, hTo, hRe, hSc, hAl, hWt, hTr, hPr, hBk, hHd⟩ := hG
  have hn0 := hS.1
  have hn1 := hS.2.1
  refine gX_iloadn dX11_bookAt_0 rfl ?_
  refine gX_iflt (tgt := 30) dX11_bookAt_1 (by decide) (fun w1 => ?_) (fun w1 => ?_)
  · refine gX_null dX11_bookAt_30 ?_
    refine gX_aret dX11_bookAt_31 rfl rfl ?_
    exact hQ
  · refine gX_iloadn dX11_bookAt_4 rfl ?_
    refine gX_aloadn dX11_bookAt_5 rfl ?_
    refine gX_gI 10 dX11_bookAt_6 fdX11_77 rfl (Or.inl rfl) hO ?_
    rw [hn0]
    refine gX_icmpge (tgt := 30) dX11_bookAt_9 (by decide) (fun w2 => ?_) (fun w2 => ?_)
    · refine gX_null dX11_bookAt_30 ?_
      refine gX_aret dX11_bookAt_31 rfl rfl ?_
      exact hQ
    · exfalso
      omega
set_option maxRecDepth 4000 in
theorem c_freshBook (hG : gbK K R D T P S' A W L U) (hS : gbIs V S) (hr : S.1.length < 10) (eB : B = 39 + 70 * (S.1.length : Int)) (hQ : Q (some (ga B)) (K, R, V)) : gC l E (d + 1) iX11_freshBook [ga 0] (K, R, V) Q := by
  refine gC_of kX11_freshBook (ls := [some (ga 0)]) rfl (Nat.le_of_ble_eq_true rfl) ?_
  have hG0 := hG
  obtain ⟨⟨eD, eT, eP, eS, eA, eW, eL, eU⟩, hO, ⟨r0, r1, r2, r3, r4, r5, r6, r7, r8, r9⟩, k1, k2, hDr, hTo, hRe, hSc, hAl, hWt, hTr, hPr, hBk, hHd⟩ := hG
  have hn0 := hS.1
  have hn1 := hS.2.1
  refine gX_aloadn dX11_freshBook_0 rfl ?_
  refine gX_gI 10 dX11_freshBook_1 fdX11_77 rfl (Or.inl rfl) hO ?_
  rw [hn0]
  refine gX_iflt (tgt := 31) dX11_freshBook_4 (by decide) (fun w1 => ?_) (fun w1 => ?_)
  · exfalso
    omega
  · refine gX_aloadn dX11_freshBook_7 rfl ?_
    refine gX_gI 10 dX11_freshBook_8 fdX11_77 rfl (Or.inl rfl) hO ?_
    rw [hn0]
    refine gX_aloadn dX11_freshBook_11 rfl ?_
    refine gX_gR 0 dX11_freshBook_12 fdX11_11 rfl rfl hO r0 ?_
    refine gX_alen dX11_freshBook_15 k1 (by decide) (by omega) ?_
    refine gX_icmpge (tgt := 31) dX11_freshBook_16 (by decide) (fun w2 => ?_) (fun w2 => ?_)
    · exfalso
      omega
    · refine gX_aloadn dX11_freshBook_19 rfl ?_
      refine gX_gR 0 dX11_freshBook_20 fdX11_11 rfl rfl hO r0 ?_
      refine gX_aloadn dX11_freshBook_23 rfl ?_
      refine gX_gI 10 dX11_freshBook_24 fdX11_77 rfl (Or.inl rfl) hO ?_
      rw [hn0]
      refine gX_aald dX11_freshBook_27 k1 rfl (by omega) (by omega) (show R 1 (S.1.length : Int) = B by rw [(hBk _ (by omega) (by omega)).1]; exact eB.symm) ?_
      refine gX_goto (tgt := 32) dX11_freshBook_28 (by decide) ?_
      refine gX_aret dX11_freshBook_32 rfl rfl ?_
      exact hQ
set_option maxRecDepth 4000 in
theorem c_freshBookN (hG : gbK K R D T P S' A W L U) (hS : gbIs V S) (hr : ¬ S.1.length < 10) (hQ : Q (some (ga (-1))) (K, R, V)) : gC l E (d + 1) iX11_freshBook [ga 0] (K, R, V) Q := by
  refine gC_of kX11_freshBook (ls := [some (ga 0)]) rfl (Nat.le_of_ble_eq_true rfl) ?_
  have hG0 := hG
  obtain ⟨⟨eD, eT, eP, eS, eA, eW, eL, eU⟩, hO, ⟨r0, r1, r2, r3, r4, r5, r6, r7, r8, r9⟩, k1, k2, hDr, hTo, hRe, hSc, hAl, hWt, hTr, hPr, hBk, hHd⟩ := hG
  have hn0 := hS.1
  have hn1 := hS.2.1
  refine gX_aloadn dX11_freshBook_0 rfl ?_
  refine gX_gI 10 dX11_freshBook_1 fdX11_77 rfl (Or.inl rfl) hO ?_
  rw [hn0]
  refine gX_iflt (tgt := 31) dX11_freshBook_4 (by decide) (fun w1 => ?_) (fun w1 => ?_)
  · refine gX_null dX11_freshBook_31 ?_
    refine gX_aret dX11_freshBook_32 rfl rfl ?_
    exact hQ
  · refine gX_aloadn dX11_freshBook_7 rfl ?_
    refine gX_gI 10 dX11_freshBook_8 fdX11_77 rfl (Or.inl rfl) hO ?_
    rw [hn0]
    refine gX_aloadn dX11_freshBook_11 rfl ?_
    refine gX_gR 0 dX11_freshBook_12 fdX11_11 rfl rfl hO r0 ?_
    refine gX_alen dX11_freshBook_15 k1 (by decide) (by omega) ?_
    refine gX_icmpge (tgt := 31) dX11_freshBook_16 (by decide) (fun w2 => ?_) (fun w2 => ?_)
    · refine gX_null dX11_freshBook_31 ?_
      refine gX_aret dX11_freshBook_32 rfl rfl ?_
      exact hQ
    · exfalso
      omega
set_option maxRecDepth 4000 in
theorem c_handAt (hG : gbK K R D T P S' A W L U) (hr : 0 ≤ h ∧ h < 4) (eH : H = 739 + 9 * h) (hQ : Q (some (ga H)) (K, R, V)) : gC l E (d + 1) iX11_handAt [ga 0, gi h] (K, R, V) Q := by
  refine gC_of kX11_handAt (ls := [some (ga 0), some (gi h)]) rfl (Nat.le_of_ble_eq_true rfl) ?_
  have hG0 := hG
  obtain ⟨⟨eD, eT, eP, eS, eA, eW, eL, eU⟩, hO, ⟨r0, r1, r2, r3, r4, r5, r6, r7, r8, r9⟩, k1, k2, hDr, hTo, hRe, hSc, hAl, hWt, hTr, hPr, hBk, hHd⟩ := hG
  refine gX_iloadn dX11_handAt_0 rfl ?_
  refine gX_iflt (tgt := 22) dX11_handAt_1 (by decide) (fun w1 => ?_) (fun w1 => ?_)
  · exfalso
    omega
  · refine gX_iloadn dX11_handAt_4 rfl ?_
    refine gX_aloadn dX11_handAt_5 rfl ?_
    refine gX_gR 1 dX11_handAt_6 fdX11_17 rfl rfl hO r1 ?_
    refine gX_alen dX11_handAt_9 k2 (by decide) (by omega) ?_
    refine gX_icmpge (tgt := 22) dX11_handAt_10 (by decide) (fun w2 => ?_) (fun w2 => ?_)
    · exfalso
      omega
    · refine gX_aloadn dX11_handAt_13 rfl ?_
      refine gX_gR 1 dX11_handAt_14 fdX11_17 rfl rfl hO r1 ?_
      refine gX_iloadn dX11_handAt_17 rfl ?_
      refine gX_aald dX11_handAt_18 k2 rfl (by omega) (by omega) (show R 2 h = H by rw [(hHd h (by omega) (by omega)).1]; exact eH.symm) ?_
      refine gX_goto (tgt := 23) dX11_handAt_19 (by decide) ?_
      refine gX_aret dX11_handAt_23 rfl rfl ?_
      exact hQ
set_option maxRecDepth 4000 in
theorem c_handAtN (hG : gbK K R D T P S' A W L U) (hr : ¬ (0 ≤ h ∧ h < 4)) (hQ : Q (some (ga (-1))) (K, R, V)) : gC l E (d + 1) iX11_handAt [ga 0, gi h] (K, R, V) Q := by
  refine gC_of kX11_handAt (ls := [some (ga 0), some (gi h)]) rfl (Nat.le_of_ble_eq_true rfl) ?_
  have hG0 := hG
  obtain ⟨⟨eD, eT, eP, eS, eA, eW, eL, eU⟩, hO, ⟨r0, r1, r2, r3, r4, r5, r6, r7, r8, r9⟩, k1, k2, hDr, hTo, hRe, hSc, hAl, hWt, hTr, hPr, hBk, hHd⟩ := hG
  refine gX_iloadn dX11_handAt_0 rfl ?_
  refine gX_iflt (tgt := 22) dX11_handAt_1 (by decide) (fun w1 => ?_) (fun w1 => ?_)
  · refine gX_null dX11_handAt_22 ?_
    refine gX_aret dX11_handAt_23 rfl rfl ?_
    exact hQ
  · refine gX_iloadn dX11_handAt_4 rfl ?_
    refine gX_aloadn dX11_handAt_5 rfl ?_
    refine gX_gR 1 dX11_handAt_6 fdX11_17 rfl rfl hO r1 ?_
    refine gX_alen dX11_handAt_9 k2 (by decide) (by omega) ?_
    refine gX_icmpge (tgt := 22) dX11_handAt_10 (by decide) (fun w2 => ?_) (fun w2 => ?_)
    · refine gX_null dX11_handAt_22 ?_
      refine gX_aret dX11_handAt_23 rfl rfl ?_
      exact hQ
    · exfalso
      omega
set_option maxRecDepth 4000 in
theorem c_fault (hG : gbK K R D T P S' A W L U) (hS : gbIs V S) (hQ : ∀ V', gbIs V' S → gFr V V' 0 775 → Q (some (gi (S.2.2.2))) (K, R, V')) : gC l E (d + 1) iX11_fault [ga 0] (K, R, V) Q := by
  refine gC_of kX11_fault (ls := [some (ga 0)]) rfl (Nat.le_of_ble_eq_true rfl) ?_
  have hG0 := hG
  obtain ⟨⟨eD, eT, eP, eS, eA, eW, eL, eU⟩, hO, ⟨r0, r1, r2, r3, r4, r5, r6, r7, r8, r9⟩, k1, k2, hDr, hTo, hRe, hSc, hAl, hWt, hTr, hPr, hBk, hHd⟩ := hG
  have hn0 := hS.1
  have hn1 := hS.2.1
  refine gX_aloadn dX11_fault_0 rfl ?_
  refine gX_gI 11 dX11_fault_1 fdX11_81 rfl (Or.inl rfl) hO ?_
  rw [hS.2.2.1]
  refine gX_iret dX11_fault_4 (Or.inl rfl) ?_
  exact hQ V hS gFr.rf
set_option maxRecDepth 4000 in
theorem c_habit (hG : gbK K R D T P S' A W L U) (hS : gbIs V S) (hQ : ∀ V', gbIs V' S → gFr V V' 0 775 → Q (some (gi (aHabit S h w))) (K, R, V')) : gC l E (d + 2) iX11_habit [ga 0, gi h, gi w] (K, R, V) Q := by
  refine gC_of kX11_habit (ls := [some (ga 0), some (gi h), some (gi w), none]) rfl (Nat.le_of_ble_eq_true rfl) ?_
  have hG0 := hG
  obtain ⟨⟨eD, eT, eP, eS, eA, eW, eL, eU⟩, hO, ⟨r0, r1, r2, r3, r4, r5, r6, r7, r8, r9⟩, k1, k2, hDr, hTo, hRe, hSc, hAl, hWt, hTr, hPr, hBk, hHd⟩ := hG
  have hn0 := hS.1
  have hn1 := hS.2.1
  by_cases hr : 0 ≤ h ∧ h < 4
  · obtain ⟨H, eH⟩ : ∃ H : Int, H = 739 + 9 * h := ⟨_, rfl⟩
    have hH : hdK K R H := by rw [eH]; exact (hHd h (by omega) (by omega)).2
    obtain ⟨hq, ehq⟩ : ∃ hq, hq = ghq S h := ⟨_, rfl⟩
    have hh := hS.hd hr.1 hr.2 eH
    rw [← ehq] at hh
    refine gX_aloadn dX11_habit_0 rfl ?_
    refine gX_iloadn dX11_habit_1 rfl ?_
    refine gX_virt (J := iX11_handAt) (av := [gi h]) (a := 0) (st := []) dX11_habit_2 lkX11_109 kX11_handAt vX11_handAt (gFit_m (by decide)) hO rfl rfl (Nat.le_of_ble_eq_true rfl) (Nat.zero_le _) (Nat.zero_le _) rfl ?_
    refine c_handAt hG0 hr eH ?_
    show gX l E _ 5 [some (ga 0), some (gi h), some (gi w), none] [ga H] (K, R, V) _ _
    refine gX_astoren dX11_habit_5 (show (3 : Nat) < 4 from by decide) (ls2 := [some (ga 0), some (gi h), some (gi w), some (ga H)]) rfl ?_
    refine gX_aloadn dX11_habit_6 rfl ?_
    refine gX_ifnonnull (tgt := 14) dX11_habit_7 (by decide) (fun w1 => ?_) (fun w1 => absurd (kd_pos hH.1) (by omega))
    refine gX_iloadn dX11_habit_14 rfl ?_
    refine gX_ifne (tgt := 26) dX11_habit_15 (by decide) (fun w2 => ?_) (fun w2 => ?_)
    · refine gX_iloadn dX11_habit_26 rfl ?_
      refine gX_iconst dX11_habit_27 ⟨by decide, by decide⟩ ?_
      refine gX_icmplt (tgt := 45) dX11_habit_28 (by decide) (fun w3 => ?_) (fun w3 => ?_)
      · refine gX_iloadn dX11_habit_45 rfl ?_
        refine gX_bipush dX11_habit_46 (by decide) ⟨by decide, by decide⟩ ?_
        refine gX_icmpne (tgt := 56) dX11_habit_48 (by decide) (fun w4 => ?_) (fun w4 => ?_)
        · refine gX_iloadn dX11_habit_56 rfl ?_
          refine gX_bipush dX11_habit_57 (by decide) ⟨by decide, by decide⟩ ?_
          refine gX_icmpne (tgt := 69) dX11_habit_59 (by decide) (fun w5 => ?_) (fun w5 => ?_)
          · refine gX_sipush dX11_habit_69 (by decide) ⟨by decide, by decide⟩ ?_
            refine gX_iret dX11_habit_72 (Or.inl rfl) ?_
            have ea : aHabit S h w = -1002 := by
              unfold aHabit
              rw [if_pos hr, if_neg (by omega), if_neg (by omega), if_neg (by omega), if_neg (by omega)]
            rw [ea] at hQ
            exact hQ V hS gFr.rf
          · refine gX_aloadn dX11_habit_62 rfl ?_
            refine gX_gI 5 dX11_habit_63 fdX11_139 rfl (Or.inl rfl) hH.1 ?_
            rw [hh.2.2.2.2.2]
            refine gX_goto (tgt := 72) dX11_habit_66 (by decide) ?_
            refine gX_iret dX11_habit_72 (Or.inl rfl) ?_
            have ea : aHabit S h w = hq.2.2.2.2.2 := by
              unfold aHabit
              rw [if_pos hr, if_neg (by omega), if_neg (by omega), if_neg (by omega), if_pos (by omega), ehq]
            rw [ea] at hQ
            exact hQ V hS gFr.rf
        · refine gX_aloadn dX11_habit_51 rfl ?_
          refine gX_gI 4 dX11_habit_52 fdX11_136 rfl (Or.inl rfl) hH.1 ?_
          rw [hh.2.2.2.2.1]
          refine gX_iret dX11_habit_55 (Or.inl rfl) ?_
          have ea : aHabit S h w = hq.2.2.2.2.1 := by
            unfold aHabit
            rw [if_pos hr, if_neg (by omega), if_neg (by omega), if_pos (by omega), ehq]
          rw [ea] at hQ
          exact hQ V hS gFr.rf
      · refine gX_iloadn dX11_habit_31 rfl ?_
        refine gX_iconst dX11_habit_32 ⟨by decide, by decide⟩ ?_
        refine gX_icmpgt (tgt := 45) dX11_habit_33 (by decide) (fun w6 => ?_) (fun w6 => ?_)
        · refine gX_iloadn dX11_habit_45 rfl ?_
          refine gX_bipush dX11_habit_46 (by decide) ⟨by decide, by decide⟩ ?_
          refine gX_icmpne (tgt := 56) dX11_habit_48 (by decide) (fun w7 => ?_) (fun w7 => ?_)
          · refine gX_iloadn dX11_habit_56 rfl ?_
            refine gX_bipush dX11_habit_57 (by decide) ⟨by decide, by decide⟩ ?_
            refine gX_icmpne (tgt := 69) dX11_habit_59 (by decide) (fun w8 => ?_) (fun w8 => ?_)
            · refine gX_sipush dX11_habit_69 (by decide) ⟨by decide, by decide⟩ ?_
              refine gX_iret dX11_habit_72 (Or.inl rfl) ?_
              have ea : aHabit S h w = -1002 := by
                unfold aHabit
                rw [if_pos hr, if_neg (by omega), if_neg (by omega), if_neg (by omega), if_neg (by omega)]
              rw [ea] at hQ
              exact hQ V hS gFr.rf
            · refine gX_aloadn dX11_habit_62 rfl ?_
              refine gX_gI 5 dX11_habit_63 fdX11_139 rfl (Or.inl rfl) hH.1 ?_
              rw [hh.2.2.2.2.2]
              refine gX_goto (tgt := 72) dX11_habit_66 (by decide) ?_
              refine gX_iret dX11_habit_72 (Or.inl rfl) ?_
              have ea : aHabit S h w = hq.2.2.2.2.2 := by
                unfold aHabit
                rw [if_pos hr, if_neg (by omega), if_neg (by omega), if_neg (by omega), if_pos (by omega), ehq]
              rw [ea] at hQ
              exact hQ V hS gFr.rf
          · refine gX_aloadn dX11_habit_51 rfl ?_
            refine gX_gI 4 dX11_habit_52 fdX11_136 rfl (Or.inl rfl) hH.1 ?_
            rw [hh.2.2.2.2.1]
            refine gX_iret dX11_habit_55 (Or.inl rfl) ?_
            have ea : aHabit S h w = hq.2.2.2.2.1 := by
              unfold aHabit
              rw [if_pos hr, if_neg (by omega), if_neg (by omega), if_pos (by omega), ehq]
            rw [ea] at hQ
            exact hQ V hS gFr.rf
        · refine gX_aloadn dX11_habit_36 rfl ?_
          refine gX_gR 3 dX11_habit_37 fdX11_129 rfl rfl hH.1 hH.2.2.2.2.1 ?_
          refine gX_iloadn dX11_habit_40 rfl ?_
          refine gX_virt (J := iX6_at) (av := [gi w]) (a := (H + 7)) (st := []) dX11_habit_41 lkX11_132 kX6_at vX6_at (gFit_m (by decide)) hH.2.2.2.2.2.2.2.2.1 rfl rfl (Nat.le_of_ble_eq_true rfl) (Nat.zero_le _) (Nat.zero_le _) rfl ?_
          refine q_Row_at hH.2.2.2.2.2.2.2.2 hh.2.2.2.1 ?_
          show gX l E _ 44 [some (ga 0), some (gi h), some (gi w), some (ga H)] [gi (lat hq.2.2.2.1 w)] (K, R, V) _ _
          refine gX_iret dX11_habit_44 (Or.inl rfl) ?_
          have ea : aHabit S h w = lat hq.2.2.2.1 w := by
            unfold aHabit
            rw [if_pos hr, if_neg (by omega), if_pos (by omega), ehq]
          rw [ea] at hQ
          exact hQ V hS gFr.rf
    · refine gX_aloadn dX11_habit_18 rfl ?_
      refine gX_gR 0 dX11_habit_19 fdX11_126 rfl rfl hH.1 hH.2.1 ?_
      refine gX_virt (J := iX6_length) (av := []) (a := (H + 1)) (st := []) dX11_habit_22 lkX11_88 kX6_length vX6_length (gFit_m (by decide)) hH.2.2.2.2.2.1.1 rfl rfl (Nat.le_of_ble_eq_true rfl) (Nat.zero_le _) (Nat.zero_le _) rfl ?_
      refine q_Row_length hH.2.2.2.2.2.1 hh.1 ?_
      show gX l E _ 25 [some (ga 0), some (gi h), some (gi w), some (ga H)] [gi hq.1.length] (K, R, V) _ _
      refine gX_iret dX11_habit_25 (Or.inl rfl) ?_
      have ea : aHabit S h w = hq.1.length := by
        unfold aHabit
        rw [if_pos hr, if_pos (by omega), ehq]
      rw [ea] at hQ
      exact hQ V hS gFr.rf
  · refine gX_aloadn dX11_habit_0 rfl ?_
    refine gX_iloadn dX11_habit_1 rfl ?_
    refine gX_virt (J := iX11_handAt) (av := [gi h]) (a := 0) (st := []) dX11_habit_2 lkX11_109 kX11_handAt vX11_handAt (gFit_m (by decide)) hO rfl rfl (Nat.le_of_ble_eq_true rfl) (Nat.zero_le _) (Nat.zero_le _) rfl ?_
    refine c_handAtN hG0 hr ?_
    show gX l E _ 5 [some (ga 0), some (gi h), some (gi w), none] [ga (-1)] (K, R, V) _ _
    refine gX_astoren dX11_habit_5 (show (3 : Nat) < 4 from by decide) (ls2 := [some (ga 0), some (gi h), some (gi w), some (ga (-1))]) rfl ?_
    refine gX_aloadn dX11_habit_6 rfl ?_
    refine gX_ifnonnull (tgt := 14) dX11_habit_7 (by decide) (fun w1 => absurd w1 (by omega)) (fun w1 => ?_)
    refine gX_sipush dX11_habit_10 (by decide) ⟨by decide, by decide⟩ ?_
    refine gX_iret dX11_habit_13 (Or.inl rfl) ?_
    have ea : aHabit S h w = -1001 := by
      unfold aHabit
      rw [if_neg hr]
    rw [ea] at hQ
    exact hQ V hS gFr.rf
set_option maxRecDepth 4000 in
theorem c_taken (hG : gbK K R D T P S' A W L U) (hS : gbIs V S) (hQ : ∀ V', gbIs V' S → gFr V V' 0 775 → Q (some (gi (aTaken S b h i))) (K, R, V')) : gC l E (d + 2) iX11_taken [ga 0, gi b, gi h, gi i] (K, R, V) Q := by
  refine gC_of kX11_taken (ls := [some (ga 0), some (gi b), some (gi h), some (gi i), none]) rfl (Nat.le_of_ble_eq_true rfl) ?_
  have hG0 := hG
  obtain ⟨⟨eD, eT, eP, eS, eA, eW, eL, eU⟩, hO, ⟨r0, r1, r2, r3, r4, r5, r6, r7, r8, r9⟩, k1, k2, hDr, hTo, hRe, hSc, hAl, hWt, hTr, hPr, hBk, hHd⟩ := hG
  have hn0 := hS.1
  have hn1 := hS.2.1
  by_cases hr : 0 ≤ b ∧ b < S.1.length
  · obtain ⟨B, eB⟩ : ∃ B : Int, B = 39 + 70 * b := ⟨_, rfl⟩
    have hB : bkK K R B := by rw [eB]; exact (hBk b (by omega) (by omega)).2
    obtain ⟨q, eq⟩ : ∃ q, q = gbq S b := ⟨_, rfl⟩
    obtain ⟨hb, hm⟩ := hS.bk hr.1 hr.2 eB
    rw [← eq] at hb hm
    refine gX_aloadn dX11_taken_0 rfl ?_
    refine gX_iloadn dX11_taken_1 rfl ?_
    refine gX_virt (J := iX11_bookAt) (av := [gi b]) (a := 0) (st := []) dX11_taken_2 lkX11_142 kX11_bookAt vX11_bookAt (gFit_m (by decide)) hO rfl rfl (Nat.le_of_ble_eq_true rfl) (Nat.zero_le _) (Nat.zero_le _) rfl ?_
    refine c_bookAt hG0 hS hr eB ?_
    show gX l E _ 5 [some (ga 0), some (gi b), some (gi h), some (gi i), none] [ga B] (K, R, V) _ _
    refine gX_astore dX11_taken_5 (show (4 : Nat) < 5 from by decide) (ls2 := [some (ga 0), some (gi b), some (gi h), some (gi i), some (ga B)]) rfl ?_
    refine gX_aload dX11_taken_7 rfl ?_
    refine gX_ifnonnull (tgt := 16) dX11_taken_9 (by decide) (fun w1 => ?_) (fun w1 => absurd (kd_pos hB.1) (by omega))
    refine gX_iloadn dX11_taken_16 rfl ?_
    refine gX_iflt (tgt := 25) dX11_taken_17 (by decide) (fun w2 => ?_) (fun w2 => ?_)
    · refine gX_sipush dX11_taken_25 (by decide) ⟨by decide, by decide⟩ ?_
      refine gX_iret dX11_taken_28 (Or.inl rfl) ?_
      have ea : aTaken S b h i = -1002 := by
        unfold aTaken
        rw [if_pos hr, if_pos (by omega)]
      rw [ea] at hQ
      exact hQ V hS gFr.rf
    · refine gX_iloadn dX11_taken_20 rfl ?_
      refine gX_iconst dX11_taken_21 ⟨by decide, by decide⟩ ?_
      refine gX_icmple (tgt := 29) dX11_taken_22 (by decide) (fun w3 => ?_) (fun w3 => ?_)
      · refine gX_aload dX11_taken_29 rfl ?_
        refine gX_gI 6 dX11_taken_31 fdX11_149 rfl (Or.inl rfl) hB.1 ?_
        rw [hm.1]
        refine gX_iconst dX11_taken_34 ⟨by decide, by decide⟩ ?_
        refine gX_icmpne (tgt := 42) dX11_taken_35 (by decide) (fun w4 => ?_) (fun w4 => ?_)
        · refine gX_iloadn dX11_taken_42 rfl ?_
          refine gX_ifeq (tgt := 58) dX11_taken_43 (by decide) (fun w5 => ?_) (fun w5 => ?_)
          · refine gX_aload dX11_taken_58 rfl ?_
            refine gX_gR 4 dX11_taken_60 fdX11_161 rfl rfl hB.1 hB.2.2.2.2.2.1 ?_
            refine gX_iloadn dX11_taken_63 rfl ?_
            refine gX_virt (J := iX6_at) (av := [gi h]) (a := (B + 8)) (st := []) dX11_taken_64 lkX11_132 kX6_at vX6_at (gFit_m (by decide)) hB.2.2.2.2.2.2.2.2.2.2.1.1 rfl rfl (Nat.le_of_ble_eq_true rfl) (Nat.zero_le _) (Nat.zero_le _) rfl ?_
            refine q_Row_at hB.2.2.2.2.2.2.2.2.2.2.1 hm.2.2.2 ?_
            show gX l E _ 67 [some (ga 0), some (gi b), some (gi h), some (gi i), some (ga B)] [gi (lat q.2.2.2.2.2 h)] (K, R, V) _ _
            refine gX_iret dX11_taken_67 (Or.inl rfl) ?_
            have ea : aTaken S b h i = lat q.2.2.2.2.2 h := by
              unfold aTaken
              rw [if_pos hr, if_neg (by omega), ← eq, if_neg (by omega), if_pos (by omega)]
            rw [ea] at hQ
            exact hQ V hS gFr.rf
          · refine gX_aload dX11_taken_46 rfl ?_
            refine gX_gR 3 dX11_taken_48 fdX11_158 rfl rfl hB.1 hB.2.2.2.2.1 ?_
            refine gX_iloadn dX11_taken_51 rfl ?_
            refine gX_virt (J := iX6_at) (av := [gi h]) (a := (B + 6)) (st := []) dX11_taken_52 lkX11_132 kX6_at vX6_at (gFit_m (by decide)) hB.2.2.2.2.2.2.2.2.2.1.1 rfl rfl (Nat.le_of_ble_eq_true rfl) (Nat.zero_le _) (Nat.zero_le _) rfl ?_
            refine q_Row_at hB.2.2.2.2.2.2.2.2.2.1 hm.2.2.1 ?_
            show gX l E _ 55 [some (ga 0), some (gi b), some (gi h), some (gi i), some (ga B)] [gi (lat q.2.2.2.2.1 h)] (K, R, V) _ _
            refine gX_goto (tgt := 67) dX11_taken_55 (by decide) ?_
            refine gX_iret dX11_taken_67 (Or.inl rfl) ?_
            have ea : aTaken S b h i = lat q.2.2.2.2.1 h := by
              unfold aTaken
              rw [if_pos hr, if_neg (by omega), ← eq, if_neg (by omega), if_neg (by omega)]
            rw [ea] at hQ
            exact hQ V hS gFr.rf
        · refine gX_sipush dX11_taken_38 (by decide) ⟨by decide, by decide⟩ ?_
          refine gX_iret dX11_taken_41 (Or.inl rfl) ?_
          have ea : aTaken S b h i = -1003 := by
            unfold aTaken
            rw [if_pos hr, if_neg (by omega), ← eq, if_pos (by omega)]
          rw [ea] at hQ
          exact hQ V hS gFr.rf
      · refine gX_sipush dX11_taken_25 (by decide) ⟨by decide, by decide⟩ ?_
        refine gX_iret dX11_taken_28 (Or.inl rfl) ?_
        have ea : aTaken S b h i = -1002 := by
          unfold aTaken
          rw [if_pos hr, if_pos (by omega)]
        rw [ea] at hQ
        exact hQ V hS gFr.rf
  · refine gX_aloadn dX11_taken_0 rfl ?_
    refine gX_iloadn dX11_taken_1 rfl ?_
    refine gX_virt (J := iX11_bookAt) (av := [gi b]) (a := 0) (st := []) dX11_taken_2 lkX11_142 kX11_bookAt vX11_bookAt (gFit_m (by decide)) hO rfl rfl (Nat.le_of_ble_eq_true rfl) (Nat.zero_le _) (Nat.zero_le _) rfl ?_
    refine c_bookAtN hG0 hS hr ?_
    show gX l E _ 5 [some (ga 0), some (gi b), some (gi h), some (gi i), none] [ga (-1)] (K, R, V) _ _
    refine gX_astore dX11_taken_5 (show (4 : Nat) < 5 from by decide) (ls2 := [some (ga 0), some (gi b), some (gi h), some (gi i), some (ga (-1))]) rfl ?_
    refine gX_aload dX11_taken_7 rfl ?_
    refine gX_ifnonnull (tgt := 16) dX11_taken_9 (by decide) (fun w1 => absurd w1 (by omega)) (fun w1 => ?_)
    refine gX_sipush dX11_taken_12 (by decide) ⟨by decide, by decide⟩ ?_
    refine gX_iret dX11_taken_15 (Or.inl rfl) ?_
    have ea : aTaken S b h i = -1001 := by
      unfold aTaken
      rw [if_neg hr]
    rw [ea] at hQ
    exact hQ V hS gFr.rf
set_option maxRecDepth 4000 in
theorem c_word (hG : gbK K R D T P S' A W L U) (hS : gbIs V S) (hQ : ∀ V', gbIs V' S → gFr V V' 0 775 → Q (some (gi (aWord S b i))) (K, R, V')) : gC l E (d + 2) iX11_word [ga 0, gi b, gi i] (K, R, V) Q := by
  refine gC_of kX11_word (ls := [some (ga 0), some (gi b), some (gi i), none]) rfl (Nat.le_of_ble_eq_true rfl) ?_
  have hG0 := hG
  obtain ⟨⟨eD, eT, eP, eS, eA, eW, eL, eU⟩, hO, ⟨r0, r1, r2, r3, r4, r5, r6, r7, r8, r9⟩, k1, k2, hDr, hTo, hRe, hSc, hAl, hWt, hTr, hPr, hBk, hHd⟩ := hG
  have hn0 := hS.1
  have hn1 := hS.2.1
  by_cases hr : 0 ≤ b ∧ b < S.1.length
  · obtain ⟨B, eB⟩ : ∃ B : Int, B = 39 + 70 * b := ⟨_, rfl⟩
    have hB : bkK K R B := by rw [eB]; exact (hBk b (by omega) (by omega)).2
    obtain ⟨q, eq⟩ : ∃ q, q = gbq S b := ⟨_, rfl⟩
    obtain ⟨hb, hm⟩ := hS.bk hr.1 hr.2 eB
    rw [← eq] at hb hm
    refine gX_aloadn dX11_word_0 rfl ?_
    refine gX_iloadn dX11_word_1 rfl ?_
    refine gX_virt (J := iX11_bookAt) (av := [gi b]) (a := 0) (st := []) dX11_word_2 lkX11_142 kX11_bookAt vX11_bookAt (gFit_m (by decide)) hO rfl rfl (Nat.le_of_ble_eq_true rfl) (Nat.zero_le _) (Nat.zero_le _) rfl ?_
    refine c_bookAt hG0 hS hr eB ?_
    show gX l E _ 5 [some (ga 0), some (gi b), some (gi i), none] [ga B] (K, R, V) _ _
    refine gX_astoren dX11_word_5 (show (3 : Nat) < 4 from by decide) (ls2 := [some (ga 0), some (gi b), some (gi i), some (ga B)]) rfl ?_
    refine gX_aloadn dX11_word_6 rfl ?_
    refine gX_ifnonnull (tgt := 16) dX11_word_7 (by decide) (fun w1 => ?_) (fun w1 => absurd (kd_pos hB.1) (by omega))
    refine gX_aloadn dX11_word_16 rfl ?_
    refine gX_gR 0 dX11_word_17 fdX11_164 rfl rfl hB.1 hB.2.1 ?_
    refine gX_iloadn dX11_word_20 rfl ?_
    refine gX_virt (J := iX6_at) (av := [gi i]) (a := (B + 1)) (st := []) dX11_word_21 lkX11_132 kX6_at vX6_at (gFit_m (by decide)) hB.2.2.2.2.2.2.1.1 rfl rfl (Nat.le_of_ble_eq_true rfl) (Nat.zero_le _) (Nat.zero_le _) rfl ?_
    refine q_Row_at hB.2.2.2.2.2.2.1 hb.1 ?_
    show gX l E _ 24 [some (ga 0), some (gi b), some (gi i), some (ga B)] [gi (lat q.1 i)] (K, R, V) _ _
    refine gX_iret dX11_word_24 (Or.inl rfl) ?_
    have ea : aWord S b i = lat q.1 i := by
      unfold aWord
      rw [if_pos hr, eq]
    rw [ea] at hQ
    exact hQ V hS gFr.rf
  · refine gX_aloadn dX11_word_0 rfl ?_
    refine gX_iloadn dX11_word_1 rfl ?_
    refine gX_virt (J := iX11_bookAt) (av := [gi b]) (a := 0) (st := []) dX11_word_2 lkX11_142 kX11_bookAt vX11_bookAt (gFit_m (by decide)) hO rfl rfl (Nat.le_of_ble_eq_true rfl) (Nat.zero_le _) (Nat.zero_le _) rfl ?_
    refine c_bookAtN hG0 hS hr ?_
    show gX l E _ 5 [some (ga 0), some (gi b), some (gi i), none] [ga (-1)] (K, R, V) _ _
    refine gX_astoren dX11_word_5 (show (3 : Nat) < 4 from by decide) (ls2 := [some (ga 0), some (gi b), some (gi i), some (ga (-1))]) rfl ?_
    refine gX_aloadn dX11_word_6 rfl ?_
    refine gX_ifnonnull (tgt := 16) dX11_word_7 (by decide) (fun w1 => absurd w1 (by omega)) (fun w1 => ?_)
    refine gX_sipush dX11_word_10 (by decide) ⟨by decide, by decide⟩ ?_
    refine gX_goto (tgt := 24) dX11_word_13 (by decide) ?_
    refine gX_iret dX11_word_24 (Or.inl rfl) ?_
    have ea : aWord S b i = -1001 := by
      unfold aWord
      rw [if_neg hr]
    rw [ea] at hQ
    exact hQ V hS gFr.rf
set_option maxRecDepth 4000 in
theorem c_print (hG : gbK K R D T P S' A W L U) (hS : gbIs V S) (h1 : gBd (gbq S b).2.1 100) (h2 : lsW (gbq S b).1 (gbq S b).2.1) (h3 : wdW (gbq S b).1 (gbq S b).2.1) (hQ : ∀ V', gbIs V' S → gFr V V' 0 775 → Q (some (gi (aPrint S b i))) (K, R, V')) : gC l E (d + 15) iX11_print [ga 0, gi b, gi i] (K, R, V) Q := by
  refine gC_of kX11_print (ls := [some (ga 0), some (gi b), some (gi i), none]) rfl (Nat.le_of_ble_eq_true rfl) ?_
  have hG0 := hG
  obtain ⟨⟨eD, eT, eP, eS, eA, eW, eL, eU⟩, hO, ⟨r0, r1, r2, r3, r4, r5, r6, r7, r8, r9⟩, k1, k2, hDr, hTo, hRe, hSc, hAl, hWt, hTr, hPr, hBk, hHd⟩ := hG
  have hn0 := hS.1
  have hn1 := hS.2.1
  by_cases hr : 0 ≤ b ∧ b < S.1.length
  · obtain ⟨B, eB⟩ : ∃ B : Int, B = 39 + 70 * b := ⟨_, rfl⟩
    have hB : bkK K R B := by rw [eB]; exact (hBk b (by omega) (by omega)).2
    obtain ⟨q, eq⟩ : ∃ q, q = gbq S b := ⟨_, rfl⟩
    obtain ⟨hb, hm⟩ := hS.bk hr.1 hr.2 eB
    rw [← eq] at hb hm
    rw [← eq] at h1 h2 h3
    refine gX_aloadn dX11_print_0 rfl ?_
    refine gX_iloadn dX11_print_1 rfl ?_
    refine gX_virt (J := iX11_bookAt) (av := [gi b]) (a := 0) (st := []) dX11_print_2 lkX11_142 kX11_bookAt vX11_bookAt (gFit_m (by decide)) hO rfl rfl (Nat.le_of_ble_eq_true rfl) (Nat.zero_le _) (Nat.zero_le _) rfl ?_
    refine c_bookAt hG0 hS hr eB ?_
    show gX l E _ 5 [some (ga 0), some (gi b), some (gi i), none] [ga B] (K, R, V) _ _
    refine gX_astoren dX11_print_5 (show (3 : Nat) < 4 from by decide) (ls2 := [some (ga 0), some (gi b), some (gi i), some (ga B)]) rfl ?_
    refine gX_aloadn dX11_print_6 rfl ?_
    refine gX_ifnonnull (tgt := 14) dX11_print_7 (by decide) (fun w1 => ?_) (fun w1 => absurd (kd_pos hB.1) (by omega))
    refine gX_aloadn dX11_print_14 rfl ?_
    refine gX_aloadn dX11_print_15 rfl ?_
    refine gX_gR 9 dX11_print_16 fdX11_73 rfl rfl hO r9 ?_
    refine gX_virt (J := iX1_printTo) (av := [ga U]) (a := B) (st := []) dX11_print_19 lkX11_191 kX1_printTo vX1_printTo (gFit_m (by decide)) hB.1 rfl rfl (Nat.le_of_ble_eq_true rfl) (Nat.zero_le _) (Nat.zero_le _) rfl ?_
    refine c_printTo hB hPr (by omega) (by omega) h1 h2 h3 hb (fun V1 hx1 hf1 => ?_)
    show gX l E _ 22 [some (ga 0), some (gi b), some (gi i), some (ga B)] [] (K, R, V1) _ _
    refine gX_iloadn dX11_print_22 rfl ?_
    refine gX_iconst dX11_print_23 ⟨by decide, by decide⟩ ?_
    refine gX_icmpne (tgt := 37) dX11_print_24 (by decide) (fun w2 => ?_) (fun w2 => ?_)
    · refine gX_aloadn dX11_print_37 rfl ?_
      refine gX_gR 9 dX11_print_38 fdX11_73 rfl rfl hO r9 ?_
      refine gX_iloadn dX11_print_41 rfl ?_
      refine gX_virt (J := iX6_at) (av := [gi i]) (a := U) (st := []) dX11_print_42 lkX11_132 kX6_at vX6_at (gFit_m (by decide)) hPr.1 rfl rfl (Nat.le_of_ble_eq_true rfl) (Nat.zero_le _) (Nat.zero_le _) rfl ?_
      refine q_Row_at hPr hx1 ?_
      show gX l E _ 45 [some (ga 0), some (gi b), some (gi i), some (ga B)] [gi (lat (prL q) i)] (K, R, V1) _ _
      refine gX_iret dX11_print_45 (Or.inl rfl) ?_
      have ea : aPrint S b i = lat (prL q) i := by
        unfold aPrint
        rw [if_pos hr, eq, if_neg (by omega)]
      rw [ea] at hQ
      exact hQ V1 (hS.look (hf1.fr (by omega) (by omega))) ((hf1.fr (by omega) (by omega) : gFr V V1 15 39).wide (by omega) (by omega))
    · refine gX_aloadn dX11_print_27 rfl ?_
      refine gX_gR 9 dX11_print_28 fdX11_73 rfl rfl hO r9 ?_
      refine gX_virt (J := iX6_length) (av := []) (a := U) (st := []) dX11_print_31 lkX11_88 kX6_length vX6_length (gFit_m (by decide)) hPr.1 rfl rfl (Nat.le_of_ble_eq_true rfl) (Nat.zero_le _) (Nat.zero_le _) rfl ?_
      refine q_Row_length hPr hx1 ?_
      show gX l E _ 34 [some (ga 0), some (gi b), some (gi i), some (ga B)] [gi ((prL q).length)] (K, R, V1) _ _
      refine gX_goto (tgt := 45) dX11_print_34 (by decide) ?_
      refine gX_iret dX11_print_45 (Or.inl rfl) ?_
      have ea : aPrint S b i = (prL q).length := by
        unfold aPrint
        rw [if_pos hr, eq, if_pos (by omega)]
      rw [ea] at hQ
      exact hQ V1 (hS.look (hf1.fr (by omega) (by omega))) ((hf1.fr (by omega) (by omega) : gFr V V1 15 39).wide (by omega) (by omega))
  · refine gX_aloadn dX11_print_0 rfl ?_
    refine gX_iloadn dX11_print_1 rfl ?_
    refine gX_virt (J := iX11_bookAt) (av := [gi b]) (a := 0) (st := []) dX11_print_2 lkX11_142 kX11_bookAt vX11_bookAt (gFit_m (by decide)) hO rfl rfl (Nat.le_of_ble_eq_true rfl) (Nat.zero_le _) (Nat.zero_le _) rfl ?_
    refine c_bookAtN hG0 hS hr ?_
    show gX l E _ 5 [some (ga 0), some (gi b), some (gi i), none] [ga (-1)] (K, R, V) _ _
    refine gX_astoren dX11_print_5 (show (3 : Nat) < 4 from by decide) (ls2 := [some (ga 0), some (gi b), some (gi i), some (ga (-1))]) rfl ?_
    refine gX_aloadn dX11_print_6 rfl ?_
    refine gX_ifnonnull (tgt := 14) dX11_print_7 (by decide) (fun w1 => absurd w1 (by omega)) (fun w1 => ?_)
    refine gX_sipush dX11_print_10 (by decide) ⟨by decide, by decide⟩ ?_
    refine gX_iret dX11_print_13 (Or.inl rfl) ?_
    have ea : aPrint S b i = -1001 := by
      unfold aPrint
      rw [if_neg hr]
    rw [ea] at hQ
    exact hQ V hS gFr.rf
set_option maxRecDepth 4000 in
theorem c_about (hG : gbK K R D T P S' A W L U) (hS : gbIs V S) (hQ : ∀ V', gbIs V' S → gFr V V' 0 775 → Q (some (gi (aAbout S b w))) (K, R, V')) : gC l E (d + 4) iX11_about [ga 0, gi b, gi w] (K, R, V) Q := by
  refine gC_of kX11_about (ls := [some (ga 0), some (gi b), some (gi w), none]) rfl (Nat.le_of_ble_eq_true rfl) ?_
  have hG0 := hG
  obtain ⟨⟨eD, eT, eP, eS, eA, eW, eL, eU⟩, hO, ⟨r0, r1, r2, r3, r4, r5, r6, r7, r8, r9⟩, k1, k2, hDr, hTo, hRe, hSc, hAl, hWt, hTr, hPr, hBk, hHd⟩ := hG
  have hn0 := hS.1
  have hn1 := hS.2.1
  by_cases hr : 0 ≤ b ∧ b < S.1.length
  · obtain ⟨B, eB⟩ : ∃ B : Int, B = 39 + 70 * b := ⟨_, rfl⟩
    have hB : bkK K R B := by rw [eB]; exact (hBk b (by omega) (by omega)).2
    obtain ⟨q, eq⟩ : ∃ q, q = gbq S b := ⟨_, rfl⟩
    obtain ⟨hb, hm⟩ := hS.bk hr.1 hr.2 eB
    rw [← eq] at hb hm
    refine gX_aloadn dX11_about_0 rfl ?_
    refine gX_iloadn dX11_about_1 rfl ?_
    refine gX_virt (J := iX11_bookAt) (av := [gi b]) (a := 0) (st := []) dX11_about_2 lkX11_142 kX11_bookAt vX11_bookAt (gFit_m (by decide)) hO rfl rfl (Nat.le_of_ble_eq_true rfl) (Nat.zero_le _) (Nat.zero_le _) rfl ?_
    refine c_bookAt hG0 hS hr eB ?_
    show gX l E _ 5 [some (ga 0), some (gi b), some (gi w), none] [ga B] (K, R, V) _ _
    refine gX_astoren dX11_about_5 (show (3 : Nat) < 4 from by decide) (ls2 := [some (ga 0), some (gi b), some (gi w), some (ga B)]) rfl ?_
    refine gX_aloadn dX11_about_6 rfl ?_
    refine gX_ifnonnull (tgt := 14) dX11_about_7 (by decide) (fun w1 => ?_) (fun w1 => absurd (kd_pos hB.1) (by omega))
    refine gX_iloadn dX11_about_14 rfl ?_
    refine gX_tab (dt := 103) [60, 68, 73, 78, 83, 88, 93, 98] dX11_about_15 (by decide) (by decide) (by decide) (fun w2 => ?_) (fun i9 t9 ht9 w2 => ?_)
    · refine gX_sipush dX11_about_103 (by decide) ⟨by decide, by decide⟩ ?_
      refine gX_iret dX11_about_106 (Or.inl rfl) ?_
      have ea : aAbout S b w = -1002 := by
        unfold aAbout
        rw [if_pos hr, if_neg (by omega), if_neg (by omega), if_neg (by omega), if_neg (by omega), if_neg (by omega), if_neg (by omega), if_neg (by omega), if_neg (by omega)]
      rw [ea] at hQ
      exact hQ V hS gFr.rf
    · match i9, ht9 with
      | 0, ht9 =>
        cases ht9
        refine gX_aloadn dX11_about_60 rfl ?_
        refine gX_gR 0 dX11_about_61 fdX11_164 rfl rfl hB.1 hB.2.1 ?_
        refine gX_virt (J := iX6_length) (av := []) (a := (B + 1)) (st := []) dX11_about_64 lkX11_88 kX6_length vX6_length (gFit_m (by decide)) hB.2.2.2.2.2.2.1.1 rfl rfl (Nat.le_of_ble_eq_true rfl) (Nat.zero_le _) (Nat.zero_le _) rfl ?_
        refine q_Row_length hB.2.2.2.2.2.2.1 hb.1 ?_
        show gX l E _ 67 [some (ga 0), some (gi b), some (gi w), some (ga B)] [gi q.1.length] (K, R, V) _ _
        refine gX_iret dX11_about_67 (Or.inl rfl) ?_
        have ea : aAbout S b w = q.1.length := by
          unfold aAbout
          rw [if_pos hr, if_pos (by omega), eq]
        rw [ea] at hQ
        exact hQ V hS gFr.rf
      | 1, ht9 =>
        cases ht9
        refine gX_aloadn dX11_about_68 rfl ?_
        refine gX_gI 5 dX11_about_69 fdX11_182 rfl (Or.inl rfl) hB.1 ?_
        rw [hb.2.1]
        refine gX_iret dX11_about_72 (Or.inl rfl) ?_
        have ea : aAbout S b w = (q.2.1.length : Int) := by
          unfold aAbout
          rw [if_pos hr, if_neg (by omega), if_pos (by omega), eq]
        rw [ea] at hQ
        exact hQ V hS gFr.rf
      | 2, ht9 =>
        cases ht9
        refine gX_aloadn dX11_about_73 rfl ?_
        refine gX_virt (J := iX1_greatestDepth) (av := []) (a := B) (st := []) dX11_about_74 lkX11_195 kX1_greatestDepth vX1_greatestDepth (gFit_m (by decide)) hB.1 rfl rfl (Nat.le_of_ble_eq_true rfl) (Nat.zero_le _) (Nat.zero_le _) rfl ?_
        refine c_greatestDepth hB hb ?_
        show gX l E _ 77 [some (ga 0), some (gi b), some (gi w), some (ga B)] [gi (dptM q.2.1)] (K, R, V) _ _
        refine gX_iret dX11_about_77 (Or.inl rfl) ?_
        have ea : aAbout S b w = dptM q.2.1 := by
          unfold aAbout
          rw [if_pos hr, if_neg (by omega), if_neg (by omega), if_pos (by omega), eq]
        rw [ea] at hQ
        exact hQ V hS gFr.rf
      | 3, ht9 =>
        cases ht9
        refine gX_aloadn dX11_about_78 rfl ?_
        refine gX_gI 6 dX11_about_79 fdX11_149 rfl (Or.inl rfl) hB.1 ?_
        rw [hm.1]
        refine gX_iret dX11_about_82 (Or.inl rfl) ?_
        have ea : aAbout S b w = q.2.2.1 := by
          unfold aAbout
          rw [if_pos hr, if_neg (by omega), if_neg (by omega), if_neg (by omega), if_pos (by omega), eq]
        rw [ea] at hQ
        exact hQ V hS gFr.rf
      | 4, ht9 =>
        cases ht9
        refine gX_aloadn dX11_about_83 rfl ?_
        refine gX_gI 7 dX11_about_84 fdX11_152 rfl (Or.inl rfl) hB.1 ?_
        rw [hm.2.1]
        refine gX_iret dX11_about_87 (Or.inl rfl) ?_
        have ea : aAbout S b w = q.2.2.2.1 := by
          unfold aAbout
          rw [if_pos hr, if_neg (by omega), if_neg (by omega), if_neg (by omega), if_neg (by omega), if_pos (by omega), eq]
        rw [ea] at hQ
        exact hQ V hS gFr.rf
      | 5, ht9 =>
        cases ht9
        refine gX_aloadn dX11_about_88 rfl ?_
        refine gX_virt (J := iX1_spanCount) (av := []) (a := B) (st := []) dX11_about_89 lkX11_198 kX1_spanCount vX1_spanCount (gFit_m (by decide)) hB.1 rfl rfl (Nat.le_of_ble_eq_true rfl) (Nat.zero_le _) (Nat.zero_le _) rfl ?_
        refine c_spanCount hB hb ?_
        show gX l E _ 92 [some (ga 0), some (gi b), some (gi w), some (ga B)] [gi (spnC q.2.1)] (K, R, V) _ _
        refine gX_iret dX11_about_92 (Or.inl rfl) ?_
        have ea : aAbout S b w = spnC q.2.1 := by
          unfold aAbout
          rw [if_pos hr, if_neg (by omega), if_neg (by omega), if_neg (by omega), if_neg (by omega), if_neg (by omega), if_pos (by omega), eq]
        rw [ea] at hQ
        exact hQ V hS gFr.rf
      | 6, ht9 =>
        cases ht9
        refine gX_aloadn dX11_about_93 rfl ?_
        refine gX_virt (J := iX1_aboveCount) (av := []) (a := B) (st := []) dX11_about_94 lkX11_201 kX1_aboveCount vX1_aboveCount (gFit_m (by decide)) hB.1 rfl rfl (Nat.le_of_ble_eq_true rfl) (Nat.zero_le _) (Nat.zero_le _) rfl ?_
        refine c_aboveCount hB hb ?_
        show gX l E _ 97 [some (ga 0), some (gi b), some (gi w), some (ga B)] [gi (abvC q.2.1)] (K, R, V) _ _
        refine gX_iret dX11_about_97 (Or.inl rfl) ?_
        have ea : aAbout S b w = abvC q.2.1 := by
          unfold aAbout
          rw [if_pos hr, if_neg (by omega), if_neg (by omega), if_neg (by omega), if_neg (by omega), if_neg (by omega), if_neg (by omega), if_pos (by omega), eq]
        rw [ea] at hQ
        exact hQ V hS gFr.rf
      | 7, ht9 =>
        cases ht9
        refine gX_aloadn dX11_about_98 rfl ?_
        refine gX_virt (J := iX1_rowWords) (av := []) (a := B) (st := []) dX11_about_99 lkX11_204 kX1_rowWords vX1_rowWords (gFit_m (by decide)) hB.1 rfl rfl (Nat.le_of_ble_eq_true rfl) (Nat.zero_le _) (Nat.zero_le _) rfl ?_
        refine c_rowWords hB hb ?_
        show gX l E _ 102 [some (ga 0), some (gi b), some (gi w), some (ga B)] [gi (rwsC q.2.1)] (K, R, V) _ _
        refine gX_iret dX11_about_102 (Or.inl rfl) ?_
        have ea : aAbout S b w = rwsC q.2.1 := by
          unfold aAbout
          rw [if_pos hr, if_neg (by omega), if_neg (by omega), if_neg (by omega), if_neg (by omega), if_neg (by omega), if_neg (by omega), if_neg (by omega), if_pos (by omega), eq]
        rw [ea] at hQ
        exact hQ V hS gFr.rf
      | k9 + 8, ht9 => exact absurd (List.getElem?_eq_some_iff.mp ht9).1 (by simp)
  · refine gX_aloadn dX11_about_0 rfl ?_
    refine gX_iloadn dX11_about_1 rfl ?_
    refine gX_virt (J := iX11_bookAt) (av := [gi b]) (a := 0) (st := []) dX11_about_2 lkX11_142 kX11_bookAt vX11_bookAt (gFit_m (by decide)) hO rfl rfl (Nat.le_of_ble_eq_true rfl) (Nat.zero_le _) (Nat.zero_le _) rfl ?_
    refine c_bookAtN hG0 hS hr ?_
    show gX l E _ 5 [some (ga 0), some (gi b), some (gi w), none] [ga (-1)] (K, R, V) _ _
    refine gX_astoren dX11_about_5 (show (3 : Nat) < 4 from by decide) (ls2 := [some (ga 0), some (gi b), some (gi w), some (ga (-1))]) rfl ?_
    refine gX_aloadn dX11_about_6 rfl ?_
    refine gX_ifnonnull (tgt := 14) dX11_about_7 (by decide) (fun w1 => absurd w1 (by omega)) (fun w1 => ?_)
    refine gX_sipush dX11_about_10 (by decide) ⟨by decide, by decide⟩ ?_
    refine gX_iret dX11_about_13 (Or.inl rfl) ?_
    have ea : aAbout S b w = -1001 := by
      unfold aAbout
      rw [if_neg hr]
    rw [ea] at hQ
    exact hQ V hS gFr.rf
set_option maxRecDepth 4000 in
theorem c_gloss {g : Int} (hG : gbK K R D T P S' A W L U) (hS : gbIs V S) (hQ : ∀ V', gbIs V' S → gFr V V' 0 775 → Q (some (gi (aGloss S b g w))) (K, R, V')) : gC l E (d + 3) iX11_gloss [ga 0, gi b, gi g, gi w] (K, R, V) Q := by
  refine gC_of kX11_gloss (ls := [some (ga 0), some (gi b), some (gi g), some (gi w), none, none]) rfl (Nat.le_of_ble_eq_true rfl) ?_
  have hG0 := hG
  obtain ⟨⟨eD, eT, eP, eS, eA, eW, eL, eU⟩, hO, ⟨r0, r1, r2, r3, r4, r5, r6, r7, r8, r9⟩, k1, k2, hDr, hTo, hRe, hSc, hAl, hWt, hTr, hPr, hBk, hHd⟩ := hG
  have hn0 := hS.1
  have hn1 := hS.2.1
  by_cases hr : 0 ≤ b ∧ b < S.1.length
  · obtain ⟨B, eB⟩ : ∃ B : Int, B = 39 + 70 * b := ⟨_, rfl⟩
    have hB : bkK K R B := by rw [eB]; exact (hBk b (by omega) (by omega)).2
    obtain ⟨q, eq⟩ : ∃ q, q = gbq S b := ⟨_, rfl⟩
    obtain ⟨hb, hm⟩ := hS.bk hr.1 hr.2 eB
    rw [← eq] at hb hm
    have hg20 := hb.2.2.1
    by_cases hg : 0 ≤ g ∧ g < q.2.1.length
    · obtain ⟨G, eG⟩ : ∃ G : Int, G = B + 10 + 3 * g := ⟨_, rfl⟩
      have hG1 : glK K R G := by rw [eG]; exact (hB.2.2.2.2.2.2.2.2.2.2.2 g (by omega) (by omega)).2
      have hgl := hb.gl hg.1 hg.2
      rw [← eG] at hgl
      refine gX_aloadn dX11_gloss_0 rfl ?_
      refine gX_iloadn dX11_gloss_1 rfl ?_
      refine gX_virt (J := iX11_bookAt) (av := [gi b]) (a := 0) (st := []) dX11_gloss_2 lkX11_142 kX11_bookAt vX11_bookAt (gFit_m (by decide)) hO rfl rfl (Nat.le_of_ble_eq_true rfl) (Nat.zero_le _) (Nat.zero_le _) rfl ?_
      refine c_bookAt hG0 hS hr eB ?_
      show gX l E _ 5 [some (ga 0), some (gi b), some (gi g), some (gi w), none, none] [ga B] (K, R, V) _ _
      refine gX_astore dX11_gloss_5 (show (4 : Nat) < 6 from by decide) (ls2 := [some (ga 0), some (gi b), some (gi g), some (gi w), some (ga B), none]) rfl ?_
      refine gX_aload dX11_gloss_7 rfl ?_
      refine gX_ifnonnull (tgt := 16) dX11_gloss_9 (by decide) (fun w1 => ?_) (fun w1 => absurd (kd_pos hB.1) (by omega))
      refine gX_aload dX11_gloss_16 rfl ?_
      refine gX_iloadn dX11_gloss_18 rfl ?_
      refine gX_virt (J := iX1_glossAt) (av := [gi g]) (a := B) (st := []) dX11_gloss_19 lkX11_178 kX1_glossAt vX1_glossAt (gFit_m (by decide)) hB.1 rfl rfl (Nat.le_of_ble_eq_true rfl) (Nat.zero_le _) (Nat.zero_le _) rfl ?_
      refine c_glossAtE hB hb hg.1 hg.2 eG ?_
      show gX l E _ 22 [some (ga 0), some (gi b), some (gi g), some (gi w), some (ga B), none] [ga G] (K, R, V) _ _
      refine gX_astore dX11_gloss_22 (show (5 : Nat) < 6 from by decide) (ls2 := [some (ga 0), some (gi b), some (gi g), some (gi w), some (ga B), some (ga G)]) rfl ?_
      refine gX_aload dX11_gloss_24 rfl ?_
      refine gX_ifnull (tgt := 34) dX11_gloss_26 (by decide) (fun w2 => absurd (kd_pos hB.1) (by omega)) (fun w2 => ?_)
      refine gX_aload dX11_gloss_29 rfl ?_
      refine gX_ifnonnull (tgt := 38) dX11_gloss_31 (by decide) (fun w3 => ?_) (fun w3 => absurd (kd_pos hG1.1) (by omega))
      refine gX_iloadn dX11_gloss_38 rfl ?_
      refine gX_tab (dt := 127) [80, 86, 92, 98, 104, 113, 120] dX11_gloss_39 (by decide) (by decide) (by decide) (fun w4 => ?_) (fun i9 t9 ht9 w4 => ?_)
      · refine gX_iloadn dX11_gloss_127 rfl ?_
        refine gX_bipush dX11_gloss_128 (by decide) ⟨by decide, by decide⟩ ?_
        refine gX_icmplt (tgt := 154) dX11_gloss_130 (by decide) (fun w5 => ?_) (fun w5 => ?_)
        · refine gX_sipush dX11_gloss_154 (by decide) ⟨by decide, by decide⟩ ?_
          refine gX_iret dX11_gloss_157 (Or.inl rfl) ?_
          have ea : aGloss S b g w = -1002 := by
            unfold aGloss
            rw [if_pos hr, ← eq, if_pos hg, if_neg (by omega), if_neg (by omega), if_neg (by omega), if_neg (by omega), if_neg (by omega), if_neg (by omega), if_neg (by omega), if_neg (by omega)]
          rw [ea] at hQ
          exact hQ V hS gFr.rf
        · refine gX_iloadn dX11_gloss_133 rfl ?_
          refine gX_bipush dX11_gloss_134 (by decide) ⟨by decide, by decide⟩ ?_
          refine gX_icmpge (tgt := 154) dX11_gloss_136 (by decide) (fun w6 => ?_) (fun w6 => ?_)
          · refine gX_sipush dX11_gloss_154 (by decide) ⟨by decide, by decide⟩ ?_
            refine gX_iret dX11_gloss_157 (Or.inl rfl) ?_
            have ea : aGloss S b g w = -1002 := by
              unfold aGloss
              rw [if_pos hr, ← eq, if_pos hg, if_neg (by omega), if_neg (by omega), if_neg (by omega), if_neg (by omega), if_neg (by omega), if_neg (by omega), if_neg (by omega), if_neg (by omega)]
            rw [ea] at hQ
            exact hQ V hS gFr.rf
          · refine gX_aload dX11_gloss_139 rfl ?_
            refine gX_gR 0 dX11_gloss_141 fdX11_221 rfl rfl hG1.1 hG1.2.1 ?_
            refine gX_iloadn dX11_gloss_144 rfl ?_
            refine gX_bipush dX11_gloss_145 (by decide) ⟨by decide, by decide⟩ ?_
            refine gX_isub dX11_gloss_147 ⟨by omega, by omega⟩ ?_
            refine gX_virt (J := iX6_at) (av := [gi (w - 7)]) (a := (G + 1)) (st := []) dX11_gloss_148 lkX11_132 kX6_at vX6_at (gFit_m (by decide)) hG1.2.2.1 rfl rfl (Nat.le_of_ble_eq_true rfl) (Nat.zero_le _) (Nat.zero_le _) rfl ?_
            refine q_Row_at hG1.2.2 hgl.2.2.2.2.2.2 ?_
            show gX l E _ 151 [some (ga 0), some (gi b), some (gi g), some (gi w), some (ga B), some (ga G)] [gi (lat (gq q.2.1 g).2.2.2.2.2 (w - 7))] (K, R, V) _ _
            refine gX_goto (tgt := 157) dX11_gloss_151 (by decide) ?_
            refine gX_iret dX11_gloss_157 (Or.inl rfl) ?_
            have ea : aGloss S b g w = lat (gq q.2.1 g).2.2.2.2.2 (w - 7) := by
              unfold aGloss
              rw [if_pos hr, ← eq, if_pos hg, if_neg (by omega), if_neg (by omega), if_neg (by omega), if_neg (by omega), if_neg (by omega), if_neg (by omega), if_neg (by omega), if_pos (by omega)]
            rw [ea] at hQ
            exact hQ V hS gFr.rf
      · match i9, ht9 with
        | 0, ht9 =>
          cases ht9
          refine gX_aload dX11_gloss_80 rfl ?_
          refine gX_gI 1 dX11_gloss_82 fdX11_207 rfl (Or.inl rfl) hG1.1 ?_
          rw [hgl.1]
          refine gX_iret dX11_gloss_85 (Or.inl rfl) ?_
          have ea : aGloss S b g w = (gq q.2.1 g).1 := by
            unfold aGloss
            rw [if_pos hr, ← eq, if_pos hg, if_pos (by omega)]
          rw [ea] at hQ
          exact hQ V hS gFr.rf
        | 1, ht9 =>
          cases ht9
          refine gX_aload dX11_gloss_86 rfl ?_
          refine gX_gI 2 dX11_gloss_88 fdX11_212 rfl (Or.inl rfl) hG1.1 ?_
          rw [hgl.2.1]
          refine gX_iret dX11_gloss_91 (Or.inl rfl) ?_
          have ea : aGloss S b g w = (gq q.2.1 g).2.1 := by
            unfold aGloss
            rw [if_pos hr, ← eq, if_pos hg, if_neg (by omega), if_pos (by omega)]
          rw [ea] at hQ
          exact hQ V hS gFr.rf
        | 2, ht9 =>
          cases ht9
          refine gX_aload dX11_gloss_92 rfl ?_
          refine gX_gI 3 dX11_gloss_94 fdX11_215 rfl (Or.inl rfl) hG1.1 ?_
          rw [hgl.2.2.1]
          refine gX_iret dX11_gloss_97 (Or.inl rfl) ?_
          have ea : aGloss S b g w = (gq q.2.1 g).2.2.1 := by
            unfold aGloss
            rw [if_pos hr, ← eq, if_pos hg, if_neg (by omega), if_neg (by omega), if_pos (by omega)]
          rw [ea] at hQ
          exact hQ V hS gFr.rf
        | 3, ht9 =>
          cases ht9
          refine gX_aload dX11_gloss_98 rfl ?_
          refine gX_gI 4 dX11_gloss_100 fdX11_218 rfl (Or.inl rfl) hG1.1 ?_
          rw [hgl.2.2.2.1]
          refine gX_iret dX11_gloss_103 (Or.inl rfl) ?_
          have ea : aGloss S b g w = (gq q.2.1 g).2.2.2.1 := by
            unfold aGloss
            rw [if_pos hr, ← eq, if_pos hg, if_neg (by omega), if_neg (by omega), if_neg (by omega), if_pos (by omega)]
          rw [ea] at hQ
          exact hQ V hS gFr.rf
        | 4, ht9 =>
          cases ht9
          refine gX_aload dX11_gloss_104 rfl ?_
          refine gX_gR 0 dX11_gloss_106 fdX11_221 rfl rfl hG1.1 hG1.2.1 ?_
          refine gX_virt (J := iX6_length) (av := []) (a := (G + 1)) (st := []) dX11_gloss_109 lkX11_88 kX6_length vX6_length (gFit_m (by decide)) hG1.2.2.1 rfl rfl (Nat.le_of_ble_eq_true rfl) (Nat.zero_le _) (Nat.zero_le _) rfl ?_
          refine q_Row_length hG1.2.2 hgl.2.2.2.2.2.2 ?_
          show gX l E _ 112 [some (ga 0), some (gi b), some (gi g), some (gi w), some (ga B), some (ga G)] [gi ((gq q.2.1 g).2.2.2.2.2.length)] (K, R, V) _ _
          refine gX_iret dX11_gloss_112 (Or.inl rfl) ?_
          have ea : aGloss S b g w = (gq q.2.1 g).2.2.2.2.2.length := by
            unfold aGloss
            rw [if_pos hr, ← eq, if_pos hg, if_neg (by omega), if_neg (by omega), if_neg (by omega), if_neg (by omega), if_pos (by omega)]
          rw [ea] at hQ
          exact hQ V hS gFr.rf
        | 5, ht9 =>
          cases ht9
          refine gX_aload dX11_gloss_113 rfl ?_
          refine gX_iloadn dX11_gloss_115 rfl ?_
          refine gX_virt (J := iX1_depthOf) (av := [gi g]) (a := B) (st := []) dX11_gloss_116 lkX11_224 kX1_depthOf vX1_depthOf (gFit_m (by decide)) hB.1 rfl rfl (Nat.le_of_ble_eq_true rfl) (Nat.zero_le _) (Nat.zero_le _) rfl ?_
          refine c_depthOf hB hb ?_
          show gX l E _ 119 [some (ga 0), some (gi b), some (gi g), some (gi w), some (ga B), some (ga G)] [gi (dpt q.2.1 5 g)] (K, R, V) _ _
          refine gX_iret dX11_gloss_119 (Or.inl rfl) ?_
          have ea : aGloss S b g w = dpt q.2.1 5 g := by
            unfold aGloss
            rw [if_pos hr, ← eq, if_pos hg, if_neg (by omega), if_neg (by omega), if_neg (by omega), if_neg (by omega), if_neg (by omega), if_pos (by omega)]
          rw [ea] at hQ
          exact hQ V hS gFr.rf
        | 6, ht9 =>
          cases ht9
          refine gX_aload dX11_gloss_120 rfl ?_
          refine gX_iloadn dX11_gloss_122 rfl ?_
          refine gX_virt (J := iX1_orderInSpan) (av := [gi g]) (a := B) (st := []) dX11_gloss_123 lkX11_227 kX1_orderInSpan vX1_orderInSpan (gFit_m (by decide)) hB.1 rfl rfl (Nat.le_of_ble_eq_true rfl) (Nat.zero_le _) (Nat.zero_le _) rfl ?_
          refine c_orderInSpan hB hb hg.1 hg.2 ?_
          show gX l E _ 126 [some (ga 0), some (gi b), some (gi g), some (gi w), some (ga B), some (ga G)] [gi (ordS q.2.1 g)] (K, R, V) _ _
          refine gX_iret dX11_gloss_126 (Or.inl rfl) ?_
          have ea : aGloss S b g w = ordS q.2.1 g := by
            unfold aGloss
            rw [if_pos hr, ← eq, if_pos hg, if_neg (by omega), if_neg (by omega), if_neg (by omega), if_neg (by omega), if_neg (by omega), if_neg (by omega), if_pos (by omega)]
          rw [ea] at hQ
          exact hQ V hS gFr.rf
        | k9 + 7, ht9 => exact absurd (List.getElem?_eq_some_iff.mp ht9).1 (by simp)
    · refine gX_aloadn dX11_gloss_0 rfl ?_
      refine gX_iloadn dX11_gloss_1 rfl ?_
      refine gX_virt (J := iX11_bookAt) (av := [gi b]) (a := 0) (st := []) dX11_gloss_2 lkX11_142 kX11_bookAt vX11_bookAt (gFit_m (by decide)) hO rfl rfl (Nat.le_of_ble_eq_true rfl) (Nat.zero_le _) (Nat.zero_le _) rfl ?_
      refine c_bookAt hG0 hS hr eB ?_
      show gX l E _ 5 [some (ga 0), some (gi b), some (gi g), some (gi w), none, none] [ga B] (K, R, V) _ _
      refine gX_astore dX11_gloss_5 (show (4 : Nat) < 6 from by decide) (ls2 := [some (ga 0), some (gi b), some (gi g), some (gi w), some (ga B), none]) rfl ?_
      refine gX_aload dX11_gloss_7 rfl ?_
      refine gX_ifnonnull (tgt := 16) dX11_gloss_9 (by decide) (fun w1 => ?_) (fun w1 => absurd (kd_pos hB.1) (by omega))
      refine gX_aload dX11_gloss_16 rfl ?_
      refine gX_iloadn dX11_gloss_18 rfl ?_
      refine gX_virt (J := iX1_glossAt) (av := [gi g]) (a := B) (st := []) dX11_gloss_19 lkX11_178 kX1_glossAt vX1_glossAt (gFit_m (by decide)) hB.1 rfl rfl (Nat.le_of_ble_eq_true rfl) (Nat.zero_le _) (Nat.zero_le _) rfl ?_
      refine c_glossAtN hB hb hg ?_
      show gX l E _ 22 [some (ga 0), some (gi b), some (gi g), some (gi w), some (ga B), none] [ga (-1)] (K, R, V) _ _
      refine gX_astore dX11_gloss_22 (show (5 : Nat) < 6 from by decide) (ls2 := [some (ga 0), some (gi b), some (gi g), some (gi w), some (ga B), some (ga (-1))]) rfl ?_
      refine gX_aload dX11_gloss_24 rfl ?_
      refine gX_ifnull (tgt := 34) dX11_gloss_26 (by decide) (fun w2 => absurd (kd_pos hB.1) (by omega)) (fun w2 => ?_)
      refine gX_aload dX11_gloss_29 rfl ?_
      refine gX_ifnonnull (tgt := 38) dX11_gloss_31 (by decide) (fun w3 => absurd w3 (by omega)) (fun w3 => ?_)
      refine gX_sipush dX11_gloss_34 (by decide) ⟨by decide, by decide⟩ ?_
      refine gX_iret dX11_gloss_37 (Or.inl rfl) ?_
      have ea : aGloss S b g w = -1001 := by
        unfold aGloss
        rw [if_pos hr, ← eq, if_neg hg]
      rw [ea] at hQ
      exact hQ V hS gFr.rf
  · refine gX_aloadn dX11_gloss_0 rfl ?_
    refine gX_iloadn dX11_gloss_1 rfl ?_
    refine gX_virt (J := iX11_bookAt) (av := [gi b]) (a := 0) (st := []) dX11_gloss_2 lkX11_142 kX11_bookAt vX11_bookAt (gFit_m (by decide)) hO rfl rfl (Nat.le_of_ble_eq_true rfl) (Nat.zero_le _) (Nat.zero_le _) rfl ?_
    refine c_bookAtN hG0 hS hr ?_
    show gX l E _ 5 [some (ga 0), some (gi b), some (gi g), some (gi w), none, none] [ga (-1)] (K, R, V) _ _
    refine gX_astore dX11_gloss_5 (show (4 : Nat) < 6 from by decide) (ls2 := [some (ga 0), some (gi b), some (gi g), some (gi w), some (ga (-1)), none]) rfl ?_
    refine gX_aload dX11_gloss_7 rfl ?_
    refine gX_ifnonnull (tgt := 16) dX11_gloss_9 (by decide) (fun w1 => absurd w1 (by omega)) (fun w1 => ?_)
    refine gX_null dX11_gloss_12 ?_
    refine gX_goto (tgt := 22) dX11_gloss_13 (by decide) ?_
    refine gX_astore dX11_gloss_22 (show (5 : Nat) < 6 from by decide) (ls2 := [some (ga 0), some (gi b), some (gi g), some (gi w), some (ga (-1)), some (ga (-1))]) rfl ?_
    refine gX_aload dX11_gloss_24 rfl ?_
    refine gX_ifnull (tgt := 34) dX11_gloss_26 (by decide) (fun w2 => ?_) (fun w2 => absurd w2 (by omega))
    refine gX_sipush dX11_gloss_34 (by decide) ⟨by decide, by decide⟩ ?_
    refine gX_iret dX11_gloss_37 (Or.inl rfl) ?_
    have ea : aGloss S b g w = -1001 := by
      unfold aGloss
      rw [if_neg hr]
    rw [ea] at hQ
    exact hQ V hS gFr.rf
set_option maxRecDepth 4000 in
theorem c_copyCount (hG : gbK K R D T P S' A W L U) (hS : gbIs V S) (hQ : ∀ V', gbIs V' S → gFr V V' 0 775 → Q (some (gi (copC S))) (K, R, V')) : gC l E (d + 2) iX11_copyCount [ga 0] (K, R, V) Q := by
  refine gC_of kX11_copyCount (ls := [some (ga 0), none, none, none]) rfl (Nat.le_of_ble_eq_true rfl) ?_
  have hG0 := hG
  obtain ⟨⟨eD, eT, eP, eS, eA, eW, eL, eU⟩, hO, ⟨r0, r1, r2, r3, r4, r5, r6, r7, r8, r9⟩, k1, k2, hDr, hTo, hRe, hSc, hAl, hWt, hTr, hPr, hBk, hHd⟩ := hG
  have hn0 := hS.1
  have hn1 := hS.2.1
  have lp : ∀ (jj : Nat) (b : Int) (n : Int) (j3 : Option gV) (bc bs : Nat), (S.1.length : Int) - b < (jj : Int) → 0 ≤ b → b ≤ S.1.length → n = cntB (fun k => decide ((gbq S k).2.2.1 ≠ -1)) b.toNat → gX l E (gFm E (d + 2) iX11_copyCount Q) 4 [some (ga 0), some (gi n), some (gi b), j3] [] (K, R, V) bc bs := by
    intro jj
    induction jj with
    | zero =>
      intro b n j3 bc bs hj q0 q1 q2
      exfalso; omega
    | succ jj ih =>
      intro b n j3 bc bs hj q0 q1 q2
      refine gX_iloadn dX11_copyCount_4 rfl ?_
      refine gX_aloadn dX11_copyCount_5 rfl ?_
      refine gX_gI 10 dX11_copyCount_6 fdX11_77 rfl (Or.inl rfl) hO ?_
      rw [hn0]
      refine gX_icmpge (tgt := 39) dX11_copyCount_9 (by decide) (fun w1 => ?_) (fun w1 => ?_)
      · refine gX_iloadn dX11_copyCount_39 rfl ?_
        refine gX_iret dX11_copyCount_40 (Or.inl rfl) ?_
        have eb : b.toNat = S.1.length := by omega
        rw [eb] at q2
        rw [q2]
        exact hQ V hS gFr.rf
      · have hr : 0 ≤ b ∧ b < S.1.length := ⟨by omega, by omega⟩
        obtain ⟨B, eB⟩ : ∃ B : Int, B = 39 + 70 * b := ⟨_, rfl⟩
        have hB : bkK K R B := by rw [eB]; exact (hBk b (by omega) (by omega)).2
        obtain ⟨q, eq⟩ : ∃ q, q = gbq S b := ⟨_, rfl⟩
        obtain ⟨hb, hm⟩ := hS.bk hr.1 hr.2 eB
        rw [← eq] at hb hm
        refine gX_aloadn dX11_copyCount_12 rfl ?_
        refine gX_iloadn dX11_copyCount_13 rfl ?_
        refine gX_virt (J := iX11_bookAt) (av := [gi b]) (a := 0) (st := []) dX11_copyCount_14 lkX11_142 kX11_bookAt vX11_bookAt (gFit_m (by decide)) hO rfl rfl (Nat.le_of_ble_eq_true rfl) (Nat.zero_le _) (Nat.zero_le _) rfl ?_
        refine c_bookAt hG0 hS hr eB ?_
        show gX l E _ 17 [some (ga 0), some (gi n), some (gi b), j3] [ga B] (K, R, V) _ _
        refine gX_astoren dX11_copyCount_17 (show (3 : Nat) < 4 from by decide) (ls2 := [some (ga 0), some (gi n), some (gi b), some (ga B)]) rfl ?_
        refine gX_aloadn dX11_copyCount_18 rfl ?_
        refine gX_ifnull (tgt := 33) dX11_copyCount_19 (by decide) (fun w2 => absurd (kd_pos hB.1) (by omega)) (fun w2 => ?_)
        refine gX_aloadn dX11_copyCount_22 rfl ?_
        refine gX_gI 6 dX11_copyCount_23 fdX11_149 rfl (Or.inl rfl) hB.1 ?_
        rw [hm.1]
        refine gX_iconst dX11_copyCount_26 ⟨by decide, by decide⟩ ?_
        refine gX_icmpeq (tgt := 33) dX11_copyCount_27 (by decide) (fun w3 => ?_) (fun w3 => ?_)
        · refine gX_iinc dX11_copyCount_33 rfl (show (2 : Nat) < 4 from by decide) ⟨by omega, by omega⟩ (ls2 := [some (ga 0), some (gi n), some (gi (b + 1)), some (ga B)]) rfl ?_
          refine gX_goto (tgt := 4) dX11_copyCount_36 (by decide) ?_
          have eb : (b + 1).toNat = b.toNat + 1 := by omega
          have en : ((b.toNat : Nat) : Int) = b := by omega
          refine ih (b + 1) _ _ _ _ (by omega) (by omega) (by omega) ?_
          rw [eb, cntB_s, ← q2]
          show _ = n + (if decide ((gbq S ((b.toNat : Nat) : Int)).2.2.1 ≠ -1) = true then 1 else 0)
          rw [en, ← eq]
          rw [if_neg (by simp only [decide_eq_true_eq]; omega)]
          omega
        · have hcb := cntB_bd (fun k => decide ((gbq S k).2.2.1 ≠ -1)) b.toNat
          refine gX_iinc dX11_copyCount_30 rfl (show (1 : Nat) < 4 from by decide) ⟨by omega, by omega⟩ (ls2 := [some (ga 0), some (gi (n + 1)), some (gi b), some (ga B)]) rfl ?_
          refine gX_iinc dX11_copyCount_33 rfl (show (2 : Nat) < 4 from by decide) ⟨by omega, by omega⟩ (ls2 := [some (ga 0), some (gi (n + 1)), some (gi (b + 1)), some (ga B)]) rfl ?_
          refine gX_goto (tgt := 4) dX11_copyCount_36 (by decide) ?_
          have eb : (b + 1).toNat = b.toNat + 1 := by omega
          have en : ((b.toNat : Nat) : Int) = b := by omega
          refine ih (b + 1) _ _ _ _ (by omega) (by omega) (by omega) ?_
          rw [eb, cntB_s, ← q2]
          show _ = n + (if decide ((gbq S ((b.toNat : Nat) : Int)).2.2.1 ≠ -1) = true then 1 else 0)
          rw [en, ← eq]
          rw [if_pos (by simp only [decide_eq_true_eq]; omega)]
  refine gX_iconst dX11_copyCount_0 ⟨by decide, by decide⟩ ?_
  refine gX_istoren dX11_copyCount_1 (show (1 : Nat) < 4 from by decide) (ls2 := [some (ga 0), some (gi 0), none, none]) rfl ?_
  refine gX_iconst dX11_copyCount_2 ⟨by decide, by decide⟩ ?_
  refine gX_istoren dX11_copyCount_3 (show (2 : Nat) < 4 from by decide) (ls2 := [some (ga 0), some (gi 0), some (gi 0), none]) rfl ?_
  exact lp 11 0 0 none _ _ (by omega) (by omega) (by omega) rfl
set_option maxRecDepth 4000 in
theorem c_count (hG : gbK K R D T P S' A W L U) (hS : gbIs V S) (hQ : ∀ V', gbIs V' S → gFr V V' 0 775 → Q (some (gi (aCount S w))) (K, R, V')) : gC l E (d + 3) iX11_count [ga 0, gi w] (K, R, V) Q := by
  refine gC_of kX11_count (ls := [some (ga 0), some (gi w)]) rfl (Nat.le_of_ble_eq_true rfl) ?_
  have hG0 := hG
  obtain ⟨⟨eD, eT, eP, eS, eA, eW, eL, eU⟩, hO, ⟨r0, r1, r2, r3, r4, r5, r6, r7, r8, r9⟩, k1, k2, hDr, hTo, hRe, hSc, hAl, hWt, hTr, hPr, hBk, hHd⟩ := hG
  have hn0 := hS.1
  have hn1 := hS.2.1
  have hy : rIs V (T + 1) 320 S.2.2.1 := by rw [eT]; exact hS.2.2.2.2.2.2
  refine gX_iloadn dX11_count_0 rfl ?_
  refine gX_tab (dt := 49) [28, 33, 44] dX11_count_1 (by decide) (by decide) (by decide) (fun w1 => ?_) (fun i9 t9 ht9 w1 => ?_)
  · refine gX_sipush dX11_count_49 (by decide) ⟨by decide, by decide⟩ ?_
    refine gX_iret dX11_count_52 (Or.inl rfl) ?_
    have ea : aCount S w = -1002 := by
      unfold aCount
      rw [if_neg (by omega), if_neg (by omega), if_neg (by omega)]
    rw [ea] at hQ
    exact hQ V hS gFr.rf
  · match i9, ht9 with
    | 0, ht9 =>
      cases ht9
      refine gX_aloadn dX11_count_28 rfl ?_
      refine gX_gI 10 dX11_count_29 fdX11_77 rfl (Or.inl rfl) hO ?_
      rw [hn0]
      refine gX_iret dX11_count_32 (Or.inl rfl) ?_
      have ea : aCount S w = (S.1.length : Int) := by
        unfold aCount
        rw [if_pos (by omega)]
      rw [ea] at hQ
      exact hQ V hS gFr.rf
    | 1, ht9 =>
      cases ht9
      refine gX_aloadn dX11_count_33 rfl ?_
      refine gX_gR 3 dX11_count_34 fdX11_29 rfl rfl hO r3 ?_
      refine gX_gR 0 dX11_count_37 fdX11_85 rfl rfl hTo.1 hTo.2.1 ?_
      refine gX_virt (J := iX6_length) (av := []) (a := (T + 1)) (st := []) dX11_count_40 lkX11_88 kX6_length vX6_length (gFit_m (by decide)) hTo.2.2.1 rfl rfl (Nat.le_of_ble_eq_true rfl) (Nat.zero_le _) (Nat.zero_le _) rfl ?_
      refine q_Row_length hTo.2.2 hy ?_
      show gX l E _ 43 [some (ga 0), some (gi w)] [gi S.2.2.1.length] (K, R, V) _ _
      refine gX_iret dX11_count_43 (Or.inl rfl) ?_
      have ea : aCount S w = S.2.2.1.length := by
        unfold aCount
        rw [if_neg (by omega), if_pos (by omega)]
      rw [ea] at hQ
      exact hQ V hS gFr.rf
    | 2, ht9 =>
      cases ht9
      refine gX_aloadn dX11_count_44 rfl ?_
      refine gX_virt (J := iX11_copyCount) (av := []) (a := 0) (st := []) dX11_count_45 lkX11_230 kX11_copyCount vX11_copyCount (gFit_m (by decide)) hO rfl rfl (Nat.le_of_ble_eq_true rfl) (Nat.zero_le _) (Nat.zero_le _) rfl ?_
      refine c_copyCount hG0 hS (fun V1 hS1 hf1 => ?_)
      show gX l E _ 48 [some (ga 0), some (gi w)] [gi (copC S)] (K, R, V1) _ _
      refine gX_iret dX11_count_48 (Or.inl rfl) ?_
      have ea : aCount S w = copC S := by
        unfold aCount
        rw [if_neg (by omega), if_neg (by omega), if_pos (by omega)]
      rw [ea] at hQ
      exact hQ V1 hS1 hf1
    | k9 + 3, ht9 => exact absurd (List.getElem?_eq_some_iff.mp ht9).1 (by simp)
set_option maxRecDepth 4000 in
theorem c_explained (hG : gbK K R D T P S' A W L U) (hS : gbIs V S) (h1 : gBd (gbq S b).2.1 100) (hQ : ∀ V', gbIs V' S → gFr V V' 0 775 → Q (some (gl (aExpl S b w))) (K, R, V')) : gC l E (d + 4) iX11_explained [ga 0, gi b, gi w] (K, R, V) Q := by
  refine gC_of kX11_explained (ls := [some (ga 0), some (gi b), some (gi w), none]) rfl (Nat.le_of_ble_eq_true rfl) ?_
  have hG0 := hG
  obtain ⟨⟨eD, eT, eP, eS, eA, eW, eL, eU⟩, hO, ⟨r0, r1, r2, r3, r4, r5, r6, r7, r8, r9⟩, k1, k2, hDr, hTo, hRe, hSc, hAl, hWt, hTr, hPr, hBk, hHd⟩ := hG
  have hn0 := hS.1
  have hn1 := hS.2.1
  by_cases hr : 0 ≤ b ∧ b < S.1.length
  · obtain ⟨B, eB⟩ : ∃ B : Int, B = 39 + 70 * b := ⟨_, rfl⟩
    have hB : bkK K R B := by rw [eB]; exact (hBk b (by omega) (by omega)).2
    obtain ⟨q, eq⟩ : ∃ q, q = gbq S b := ⟨_, rfl⟩
    obtain ⟨hb, hm⟩ := hS.bk hr.1 hr.2 eB
    rw [← eq] at hb hm
    rw [← eq] at h1
    refine gX_aloadn dX11_explained_0 rfl ?_
    refine gX_iloadn dX11_explained_1 rfl ?_
    refine gX_virt (J := iX11_bookAt) (av := [gi b]) (a := 0) (st := []) dX11_explained_2 lkX11_142 kX11_bookAt vX11_bookAt (gFit_m (by decide)) hO rfl rfl (Nat.le_of_ble_eq_true rfl) (Nat.zero_le _) (Nat.zero_le _) rfl ?_
    refine c_bookAt hG0 hS hr eB ?_
    show gX l E _ 5 [some (ga 0), some (gi b), some (gi w), none] [ga B] (K, R, V) _ _
    refine gX_astoren dX11_explained_5 (show (3 : Nat) < 4 from by decide) (ls2 := [some (ga 0), some (gi b), some (gi w), some (ga B)]) rfl ?_
    refine gX_aloadn dX11_explained_6 rfl ?_
    refine gX_ifnonnull (tgt := 14) dX11_explained_7 (by decide) (fun w1 => ?_) (fun w1 => absurd (kd_pos hB.1) (by omega))
    refine gX_iloadn dX11_explained_14 rfl ?_
    refine gX_stat (J := iX11_isWord) (av := [gi w]) (st := []) dX11_explained_15 lkX11_171 kX11_isWord sX11_isWord (gFit_m (by decide)) rfl (Nat.le_of_ble_eq_true rfl) (Nat.zero_le _) (Nat.zero_le _) rfl ?_
    refine c_isWord ?_
    show gX l E _ 18 [some (ga 0), some (gi b), some (gi w), some (ga B)] [gi (if 0 ≤ w ∧ w ≤ 63 then 1 else 0)] (K, R, V) _ _
    refine gX_ifeq (tgt := 31) dX11_explained_18 (by decide) (fun w2 => ?_) (fun w2 => ?_)
    · refine gX_ldc2 (x := -1002) dX11_explained_31 clX11_300 (by decide) ⟨by decide, by decide⟩ ?_
      refine gX_lret dX11_explained_34 rfl ?_
      have ea : aExpl S b w = -1002 := by
        unfold aExpl
        rw [if_pos hr, if_neg (fun z => by have z9 : (if 0 ≤ w ∧ w ≤ 63 then (1 : Int) else 0) = 1 := if_pos z; omega)]
      rw [ea] at hQ
      exact hQ V hS gFr.rf
    · refine gX_aloadn dX11_explained_21 rfl ?_
      refine gX_lconst (x := 1) dX11_explained_22 (by decide) ⟨by decide, by decide⟩ ?_
      refine gX_iloadn dX11_explained_23 rfl ?_
      refine gX_lshl dX11_explained_24 ?_
      refine gX_virt (J := iX1_explainersOf) (av := [gl (glshl 1 w)]) (a := B) (st := []) dX11_explained_25 lkX11_296 kX1_explainersOf vX1_explainersOf (gFit_m (by decide)) hB.1 rfl rfl (Nat.le_of_ble_eq_true rfl) (Nat.zero_le _) (Nat.zero_le _) rfl ?_
      refine c_explainers hB hb h1 ?_
      show gX l E _ 28 [some (ga 0), some (gi b), some (gi w), some (ga B)] [gl (expl q.1 q.2.1 (glshl 1 w))] (K, R, V) _ _
      refine gX_goto (tgt := 34) dX11_explained_28 (by decide) ?_
      refine gX_lret dX11_explained_34 rfl ?_
      have ea : aExpl S b w = expl q.1 q.2.1 (glshl 1 w) := by
        unfold aExpl
        rw [if_pos hr, eq, if_pos (Decidable.byContradiction fun z => by have z9 : (if 0 ≤ w ∧ w ≤ 63 then (1 : Int) else 0) = 0 := if_neg z; omega)]
      rw [ea] at hQ
      exact hQ V hS gFr.rf
  · refine gX_aloadn dX11_explained_0 rfl ?_
    refine gX_iloadn dX11_explained_1 rfl ?_
    refine gX_virt (J := iX11_bookAt) (av := [gi b]) (a := 0) (st := []) dX11_explained_2 lkX11_142 kX11_bookAt vX11_bookAt (gFit_m (by decide)) hO rfl rfl (Nat.le_of_ble_eq_true rfl) (Nat.zero_le _) (Nat.zero_le _) rfl ?_
    refine c_bookAtN hG0 hS hr ?_
    show gX l E _ 5 [some (ga 0), some (gi b), some (gi w), none] [ga (-1)] (K, R, V) _ _
    refine gX_astoren dX11_explained_5 (show (3 : Nat) < 4 from by decide) (ls2 := [some (ga 0), some (gi b), some (gi w), some (ga (-1))]) rfl ?_
    refine gX_aloadn dX11_explained_6 rfl ?_
    refine gX_ifnonnull (tgt := 14) dX11_explained_7 (by decide) (fun w1 => absurd w1 (by omega)) (fun w1 => ?_)
    refine gX_ldc2 (x := -1001) dX11_explained_10 clX11_294 (by decide) ⟨by decide, by decide⟩ ?_
    refine gX_lret dX11_explained_13 rfl ?_
    have ea : aExpl S b w = -1001 := by
      unfold aExpl
      rw [if_neg hr]
    rw [ea] at hQ
    exact hQ V hS gFr.rf
set_option maxRecDepth 4000 in
theorem c_gbSteps {v : Int} (hG : gbK K R D T P S' A W L U) (hS : gbIs V S) (h1 : gBd (gbq S b).2.1 100) (hQ : ∀ V', gbIs V' S → gFr V V' 0 775 → Q (some (gi (aSteps S b w v))) (K, R, V')) : gC l E (d + 5) iX11_steps [ga 0, gi b, gi w, gi v] (K, R, V) Q := by
  refine gC_of kX11_steps (ls := [some (ga 0), some (gi b), some (gi w), some (gi v), none]) rfl (Nat.le_of_ble_eq_true rfl) ?_
  have hG0 := hG
  obtain ⟨⟨eD, eT, eP, eS, eA, eW, eL, eU⟩, hO, ⟨r0, r1, r2, r3, r4, r5, r6, r7, r8, r9⟩, k1, k2, hDr, hTo, hRe, hSc, hAl, hWt, hTr, hPr, hBk, hHd⟩ := hG
  have hn0 := hS.1
  have hn1 := hS.2.1
  by_cases hr : 0 ≤ b ∧ b < S.1.length
  · obtain ⟨B, eB⟩ : ∃ B : Int, B = 39 + 70 * b := ⟨_, rfl⟩
    have hB : bkK K R B := by rw [eB]; exact (hBk b (by omega) (by omega)).2
    obtain ⟨q, eq⟩ : ∃ q, q = gbq S b := ⟨_, rfl⟩
    obtain ⟨hb, hm⟩ := hS.bk hr.1 hr.2 eB
    rw [← eq] at hb hm
    rw [← eq] at h1
    refine gX_aloadn dX11_steps_0 rfl ?_
    refine gX_iloadn dX11_steps_1 rfl ?_
    refine gX_virt (J := iX11_bookAt) (av := [gi b]) (a := 0) (st := []) dX11_steps_2 lkX11_142 kX11_bookAt vX11_bookAt (gFit_m (by decide)) hO rfl rfl (Nat.le_of_ble_eq_true rfl) (Nat.zero_le _) (Nat.zero_le _) rfl ?_
    refine c_bookAt hG0 hS hr eB ?_
    show gX l E _ 5 [some (ga 0), some (gi b), some (gi w), some (gi v), none] [ga B] (K, R, V) _ _
    refine gX_astore dX11_steps_5 (show (4 : Nat) < 5 from by decide) (ls2 := [some (ga 0), some (gi b), some (gi w), some (gi v), some (ga B)]) rfl ?_
    refine gX_aload dX11_steps_7 rfl ?_
    refine gX_ifnonnull (tgt := 16) dX11_steps_9 (by decide) (fun w1 => ?_) (fun w1 => absurd (kd_pos hB.1) (by omega))
    refine gX_iloadn dX11_steps_16 rfl ?_
    refine gX_stat (J := iX11_isWord) (av := [gi w]) (st := []) dX11_steps_17 lkX11_171 kX11_isWord sX11_isWord (gFit_m (by decide)) rfl (Nat.le_of_ble_eq_true rfl) (Nat.zero_le _) (Nat.zero_le _) rfl ?_
    refine c_isWord ?_
    show gX l E _ 20 [some (ga 0), some (gi b), some (gi w), some (gi v), some (ga B)] [gi (if 0 ≤ w ∧ w ≤ 63 then 1 else 0)] (K, R, V) _ _
    refine gX_ifeq (tgt := 40) dX11_steps_20 (by decide) (fun w2 => ?_) (fun w2 => ?_)
    · refine gX_sipush dX11_steps_40 (by decide) ⟨by decide, by decide⟩ ?_
      refine gX_iret dX11_steps_43 (Or.inl rfl) ?_
      have ea : aSteps S b w v = -1002 := by
        unfold aSteps
        rw [if_pos hr, if_neg (fun z => ?_)]
        · first
          | (have z9 : (if 0 ≤ w ∧ w ≤ 63 then (1 : Int) else 0) = 1 := if_pos z.1; omega)
          | (have z9 : (if 0 ≤ v ∧ v ≤ 63 then (1 : Int) else 0) = 1 := if_pos z.2; omega)
      rw [ea] at hQ
      exact hQ V hS gFr.rf
    · refine gX_iloadn dX11_steps_23 rfl ?_
      refine gX_stat (J := iX11_isWord) (av := [gi v]) (st := []) dX11_steps_24 lkX11_171 kX11_isWord sX11_isWord (gFit_m (by decide)) rfl (Nat.le_of_ble_eq_true rfl) (Nat.zero_le _) (Nat.zero_le _) rfl ?_
      refine c_isWord ?_
      show gX l E _ 27 [some (ga 0), some (gi b), some (gi w), some (gi v), some (ga B)] [gi (if 0 ≤ v ∧ v ≤ 63 then 1 else 0)] (K, R, V) _ _
      refine gX_ifeq (tgt := 40) dX11_steps_27 (by decide) (fun w3 => ?_) (fun w3 => ?_)
      · refine gX_sipush dX11_steps_40 (by decide) ⟨by decide, by decide⟩ ?_
        refine gX_iret dX11_steps_43 (Or.inl rfl) ?_
        have ea : aSteps S b w v = -1002 := by
          unfold aSteps
          rw [if_pos hr, if_neg (fun z => ?_)]
          · first
            | (have z9 : (if 0 ≤ w ∧ w ≤ 63 then (1 : Int) else 0) = 1 := if_pos z.1; omega)
            | (have z9 : (if 0 ≤ v ∧ v ≤ 63 then (1 : Int) else 0) = 1 := if_pos z.2; omega)
        rw [ea] at hQ
        exact hQ V hS gFr.rf
      · refine gX_aload dX11_steps_30 rfl ?_
        refine gX_iloadn dX11_steps_32 rfl ?_
        refine gX_iloadn dX11_steps_33 rfl ?_
        refine gX_virt (J := iX1_stepsBetween) (av := [gi w, gi v]) (a := B) (st := []) dX11_steps_34 lkX11_302 kX1_stepsBetween vX1_stepsBetween (gFit_m (by decide)) hB.1 rfl rfl (Nat.le_of_ble_eq_true rfl) (Nat.zero_le _) (Nat.zero_le _) rfl ?_
        refine c_steps hB hb h1 ?_
        show gX l E _ 37 [some (ga 0), some (gi b), some (gi w), some (gi v), some (ga B)] [gi (stps q.1 q.2.1 w v)] (K, R, V) _ _
        refine gX_goto (tgt := 43) dX11_steps_37 (by decide) ?_
        refine gX_iret dX11_steps_43 (Or.inl rfl) ?_
        have ea : aSteps S b w v = stps q.1 q.2.1 w v := by
          unfold aSteps
          rw [if_pos hr, eq, if_pos ⟨Decidable.byContradiction fun z => by have z9 : (if 0 ≤ w ∧ w ≤ 63 then (1 : Int) else 0) = 0 := if_neg z; omega, Decidable.byContradiction fun z => by have z9 : (if 0 ≤ v ∧ v ≤ 63 then (1 : Int) else 0) = 0 := if_neg z; omega⟩]
        rw [ea] at hQ
        exact hQ V hS gFr.rf
  · refine gX_aloadn dX11_steps_0 rfl ?_
    refine gX_iloadn dX11_steps_1 rfl ?_
    refine gX_virt (J := iX11_bookAt) (av := [gi b]) (a := 0) (st := []) dX11_steps_2 lkX11_142 kX11_bookAt vX11_bookAt (gFit_m (by decide)) hO rfl rfl (Nat.le_of_ble_eq_true rfl) (Nat.zero_le _) (Nat.zero_le _) rfl ?_
    refine c_bookAtN hG0 hS hr ?_
    show gX l E _ 5 [some (ga 0), some (gi b), some (gi w), some (gi v), none] [ga (-1)] (K, R, V) _ _
    refine gX_astore dX11_steps_5 (show (4 : Nat) < 5 from by decide) (ls2 := [some (ga 0), some (gi b), some (gi w), some (gi v), some (ga (-1))]) rfl ?_
    refine gX_aload dX11_steps_7 rfl ?_
    refine gX_ifnonnull (tgt := 16) dX11_steps_9 (by decide) (fun w1 => absurd w1 (by omega)) (fun w1 => ?_)
    refine gX_sipush dX11_steps_12 (by decide) ⟨by decide, by decide⟩ ?_
    refine gX_iret dX11_steps_15 (Or.inl rfl) ?_
    have ea : aSteps S b w v = -1001 := by
      unfold aSteps
      rw [if_neg hr]
    rw [ea] at hQ
    exact hQ V hS gFr.rf
set_option maxRecDepth 4000 in
theorem c_round (hG : gbK K R D T P S' A W L U) (hS : gbIs V S) (h1 : gBd (gbq S b).2.1 100) (hQ : ∀ V', gbIs V' S → gFr V V' 0 775 → Q (some (gl (aRound S b))) (K, R, V')) : gC l E (d + 5) iX11_round [ga 0, gi b] (K, R, V) Q := by
  refine gC_of kX11_round (ls := [some (ga 0), some (gi b), none, none, none, none]) rfl (Nat.le_of_ble_eq_true rfl) ?_
  have hG0 := hG
  obtain ⟨⟨eD, eT, eP, eS, eA, eW, eL, eU⟩, hO, ⟨r0, r1, r2, r3, r4, r5, r6, r7, r8, r9⟩, k1, k2, hDr, hTo, hRe, hSc, hAl, hWt, hTr, hPr, hBk, hHd⟩ := hG
  have hn0 := hS.1
  have hn1 := hS.2.1
  by_cases hr : 0 ≤ b ∧ b < S.1.length
  · obtain ⟨B, eB⟩ : ∃ B : Int, B = 39 + 70 * b := ⟨_, rfl⟩
    have hB : bkK K R B := by rw [eB]; exact (hBk b (by omega) (by omega)).2
    obtain ⟨q, eq⟩ : ∃ q, q = gbq S b := ⟨_, rfl⟩
    obtain ⟨hb, hm⟩ := hS.bk hr.1 hr.2 eB
    rw [← eq] at hb hm
    rw [← eq] at h1
    have lp : ∀ (jj : Nat) (w : Int) (x : Int) (bc bs : Nat), (64 : Int) - w < (jj : Int) → 0 ≤ w → w ≤ 64 → (Q (some (gl (rouF q.1 q.2.1 (64 - w).toNat w x))) (K, R, V)) → gX l E (gFm E (d + 5) iX11_round Q) 19 [some (ga 0), some (gi b), some (ga B), some (gl x), none, some (gi w)] [] (K, R, V) bc bs := by
      intro jj
      induction jj with
      | zero =>
        intro w x bc bs hj q0 q1 q2
        exfalso; omega
      | succ jj ih =>
        intro w x bc bs hj q0 q1 q2
        refine gX_iload dX11_round_19 rfl ?_
        refine gX_bipush dX11_round_21 (by decide) ⟨by decide, by decide⟩ ?_
        refine gX_icmpgt (tgt := 51) dX11_round_23 (by decide) (fun w1 => ?_) (fun w1 => ?_)
        · refine gX_lloadn dX11_round_51 rfl ?_
          refine gX_lret dX11_round_52 rfl ?_
          have ei : (64 - w).toNat = 0 := by omega
          rw [ei] at q2
          exact q2
        · refine gX_aloadn dX11_round_26 rfl ?_
          refine gX_iload dX11_round_27 rfl ?_
          refine gX_iload dX11_round_29 rfl ?_
          refine gX_virt (J := iX1_stepsBetween) (av := [gi w, gi w]) (a := B) (st := []) dX11_round_31 lkX11_302 kX1_stepsBetween vX1_stepsBetween (gFit_m (by decide)) hB.1 rfl rfl (Nat.le_of_ble_eq_true rfl) (Nat.zero_le _) (Nat.zero_le _) rfl ?_
          refine c_steps hB hb h1 ?_
          show gX l E _ 34 [some (ga 0), some (gi b), some (ga B), some (gl x), none, some (gi w)] [gi (stps q.1 q.2.1 w w)] (K, R, V) _ _
          refine gX_iconst dX11_round_34 ⟨by decide, by decide⟩ ?_
          refine gX_icmpeq (tgt := 45) dX11_round_35 (by decide) (fun w2 => ?_) (fun w2 => ?_)
          · refine gX_iinc dX11_round_45 rfl (show (5 : Nat) < 6 from by decide) ⟨by omega, by omega⟩ (ls2 := [some (ga 0), some (gi b), some (ga B), some (gl x), none, some (gi (w + 1))]) rfl ?_
            refine gX_goto (tgt := 19) dX11_round_48 (by decide) ?_
            have ek : (64 - w).toNat = (64 - (w + 1)).toNat + 1 := by omega
            have e1 : rouF q.1 q.2.1 (64 - w).toNat w x = rouF q.1 q.2.1 (64 - (w + 1)).toNat (w + 1) (x) := by
              rw [ek]
              show rouF q.1 q.2.1 _ _ (if _ then _ else _) = _
              rw [if_pos (by omega)]
            rw [e1] at q2
            exact ih (w + 1) _ _ _ (by omega) (by omega) (by omega) q2
          · refine gX_lloadn dX11_round_38 rfl ?_
            refine gX_lconst (x := 1) dX11_round_39 (by decide) ⟨by decide, by decide⟩ ?_
            refine gX_iload dX11_round_40 rfl ?_
            refine gX_lshl dX11_round_42 ?_
            refine gX_lor dX11_round_43 ?_
            refine gX_lstoren dX11_round_44 (show (3 : Nat) + 1 < 6 from by decide) (ls2 := [some (ga 0), some (gi b), some (ga B), some (gl (glor x (glshl 1 w))), none, some (gi w)]) rfl ?_
            refine gX_iinc dX11_round_45 rfl (show (5 : Nat) < 6 from by decide) ⟨by omega, by omega⟩ (ls2 := [some (ga 0), some (gi b), some (ga B), some (gl (glor x (glshl 1 w))), none, some (gi (w + 1))]) rfl ?_
            refine gX_goto (tgt := 19) dX11_round_48 (by decide) ?_
            have ek : (64 - w).toNat = (64 - (w + 1)).toNat + 1 := by omega
            have e1 : rouF q.1 q.2.1 (64 - w).toNat w x = rouF q.1 q.2.1 (64 - (w + 1)).toNat (w + 1) (glor x (glshl 1 w)) := by
              rw [ek]
              show rouF q.1 q.2.1 _ _ (if _ then _ else _) = _
              rw [if_neg (by omega)]
            rw [e1] at q2
            exact ih (w + 1) _ _ _ (by omega) (by omega) (by omega) q2
    refine gX_aloadn dX11_round_0 rfl ?_
    refine gX_iloadn dX11_round_1 rfl ?_
    refine gX_virt (J := iX11_bookAt) (av := [gi b]) (a := 0) (st := []) dX11_round_2 lkX11_142 kX11_bookAt vX11_bookAt (gFit_m (by decide)) hO rfl rfl (Nat.le_of_ble_eq_true rfl) (Nat.zero_le _) (Nat.zero_le _) rfl ?_
    refine c_bookAt hG0 hS hr eB ?_
    show gX l E _ 5 [some (ga 0), some (gi b), none, none, none, none] [ga B] (K, R, V) _ _
    refine gX_astoren dX11_round_5 (show (2 : Nat) < 6 from by decide) (ls2 := [some (ga 0), some (gi b), some (ga B), none, none, none]) rfl ?_
    refine gX_aloadn dX11_round_6 rfl ?_
    refine gX_ifnonnull (tgt := 14) dX11_round_7 (by decide) (fun m1 => ?_) (fun m1 => absurd (kd_pos hB.1) (by omega))
    refine gX_lconst (x := 0) dX11_round_14 (by decide) ⟨by decide, by decide⟩ ?_
    refine gX_lstoren dX11_round_15 (show (3 : Nat) + 1 < 6 from by decide) (ls2 := [some (ga 0), some (gi b), some (ga B), some (gl 0), none, none]) rfl ?_
    refine gX_iconst dX11_round_16 ⟨by decide, by decide⟩ ?_
    refine gX_istore dX11_round_17 (show (5 : Nat) < 6 from by decide) (ls2 := [some (ga 0), some (gi b), some (ga B), some (gl 0), none, some (gi 0)]) rfl ?_
    have ea : aRound S b = rouF q.1 q.2.1 64 0 0 := by
      unfold aRound
      rw [if_pos hr, eq]
    have hQ2 := hQ V hS gFr.rf
    rw [ea] at hQ2
    exact lp 65 0 0 _ _ (by omega) (by omega) (by omega) hQ2
  · refine gX_aloadn dX11_round_0 rfl ?_
    refine gX_iloadn dX11_round_1 rfl ?_
    refine gX_virt (J := iX11_bookAt) (av := [gi b]) (a := 0) (st := []) dX11_round_2 lkX11_142 kX11_bookAt vX11_bookAt (gFit_m (by decide)) hO rfl rfl (Nat.le_of_ble_eq_true rfl) (Nat.zero_le _) (Nat.zero_le _) rfl ?_
    refine c_bookAtN hG0 hS hr ?_
    show gX l E _ 5 [some (ga 0), some (gi b), none, none, none, none] [ga (-1)] (K, R, V) _ _
    refine gX_astoren dX11_round_5 (show (2 : Nat) < 6 from by decide) (ls2 := [some (ga 0), some (gi b), some (ga (-1)), none, none, none]) rfl ?_
    refine gX_aloadn dX11_round_6 rfl ?_
    refine gX_ifnonnull (tgt := 14) dX11_round_7 (by decide) (fun w1 => absurd w1 (by omega)) (fun w1 => ?_)
    refine gX_ldc2 (x := -1001) dX11_round_10 clX11_294 (by decide) ⟨by decide, by decide⟩ ?_
    refine gX_lret dX11_round_13 rfl ?_
    have ea : aRound S b = -1001 := by
      unfold aRound
      rw [if_neg hr]
    rw [ea] at hQ
    exact hQ V hS gFr.rf
end GB
