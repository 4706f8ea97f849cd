/-! A book while it is read (by hand). -/
/-- hosts of hosts -/
def upG (gs : List gG) : Nat → Int → Int
  | 0, x => x
  | n + 1, x => upG gs n (if 0 ≤ x then (gq gs x).2.1 else -1)
def isLm (st : Int) : Bool := decide (st = 2 ∨ st = 3)
def lmN (st : Int) : Int := if isLm st = true then 1 else 0
theorem isLm_t {st : Int} : isLm st = true ↔ (st = 2 ∨ st = 3) := by unfold isLm; rw [decide_eq_true_eq]
theorem lmN_cs (st : Int) : (isLm st = true ∧ lmN st = 1) ∨ (isLm st = false ∧ lmN st = 0) := by
  unfold lmN
  cases isLm st
  · exact Or.inr ⟨rfl, if_neg (by decide)⟩
  · exact Or.inl ⟨rfl, if_pos rfl⟩
/-- what stands of the text and the glosses read so far -/
def PI (tx : List Int) (gs : List gG) (st op lf : Int) : Prop :=
  ((-1 ≤ op ∧ op < gs.length) ∧ (st = 0 ∨ st = 1 ∨ st = 2 ∨ st = 3) ∧ (st = 1 → 0 ≤ op)) ∧ (∀ q ∈ gs, lvQ q) ∧ lsW tx gs ∧ hoW gs ∧ wdM tx gs ∧ (∀ g : Int, 0 ≤ g → g < gs.length → dpt gs 5 g ≤ 4) ∧ (∀ g : Int, 0 ≤ g → g < gs.length → (g = op → st = 0 ∨ st = 3) → 1 ≤ (gq gs g).2.2.2.2.2.length) ∧ PO gs ∧ (∀ (n : Nat) (j : Int), upG gs n op < j → j < gs.length → upG gs n op ≤ (gq gs j).2.1) ∧ (isLm st = true → 0 ≤ lf ∧ lf ≤ (rwL tx gs op).length ∧ (st = 3 → lf < (rwL tx gs op).length) ∧ ∀ j : Int, 0 ≤ j → j < gs.length → (gq gs j).2.1 = op → (gq gs j).2.2.2.1 < lf)
theorem upG_bd {gs : List gG} (hw : hoW gs) : ∀ (n : Nat) (x : Int), -1 ≤ x → x < gs.length → -1 ≤ upG gs n x ∧ upG gs n x ≤ x
  | 0, x, x0, x1 => ⟨x0, Int.le_refl _⟩
  | n + 1, x, x0, x1 => by
    show -1 ≤ upG gs n (if 0 ≤ x then (gq gs x).2.1 else -1) ∧ upG gs n (if 0 ≤ x then (gq gs x).2.1 else -1) ≤ x
    by_cases c : 0 ≤ x
    · rw [if_pos c]
      have h := hw.at c x1
      have := upG_bd hw n (gq gs x).2.1 h.1 (by omega)
      omega
    · rw [if_neg c]
      have := upG_bd hw n (-1) (by omega) (by omega)
      omega
theorem upG_dpt {gs : List gG} (hw : hoW gs) (h20 : gs.length ≤ 20) : ∀ (n : Nat) (x : Int), -1 ≤ x → x < gs.length → dpt gs 21 (upG gs n x) ≤ dpt gs 21 x
  | 0, x, x0, x1 => Int.le_refl _
  | n + 1, x, x0, x1 => by
    show dpt gs 21 (upG gs n (if 0 ≤ x then (gq gs x).2.1 else -1)) ≤ _
    by_cases c : 0 ≤ x
    · rw [if_pos c]
      have h := hw.at c x1
      have := upG_dpt hw h20 n (gq gs x).2.1 h.1 (by omega)
      have := dpt_h hw h20 c x1
      omega
    · rw [if_neg c]
      have := upG_dpt hw h20 n (-1) (by omega) (by omega)
      rw [show x = -1 by omega]
      exact this
theorem upG_cg {gs gs' : List gG} (hw : hoW gs) (he : ∀ k : Int, 0 ≤ k → k < gs.length → (gq gs' k).2.1 = (gq gs k).2.1) : ∀ (n : Nat) (x : Int), x < gs.length → upG gs' n x = upG gs n x
  | 0, x, x1 => rfl
  | n + 1, x, x1 => by
    show upG gs' n (if 0 ≤ x then (gq gs' x).2.1 else -1) = upG gs n (if 0 ≤ x then (gq gs x).2.1 else -1)
    by_cases c : 0 ≤ x
    · rw [if_pos c, if_pos c, he x c x1]
      exact upG_cg hw he n _ (by have := (hw.at c x1).2; omega)
    · rw [if_neg c, if_neg c]
      exact upG_cg hw he n _ (by omega)
/-- the row at x with a word more -/
def addW (tx : List Int) (gs : List gG) (op w : Int) : List Int × List gG := (if inG gs op = true then tx else tx ++ [w], if inG gs op = true then gs.set op.toNat (rwG (gq gs op) ((gq gs op).2.2.2.2.2 ++ [w])) else gs)
theorem inGt {gs : List gG} {g : Int} : inG gs g = true ↔ (0 ≤ g ∧ g < gs.length) := by unfold inG; rw [decide_eq_true_eq]
theorem addW_len (tx : List Int) (gs : List gG) (op w : Int) : (addW tx gs op w).2.length = gs.length := by
  unfold addW
  show (if _ then _ else _ : List gG).length = _
  split
  · exact List.length_set ..
  · rfl
theorem addW_q {tx : List Int} {gs : List gG} {op w : Int} {k : Int} (k0 : 0 ≤ k) : gq (addW tx gs op w).2 k = if k = op ∧ inG gs op = true then rwG (gq gs op) ((gq gs op).2.2.2.2.2 ++ [w]) else gq gs k := by
  unfold addW
  show gq (if _ then _ else _ : List gG) k = _
  by_cases c : inG gs op = true
  · have c2 := inGt.mp c
    rw [if_pos c, gq_set c2.1 c2.2 k0]
    by_cases e : k = op
    · rw [if_pos e, if_pos ⟨e, c⟩]
    · rw [if_neg e, if_neg (fun z => e z.1)]
  · rw [if_neg c, if_neg (fun z => c z.2)]
theorem addW_f {tx : List Int} {gs : List gG} {op w : Int} {k : Int} (k0 : 0 ≤ k) : (gq (addW tx gs op w).2 k).1 = (gq gs k).1 ∧ (gq (addW tx gs op w).2 k).2.1 = (gq gs k).2.1 ∧ (gq (addW tx gs op w).2 k).2.2.1 = (gq gs k).2.2.1 ∧ (gq (addW tx gs op w).2 k).2.2.2.1 = (gq gs k).2.2.2.1 ∧ (gq (addW tx gs op w).2 k).2.2.2.2.1 = (gq gs k).2.2.2.2.1 := by
  rw [addW_q k0]
  split
  · rename_i c
    rw [c.1]
    exact ⟨rfl, rfl, rfl, rfl, rfl⟩
  · exact ⟨rfl, rfl, rfl, rfl, rfl⟩
theorem addW_r {tx : List Int} {gs : List gG} {op w : Int} {h : Int} (h0 : -1 ≤ h) (h1 : h < gs.length) (o0 : -1 ≤ op) (o1 : op < gs.length) : rwL (addW tx gs op w).1 (addW tx gs op w).2 h = if h = op then rwL tx gs op ++ [w] else rwL tx gs h := by
  by_cases c : 0 ≤ h
  · have e1 : rwL (addW tx gs op w).1 (addW tx gs op w).2 h = (gq (addW tx gs op w).2 h).2.2.2.2.2 := if_pos ⟨c, by rw [addW_len]; exact h1⟩
    rw [e1, addW_q c]
    by_cases e : h = op
    · subst e
      have e2 : rwL tx gs h = (gq gs h).2.2.2.2.2 := if_pos ⟨c, h1⟩
      rw [if_pos ⟨rfl, inGt.mpr ⟨c, h1⟩⟩, if_pos rfl, e2]; rfl
    · have e2 : rwL tx gs h = (gq gs h).2.2.2.2.2 := if_pos ⟨c, h1⟩
      rw [if_neg (fun z => e z.1), if_neg e, e2]
  · have e : h = -1 := by omega
    subst e
    rw [rwL_n]
    unfold addW
    show (if _ then _ else _ : List Int) = _
    by_cases e : -1 = op
    · rw [if_neg (fun z => by have := inGt.mp z; omega), if_pos e, ← e, rwL_n]
    · rw [if_pos (inGt.mpr ⟨by omega, o1⟩), if_neg e, rwL_n]
theorem PI.word {tx : List Int} {gs : List gG} {st op lf w : Int} (h : PI tx gs st op lf) (hw : 0 ≤ w ∧ w ≤ 63) : PI (addW tx gs op w).1 (addW tx gs op w).2 (if st = 2 ∨ st = 3 then 3 else 0) op lf := by
  obtain ⟨⟨⟨a1, a2⟩, a3, a4⟩, b, c, d, e, f, g, p, u, v⟩ := h
  have hl := addW_len tx gs op w
  have hh : ∀ k : Int, 0 ≤ k → k < gs.length → (gq (addW tx gs op w).2 k).2.1 = (gq gs k).2.1 := fun k k0 _ => (addW_f k0).2.1
  have rl : ∀ x : Int, -1 ≤ x → x < gs.length → (rwL tx gs x).length ≤ (rwL (addW tx gs op w).1 (addW tx gs op w).2 x).length := fun x x0 x1 => by
    rw [addW_r x0 x1 a1 a2]
    split
    · rename_i z; rw [z, List.length_append]; omega
    · omega
  have il : isLm (if st = 2 ∨ st = 3 then 3 else 0) = isLm st := by
    unfold isLm
    by_cases z : st = 2 ∨ st = 3
    · rw [if_pos z, decide_eq_true z]; rfl
    · rw [if_neg z, decide_eq_false z]; rfl
  refine ⟨⟨⟨a1, by rw [hl]; exact a2⟩, by split <;> omega, fun z => by split at z <;> omega⟩, fun q hq => ?_, fun q hq => ?_, d.eqh hl (fun j => ?_), ?_, fun k k0 k1 => ?_, fun k k0 k1 hk => ?_, fun j k j0 jk k1 => ?_, fun n j z1 z2 => ?_, fun z => ?_⟩
  · obtain ⟨k, k0, k1, ek⟩ := gqI hq
    rw [hl] at k1
    rw [← ek]
    have := b _ (gqM k0 k1)
    unfold lvQ at this ⊢
    rw [(addW_f k0).2.2.2.2]; exact this
  · obtain ⟨k, k0, k1, ek⟩ := gqI hq
    rw [hl] at k1
    have z := c.at k0 k1
    have y := d.at k0 k1
    have := rl (gq gs k).2.1 y.1 (by omega)
    rw [← ek, (addW_f k0).2.1, (addW_f k0).2.2.1, (addW_f k0).2.2.2.1]
    omega
  · by_cases z : 0 ≤ j
    · exact (addW_f z).2.1
    · rw [gqN (addW tx gs op w).2 j, gqN gs j]; exact (addW_f (by omega)).2.1
  · refine ⟨?_, fun k k0 k1 => ?_⟩
    · unfold addW
      show wdB (if _ then _ else _ : List Int)
      split
      · exact e.1
      · exact e.1.app (fun x hx => by rw [List.mem_singleton.mp hx]; exact hw)
    · rw [hl] at k1
      rw [addW_q k0]
      split
      · rename_i z; exact (e.2 op (by omega) a2).app (fun x hx => by rw [List.mem_singleton.mp hx]; exact hw)
      · exact e.2 k k0 k1
  · rw [hl] at k1
    rw [dpt_sq hl hh]; exact f k k0 k1
  · rw [hl] at k1
    rw [addW_q k0]
    split
    · show 1 ≤ ((gq gs op).2.2.2.2.2 ++ [w]).length; rw [List.length_append]; exact Nat.le_add_left ..
    · rename_i z
      exact g k k0 k1 (fun y => absurd ⟨y, inGt.mpr ⟨by omega, a2⟩⟩ z)
  · rw [hl] at k1
    rw [(addW_f j0).2.1, (addW_f j0).2.2.1, (addW_f j0).2.2.2.1, (addW_f (show 0 ≤ k by omega)).2.1, (addW_f (show 0 ≤ k by omega)).2.2.1, (addW_f (show 0 ≤ k by omega)).2.2.2.1]
    exact p j k j0 jk k1
  · rw [hl] at z2
    have b1 := upG_bd d n op a1 a2
    rw [upG_cg d hh n op a2] at z1 ⊢
    rw [(addW_f (show 0 ≤ j by omega)).2.1]
    exact u n j z1 z2
  · rw [il] at z
    have v1 := v z
    have e1 : (rwL (addW tx gs op w).1 (addW tx gs op w).2 op).length = (rwL tx gs op).length + 1 := by
      rw [addW_r a1 a2 a1 a2, if_pos rfl, List.length_append]; rfl
    refine ⟨v1.1, by omega, fun _ => by omega, fun j j0 j1 hj => ?_⟩
    rw [hl] at j1
    rw [(addW_f j0).2.1] at hj
    rw [(addW_f j0).2.2.2.1]
    exact v1.2.2.2 j j0 j1 hj
theorem PI.brk {tx : List Int} {gs : List gG} {st op lf : Int} (h : PI tx gs st op lf) (hs : isLm st = false) : PI tx gs 2 op (rwL tx gs op).length := by
  obtain ⟨⟨⟨a1, a2⟩, a3, a4⟩, b, c, d, e, f, g, p, u, v⟩ := h
  refine ⟨⟨⟨a1, a2⟩, by omega, fun z => by omega⟩, b, c, d, e, f, fun k k0 k1 hk => ?_, p, u, fun _ => ⟨by omega, by omega, fun z => by omega, fun j j0 j1 hj => ?_⟩⟩
  · refine g k k0 k1 (fun z => ?_)
    have := hk z
    omega
  · have := c.at j0 j1
    rw [hj] at this
    exact this.2.2
theorem gq_ap {gs : List gG} {q : gG} {k : Int} (k0 : 0 ≤ k) (k1 : k < gs.length + 1) : gq (gs ++ [q]) k = if k = gs.length then q else gq gs k := by
  unfold gq
  by_cases e : k = gs.length
  · rw [if_pos e, List.getD_eq_getElem?_getD, List.getElem?_append_right (by omega), show k.toNat - gs.length = 0 by omega]; rfl
  · rw [if_neg e, List.getD_eq_getElem?_getD, List.getD_eq_getElem?_getD, List.getElem?_append_left (by omega)]
theorem rwL_ap {tx : List Int} {gs : List gG} {q : gG} {k : Int} (k1 : k < gs.length) : rwL tx (gs ++ [q]) k = rwL tx gs k := by
  unfold rwL
  rw [List.length_append]
  by_cases c : 0 ≤ k
  · rw [if_pos ⟨c, by show k < ((gs.length + 1 : Nat) : Int); omega⟩, if_pos ⟨c, k1⟩, gq_ap c (by omega), if_neg (by omega)]
  · rw [if_neg (fun z => c z.1), if_neg (fun z => c z.1)]
theorem dpt_ap {gs : List gG} {q : gG} (hw : hoW gs) : ∀ (f : Nat) (k : Int), k < gs.length → dpt (gs ++ [q]) f k = dpt gs f k
  | 0, k, k1 => rfl
  | f + 1, k, k1 => by
    show (if 0 ≤ k ∧ k < (gs ++ [q]).length then 1 + dpt (gs ++ [q]) f (gq (gs ++ [q]) k).2.1 else 0) = (if 0 ≤ k ∧ k < gs.length then 1 + dpt gs f (gq gs k).2.1 else 0)
    rw [List.length_append]
    by_cases c : 0 ≤ k
    · have := hw.at c k1
      rw [if_pos ⟨c, by show k < ((gs.length + 1 : Nat) : Int); omega⟩, if_pos ⟨c, k1⟩, gq_ap c (by omega), if_neg (by omega), dpt_ap hw f _ (by omega)]
    · rw [if_neg (fun z => c z.1), if_neg (fun z => c z.1)]
theorem PI.bar {tx : List Int} {gs : List gG} {st op lf kd H A Z : Int} (h : PI tx gs st op lf) (h20 : gs.length < 20) (hc : (st = 3 ∧ H = op ∧ A = lf ∧ Z = (rwL tx gs op).length - 1) ∨ (st = 0 ∧ 0 ≤ op ∧ H = (gq gs op).2.1 ∧ A = (gq gs op).2.2.1 ∧ Z = (gq gs op).2.2.2.1)) (hd : dpt gs 5 H < 4) : PI tx (gs ++ [(kd, H, A, Z, 0, [])]) 1 gs.length lf := by
  obtain ⟨⟨⟨a1, a2⟩, a3, a4⟩, b, c, d, e, f, g, p, u, v⟩ := h
  have hl : ((gs ++ [(kd, H, A, Z, 0, [])]).length : Int) = gs.length + 1 := by rw [List.length_append]; rfl
  have hq : ∀ k : Int, 0 ≤ k → k < gs.length → gq (gs ++ [(kd, H, A, Z, 0, [])]) k = gq gs k := fun k k0 k1 => by rw [gq_ap k0 (by omega), if_neg (by omega)]
  have hn : gq (gs ++ [(kd, H, A, Z, 0, [])]) gs.length = (kd, H, A, Z, 0, []) := by rw [gq_ap (by omega) (by omega), if_pos rfl]
  -- H is op or above it
  have hH : (∃ n, upG gs n op = H) ∧ -1 ≤ H ∧ H < gs.length := by
    rcases hc with z | z
    · exact ⟨⟨0, z.2.1.symm⟩, by omega, by omega⟩
    · have := d.at z.2.1 a2
      exact ⟨⟨1, by show (if 0 ≤ op then (gq gs op).2.1 else -1) = H; rw [if_pos z.2.1, z.2.2.1]⟩, by omega, by omega⟩
  have hsp : 0 ≤ A ∧ A ≤ Z ∧ Z < (rwL tx gs H).length := by
    rcases hc with z | z
    · have v1 := v (isLm_t.mpr (Or.inr z.1))
      have := v1.2.2.1 z.1
      rw [z.2.1]
      omega
    · have := c.at z.2.1 a2
      rw [z.2.2.1]
      omega
  have hoN : hoW (gs ++ [(kd, H, A, Z, 0, [])]) := fun k q hk => by
    by_cases ck : k < gs.length
    · rw [List.getElem?_append_left ck] at hk; exact d k q hk
    · rw [List.getElem?_append_right (by omega)] at hk
      have k1 : k - gs.length = 0 := by
        rcases Nat.eq_zero_or_pos (k - gs.length) with y | y
        · exact y
        · rw [List.getElem?_eq_none (by show ([(kd, H, A, Z, 0, [])] : List gG).length ≤ _; exact y)] at hk; cases hk
      rw [k1] at hk
      cases hk
      exact ⟨hH.2.1, by show H < k; omega⟩
  have fr : ∀ n : Nat, upG (gs ++ [(kd, H, A, Z, 0, [])]) n H = upG gs n H := fun n => upG_cg d (fun k k0 k1 => by rw [hq k k0 k1]) n H hH.2.2
  have uH : ∀ (n : Nat) (j : Int), upG gs n H < j → j < gs.length → upG gs n H ≤ (gq gs j).2.1 := fun n j z1 z2 => by
    rcases hc with z | z
    · rw [z.2.1] at z1 ⊢; exact u n j z1 z2
    · have e1 : upG gs n H = upG gs (n + 1) op := by
        show _ = upG gs n (if 0 ≤ op then (gq gs op).2.1 else -1)
        rw [if_pos z.2.1, z.2.2.1]
      rw [e1] at z1 ⊢; exact u (n + 1) j z1 z2
  refine ⟨⟨⟨by omega, by omega⟩, by omega, fun _ => by omega⟩, fun q hq2 => ?_, fun q hq2 => ?_, hoN, ⟨e.1, fun k k0 k1 => ?_⟩, fun k k0 k1 => ?_, fun k k0 k1 hk => ?_, fun j k j0 jk k1 => ?_, fun n j z1 z2 => ?_, fun z => absurd z (by decide)⟩
  · rcases List.mem_append.mp hq2 with z | z
    · exact b q z
    · rw [List.mem_singleton.mp z]; rfl
  · rcases List.mem_append.mp hq2 with z | z
    · obtain ⟨k, k0, k1, ek⟩ := gqI z
      have := d.at k0 k1
      rw [ek] at this
      rw [rwL_ap (by omega)]; exact c q z
    · rw [List.mem_singleton.mp z]
      show 0 ≤ A ∧ A ≤ Z ∧ Z < ((rwL tx (gs ++ [(kd, H, A, Z, 0, [])]) H).length : Int)
      rw [rwL_ap hH.2.2]; exact hsp
  · by_cases ck : k = gs.length
    · rw [ck, hn]; exact fun x hx => by cases hx
    · rw [hq k k0 (by omega)]; exact e.2 k k0 (by omega)
  · by_cases ck : k = gs.length
    · have e5 : dpt (gs ++ [(kd, H, A, Z, 0, [])]) 5 k = 1 + dpt (gs ++ [(kd, H, A, Z, 0, [])]) 4 (gq (gs ++ [(kd, H, A, Z, 0, [])]) k).2.1 := if_pos ⟨k0, k1⟩
      rw [e5, ck, hn]
      show 1 + dpt (gs ++ [(kd, H, A, Z, 0, [])]) 4 H ≤ 4
      rw [dpt_ap d 4 H hH.2.2]
      have d4 := dpt_nn (gs := gs) 4 H
      by_cases z : dpt gs 4 H < 4
      · omega
      · exfalso
        have m5 : dpt gs 4 H ≤ dpt gs 5 H := by
          have : ∀ (f : Nat) (x : Int), dpt gs f x ≤ dpt gs (f + 1) x := by
            intro f
            induction f with
            | zero => intro x; exact (dpt_nn 1 x).1
            | succ f ih =>
              intro x
              show (if 0 ≤ x ∧ x < gs.length then 1 + dpt gs f (gq gs x).2.1 else 0) ≤ (if 0 ≤ x ∧ x < gs.length then 1 + dpt gs (f + 1) (gq gs x).2.1 else 0)
              split
              · have := ih (gq gs x).2.1; omega
              · omega
          exact this 4 H
        omega
    · rw [dpt_ap d 5 k (by omega)]; exact f k k0 (by omega)
  · by_cases ck : k = gs.length
    · have := hk ck; omega
    · rw [hq k k0 (by omega)]
      refine g k k0 (by omega) (fun z => ?_)
      rcases hc with y | y <;> omega
  · by_cases ck : k = gs.length
    · rw [ck, hn, hq j j0 (by omega)]
      show (j ≤ H ∨ H ≤ (gq gs j).2.1) ∧ ((gq gs j).2.1 = H → ((gq gs j).2.2.1 = A ∧ (gq gs j).2.2.2.1 = Z) ∨ (gq gs j).2.2.2.1 < A)
      refine ⟨?_, fun ej => ?_⟩
      · by_cases y : j ≤ H
        · exact Or.inl y
        · have := uH 0 j (by show H < j; omega) (by omega)
          exact Or.inr this
      · rcases hc with z | z
        · have v1 := v (isLm_t.mpr (Or.inr z.1))
          have := v1.2.2.2 j j0 (by omega) (by omega)
          omega
        · by_cases y : j = op
          · rw [y]; omega
          · by_cases y2 : j < op
            · have := (p j op j0 y2 a2).2 (by omega)
              omega
            · have := u 0 j (by show op < j; omega) (by omega)
              have := d.at z.2.1 a2
              have t : op ≤ (gq gs j).2.1 := u 0 j (by show op < j; omega) (by omega)
              omega
    · rw [hq j j0 (by omega), hq k (by omega) (by omega)]
      exact p j k j0 jk (by omega)
  · cases n with
    | zero =>
      have z1 : (gs.length : Int) < j := z1
      omega
    | succ n =>
      have e1 : upG (gs ++ [(kd, H, A, Z, 0, [])]) (n + 1) gs.length = upG gs n H := by
        show upG (gs ++ [(kd, H, A, Z, 0, [])]) n (if 0 ≤ (gs.length : Int) then (gq (gs ++ [(kd, H, A, Z, 0, [])]) gs.length).2.1 else -1) = _
        rw [if_pos (by omega), hn]
        exact fr n
      rw [e1] at z1 ⊢
      have b1 := upG_bd d n H hH.2.1 hH.2.2
      by_cases cj : j = gs.length
      · rw [cj, hn]; exact b1.2
      · rw [hq j (by omega) (by omega)]
        exact uH n j z1 (by omega)
theorem PI.fin {tx : List Int} {gs : List gG} {op lf : Int} (h : PI tx gs 0 op lf) (h0 : 0 ≤ op) : PI tx gs 0 (gq gs op).2.1 lf := by
  obtain ⟨⟨⟨a1, a2⟩, a3, a4⟩, b, c, d, e, f, g, p, u, v⟩ := h
  have ho := d.at h0 a2
  refine ⟨⟨⟨ho.1, by omega⟩, Or.inl rfl, fun z => absurd z (by decide)⟩, b, c, d, e, f, fun k k0 k1 _ => g k k0 k1 (fun _ => Or.inl rfl), p, fun n j z1 z2 => ?_, fun z => absurd z (by decide)⟩
  have e1 : upG gs n (gq gs op).2.1 = upG gs (n + 1) op := by
    show _ = upG gs n (if 0 ≤ op then (gq gs op).2.1 else -1)
    rw [if_pos h0]
  rw [e1] at z1 ⊢
  exact u (n + 1) j z1 z2
theorem PI.bk {tx : List Int} {gs : List gG} {lf : Int} (h : PI tx gs 0 (-1) lf) : bkP tx gs := by
  obtain ⟨⟨⟨a1, a2⟩, a3, a4⟩, b, c, d, e, f, g, p, u, v⟩ := h
  refine ⟨⟨b, c, d, e.w, f, fun q hq => ?_⟩, p⟩
  obtain ⟨k, k0, k1, ek⟩ := gqI hq
  rw [← ek]
  exact g k k0 k1 (fun _ => Or.inl rfl)
theorem PI.ini (lf : Int) : PI [] [] 0 (-1) lf := by
  have nk : ∀ k : Int, 0 ≤ k → ¬ k < (([] : List gG).length : Int) := fun k k0 k1 => by have k1 : k < (0 : Int) := k1; omega
  have hw : hoW ([] : List gG) := fun k q hk => by cases hk
  refine ⟨⟨⟨by omega, ?_⟩, Or.inl rfl, fun z => by omega⟩, ?_, ?_, hw, ⟨?_, ?_⟩, ?_, ?_, ?_, ?_, ?_⟩
  · show (-1 : Int) < 0; omega
  · intro q hq; cases hq
  · intro q hq; cases hq
  · intro x hx; cases hx
  · intro k k0 k1; exact absurd k1 (nk k k0)
  · intro k k0 k1; exact absurd k1 (nk k k0)
  · intro k k0 k1; exact absurd k1 (nk k k0)
  · intro j k j0 jk k1; exact absurd k1 (nk k (by omega))
  · intro n j z1 z2
    have := upG_bd hw n (-1) (by omega) (by show (-1 : Int) < 0; omega)
    exact absurd z2 (nk j (by omega))
  · intro z; exact absurd z (by decide)
