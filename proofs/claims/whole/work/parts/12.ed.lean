/-! The least cost of two texts beside one another (ed), the first way of it (alg): on lists. -/
def ed : List Int → List Int → Int
  | [], ys => ys.length
  | _ :: xs, [] => xs.length + 1
  | x :: xs, y :: ys => min (ed xs ys + (if x = y then 0 else 1)) (min (ed xs (y :: ys)) (ed (x :: xs) ys) + 1)
termination_by xs ys => xs.length + ys.length
def Dd (xs ys : List Int) (i j : Nat) : Int := ed (xs.drop i) (ys.drop j)
theorem ed_nil_r (xs : List Int) : ed xs [] = xs.length := by
  cases xs with
  | nil => rw [ed]
  | cons x xs => rw [ed, List.length_cons]; omega
theorem ed_nil_l (ys : List Int) : ed [] ys = ys.length := by rw [ed]
theorem ed_cc (x y : Int) (xs ys : List Int) : ed (x :: xs) (y :: ys) = min (ed xs ys + (if x = y then 0 else 1)) (min (ed xs (y :: ys)) (ed (x :: xs) ys) + 1) := by rw [ed]
theorem ed_bd : ∀ (n : Nat) (xs ys : List Int), xs.length + ys.length ≤ n → 0 ≤ ed xs ys ∧ ed xs ys ≤ xs.length + ys.length := by
  intro n
  induction n with
  | zero =>
    intro xs ys h
    have h1 : xs = [] := List.eq_nil_of_length_eq_zero (by omega)
    have h2 : ys = [] := List.eq_nil_of_length_eq_zero (by omega)
    subst h1; subst h2
    rw [ed]
    simp
  | succ n ih =>
    intro xs ys h
    cases xs with
    | nil => rw [ed_nil_l]; simp
    | cons x xs =>
      cases ys with
      | nil => rw [ed_nil_r]; simp; omega
      | cons y ys =>
        simp only [List.length_cons] at h ⊢
        have a1 := ih xs ys (by omega)
        have a2 := ih xs (y :: ys) (by simp only [List.length_cons]; omega)
        have a3 := ih (x :: xs) ys (by simp only [List.length_cons]; omega)
        simp only [List.length_cons] at a2 a3
        rw [ed_cc]
        split <;> omega
theorem ed_nn (xs ys : List Int) : 0 ≤ ed xs ys := (ed_bd _ xs ys (Nat.le_refl _)).1
theorem ed_le (xs ys : List Int) : ed xs ys ≤ xs.length + ys.length := (ed_bd _ xs ys (Nat.le_refl _)).2
theorem ed_sym : ∀ (n : Nat) (xs ys : List Int), xs.length + ys.length ≤ n → ed xs ys = ed ys xs := by
  intro n
  induction n with
  | zero =>
    intro xs ys h
    have h1 : xs = [] := List.eq_nil_of_length_eq_zero (by omega)
    have h2 : ys = [] := List.eq_nil_of_length_eq_zero (by omega)
    subst h1; subst h2
    rfl
  | succ n ih =>
    intro xs ys h
    cases xs with
    | nil => rw [ed_nil_l, ed_nil_r]
    | cons x xs =>
      cases ys with
      | nil => rw [ed_nil_l, ed_nil_r]
      | cons y ys =>
        simp only [List.length_cons] at h
        have a1 := ih xs ys (by omega)
        have a2 := ih xs (y :: ys) (by simp only [List.length_cons]; omega)
        have a3 := ih (x :: xs) ys (by simp only [List.length_cons]; omega)
        rw [ed_cc, ed_cc, a1, a2, a3]
        have e : (if x = y then (0 : Int) else 1) = (if y = x then 0 else 1) := by
          by_cases c : x = y
          · rw [if_pos c, if_pos c.symm]
          · rw [if_neg c, if_neg (fun z => c z.symm)]
        rw [e]
        omega
theorem ed_comm (xs ys : List Int) : ed xs ys = ed ys xs := ed_sym _ xs ys (Nat.le_refl _)
theorem drop_cons {xs : List Int} {i : Nat} (h : i < xs.length) : xs.drop i = xs[i] :: xs.drop (i + 1) := List.drop_eq_getElem_cons h
theorem Dd_top (xs ys : List Int) {i j : Nat} (h : xs.length ≤ i) (hj : j ≤ ys.length) : Dd xs ys i j = (ys.length : Int) - j := by
  unfold Dd
  rw [List.drop_eq_nil_of_le h, ed_nil_l, List.length_drop]
  omega
theorem Dd_right (xs ys : List Int) {i j : Nat} (h : ys.length ≤ j) (hi : i ≤ xs.length) : Dd xs ys i j = (xs.length : Int) - i := by
  unfold Dd
  rw [List.drop_eq_nil_of_le h, ed_nil_r, List.length_drop]
  omega
theorem Dd_step (xs ys : List Int) {i j : Nat} (hi : i < xs.length) (hj : j < ys.length) : Dd xs ys i j = min (Dd xs ys (i + 1) (j + 1) + (if xs[i] = ys[j] then 0 else 1)) (min (Dd xs ys (i + 1) j) (Dd xs ys i (j + 1)) + 1) := by
  unfold Dd
  rw [drop_cons hi, drop_cons hj, ed_cc]
theorem Dd_nn (xs ys : List Int) (i j : Nat) : 0 ≤ Dd xs ys i j := ed_nn _ _
theorem Dd_le (xs ys : List Int) (i j : Nat) : Dd xs ys i j ≤ xs.length + ys.length := by
  unfold Dd
  have := ed_le (xs.drop i) (ys.drop j)
  rw [List.length_drop, List.length_drop] at this
  omega
/-- the places of the second text beside those of the first, from its place j on; -1: left -/
def alg : List Int → List Int → Int → List Int
  | [], _, _ => []
  | _ :: xs, [], j => -1 :: alg xs [] j
  | x :: xs, y :: ys, j => if ed (x :: xs) (y :: ys) = ed xs ys + (if x = y then 0 else 1) then j :: alg xs ys (j + 1) else if ed (x :: xs) (y :: ys) = ed xs (y :: ys) + 1 then -1 :: alg xs (y :: ys) j else alg (x :: xs) ys (j + 1)
termination_by xs ys => xs.length + ys.length
theorem alg_nil (ys : List Int) (j : Int) : alg [] ys j = [] := by rw [alg]
theorem alg_cn (x : Int) (xs : List Int) (j : Int) : alg (x :: xs) [] j = -1 :: alg xs [] j := by rw [alg]
theorem alg_cc (x y : Int) (xs ys : List Int) (j : Int) : alg (x :: xs) (y :: ys) j = if ed (x :: xs) (y :: ys) = ed xs ys + (if x = y then 0 else 1) then j :: alg xs ys (j + 1) else if ed (x :: xs) (y :: ys) = ed xs (y :: ys) + 1 then -1 :: alg xs (y :: ys) j else alg (x :: xs) ys (j + 1) := by rw [alg]
theorem alg_len : ∀ (n : Nat) (xs ys : List Int) (j : Int), xs.length + ys.length ≤ n → (alg xs ys j).length = xs.length := by
  intro n
  induction n with
  | zero =>
    intro xs ys j h
    have h1 : xs = [] := List.eq_nil_of_length_eq_zero (by omega)
    subst h1
    rw [alg_nil]
  | succ n ih =>
    intro xs ys j h
    cases xs with
    | nil => rw [alg_nil]
    | cons x xs =>
      cases ys with
      | nil =>
        simp only [List.length_cons, List.length_nil] at h
        rw [alg_cn, List.length_cons, List.length_cons, ih xs [] j (by simp; omega)]
      | cons y ys =>
        simp only [List.length_cons] at h
        rw [alg_cc]
        generalize (if x = y then (0 : Int) else 1) = cc
        split
        · rw [List.length_cons, List.length_cons, ih xs ys _ (by omega)]
        · split
          · rw [List.length_cons, List.length_cons, ih xs (y :: ys) _ (by simp only [List.length_cons]; omega)]
          · rw [ih (x :: xs) ys _ (by simp only [List.length_cons]; omega)]
theorem alg_length (xs ys : List Int) (j : Int) : (alg xs ys j).length = xs.length := alg_len _ xs ys j (Nat.le_refl _)
/-- partners are -1 or places of the second text from j on -/
theorem alg_in : ∀ (n : Nat) (xs ys : List Int) (j : Int), xs.length + ys.length ≤ n → ∀ v ∈ alg xs ys j, v = -1 ∨ (j ≤ v ∧ v < j + ys.length) := by
  intro n
  induction n with
  | zero =>
    intro xs ys j h v hv
    have h1 : xs = [] := List.eq_nil_of_length_eq_zero (by omega)
    subst h1
    rw [alg_nil] at hv
    cases hv
  | succ n ih =>
    intro xs ys j h v hv
    cases xs with
    | nil => rw [alg_nil] at hv; cases hv
    | cons x xs =>
      cases ys with
      | nil =>
        simp only [List.length_cons, List.length_nil] at h
        rw [alg_cn] at hv
        rcases List.mem_cons.mp hv with rfl | hv
        · exact Or.inl rfl
        · exact ih xs [] j (by simp; omega) v hv
      | cons y ys =>
        simp only [List.length_cons] at h ⊢
        rw [alg_cc] at hv
        generalize (if x = y then (0 : Int) else 1) = cc at hv
        split at hv
        · rcases List.mem_cons.mp hv with rfl | hv
          · exact Or.inr ⟨by omega, by omega⟩
          · rcases ih xs ys _ (by omega) v hv with q | q
            · exact Or.inl q
            · exact Or.inr ⟨by omega, by omega⟩
        · split at hv
          · rcases List.mem_cons.mp hv with rfl | hv
            · exact Or.inl rfl
            · have := ih xs (y :: ys) _ (by simp only [List.length_cons]; omega) v hv
              simp only [List.length_cons] at this
              exact this
          · rcases ih (x :: xs) ys _ (by simp only [List.length_cons]; omega) v hv with q | q
            · exact Or.inl q
            · exact Or.inr ⟨by omega, by omega⟩
theorem alg_mem (xs ys : List Int) {v : Int} (h : v ∈ alg xs ys 0) : v = -1 ∨ (0 ≤ v ∧ v < ys.length) := by
  have := alg_in _ xs ys 0 (Nat.le_refl _) v h
  omega
theorem ed_self : ∀ xs : List Int, ed xs xs = 0 := by
  intro xs
  induction xs with
  | nil => rw [ed]; rfl
  | cons x xs ih =>
    rw [ed_cc, ih, if_pos rfl]
    have h1 := ed_nn xs (x :: xs)
    have h2 := ed_nn (x :: xs) xs
    omega
/-- a text beside itself -/
theorem alg_self : ∀ (xs : List Int) (j : Int), alg xs xs j = (List.range xs.length).map (fun k => j + (k : Nat)) := by
  intro xs
  induction xs with
  | nil => intro j; rw [alg_nil]; rfl
  | cons x xs ih =>
    intro j
    rw [alg_cc, ed_self, ed_self, if_pos rfl, if_pos (by omega), ih, List.length_cons, List.range_succ_eq_map, List.map_cons, List.map_map]
    congr 1
    · simp
    · apply List.map_congr_left
      intro k _
      show j + 1 + (k : Int) = j + ((k + 1 : Nat) : Int)
      omega
/-- the way at a place: together, left, put -/
theorem alg_drop {xs ys : List Int} {i j : Nat} (hi : i < xs.length) (hj : j < ys.length) (c : Int) : alg (xs.drop i) (ys.drop j) c = if Dd xs ys i j = Dd xs ys (i + 1) (j + 1) + (if xs[i] = ys[j] then 0 else 1) then c :: alg (xs.drop (i + 1)) (ys.drop (j + 1)) (c + 1) else if Dd xs ys i j = Dd xs ys (i + 1) j + 1 then -1 :: alg (xs.drop (i + 1)) (ys.drop j) c else alg (xs.drop i) (ys.drop (j + 1)) (c + 1) := by
  unfold Dd
  rw [drop_cons hi, drop_cons hj, alg_cc]
theorem alg_drop_r {xs ys : List Int} {i j : Nat} (hi : i < xs.length) (hj : ys.length ≤ j) (c : Int) : alg (xs.drop i) (ys.drop j) c = -1 :: alg (xs.drop (i + 1)) (ys.drop j) c := by
  rw [drop_cons hi, List.drop_eq_nil_of_le hj, alg_cn]
