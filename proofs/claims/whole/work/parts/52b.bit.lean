/-! Bits of numbers below 1024. By hand. -/
def btM (se b : Int) : Prop := gand (gshr se b) 1 = 1
theorem bt_tb : ∀ (m : Fin 1024) (b : Fin 10), gand (gshr ((m : Nat) : Int) ((b : Nat) : Int)) 1 = 1 ↔ (m : Nat).testBit (b : Nat) = true := by decide +kernel
theorem gor_nat : ∀ (m : Fin 1024) (b : Fin 10), gor ((m : Nat) : Int) (gshl 1 ((b : Nat) : Int)) = (((m : Nat) ||| 2 ^ (b : Nat) : Nat) : Int) := by decide +kernel
theorem gshl_nat : ∀ (b : Fin 10), gshl 1 ((b : Nat) : Int) = ((2 ^ (b : Nat) : Nat) : Int) := by decide +kernel
theorem bt_iff {m b : Nat} (hm : m < 1024) (hb : b < 10) : btM (m : Int) (b : Int) ↔ m.testBit b = true := bt_tb ⟨m, hm⟩ ⟨b, hb⟩
theorem toN {x : Int} (h : 0 ≤ x) : ∃ n : Nat, x = (n : Int) := ⟨x.toNat, (Int.toNat_of_nonneg h).symm⟩
theorem pow_lt {b : Nat} (h : b < 10) : 2 ^ b < 1024 := Nat.pow_lt_pow_right (by decide) h
theorem or_lt {m b : Nat} (hm : m < 1024) (hb : b < 10) : m ||| 2 ^ b < 1024 := Nat.or_lt_two_pow (n := 10) hm (pow_lt hb)
theorem bt_one {b : Int} (h0 : 0 ≤ b) (h1 : b < 10) : btM (gshl 1 b) b := by
  obtain ⟨n, rfl⟩ := toN h0
  have hn : n < 10 := by omega
  rw [gshl_nat ⟨n, hn⟩, bt_iff (pow_lt hn) hn]
  exact Nat.testBit_two_pow_self
theorem bt_gor {se ba b : Int} (hs : 0 ≤ se ∧ se < 1024) (h0 : 0 ≤ ba ∧ ba < 10) (h1 : 0 ≤ b ∧ b < 10) : btM (gor se (gshl 1 ba)) b ↔ (b = ba ∨ btM se b) := by
  obtain ⟨m, rfl⟩ := toN hs.1
  obtain ⟨c, rfl⟩ := toN h0.1
  obtain ⟨n, rfl⟩ := toN h1.1
  have hm : m < 1024 := by omega
  have hc : c < 10 := by omega
  have hn : n < 10 := by omega
  rw [gor_nat ⟨m, hm⟩ ⟨c, hc⟩]
  show btM ((m ||| 2 ^ c : Nat) : Int) n ↔ _
  rw [bt_iff (or_lt hm hc) hn, bt_iff hm hn, Nat.testBit_or, Nat.testBit_two_pow]
  simp only [Bool.or_eq_true, decide_eq_true_eq]
  constructor
  · rintro (z | z)
    · exact Or.inr z
    · exact Or.inl (by omega)
  · rintro (z | z)
    · exact Or.inr (by omega)
    · exact Or.inl z
