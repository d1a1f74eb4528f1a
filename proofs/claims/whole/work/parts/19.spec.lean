theorem ci_lt {a b : Int32} : a < b ↔ a.toInt < b.toInt := fa_lt a b
theorem ci_le {a b : Int32} : a ≤ b ↔ a.toInt ≤ b.toInt := fa_le a b
theorem ci_eq {a b : Int32} : a = b ↔ a.toInt = b.toInt := fa_eq a b
theorem ci_n {n : Nat} (h : n < 2147483648) : (nI n).toInt = (n : Int) := nI_toInt h
theorem ci_of {x : Int32} {a : Nat} (h : 0 ≤ x.toInt ∧ x.toInt ≤ (a : Int)) : ∃ j : Nat, j ≤ a ∧ x = nI j := by
  have hb := fb_rng x
  refine ⟨x.toInt.toNat, by omega, ?_⟩
  rw [ci_eq, ci_n (by omega)]
  omega
def ca_R (k i : Nat) : Bool := if k = 0 then (i == 0 || i == 1 || i == 6 || i == 8 || i == 12 || i == 20 || i == 26 || i == 28 || i == 29 || i == 33) else (k == 3 && decide (i < 160) || k == 4 && decide (i < 10) || k == 5 && decide (i < 100) || k == 6 && decide (i < 100) || k == 10 && decide (i < 64) || k == 11 && decide (i < 64) || k == 12 && decide (i < 8) || k == 15 && decide (i < 1280) || k == 16 && decide (i < 1280) || k == 17 && decide (i < 1280) || k == 18 && decide (i < 1280) || k == 19 && decide (i < 1280) || k == 20 && decide (i < 20) || k == 22 && decide (i < 200) || k == 23 && decide (i < 200) || k == 24 && decide (i < 200) || k == 25 && decide (i < 200) || k == 26 && decide (i < 200) || k == 31 && decide (i < 16) || k == 33 && decide (i < 5) || k == 35 && decide (i < 16))
def ca_v (k i a : Nat) : Int32 := if k = 16 ∨ k = 24 ∨ k = 35 ∨ (k = 0 ∧ i = 33) then nI a - 1 else nI a
abbrev ca_A : Type := Nat → Nat → Nat
def ca_on (A : ca_A) (k : Nat) : Prop := k / 8 < A 0 0 ∧ k % 8 < A 0 1
