theorem ci_us0 : ∀ m, m < 32 → (((nI m).toUInt32 &&& Int32.toUInt32 31).toBitVec % 32).toNat = m := by decide +kernel
theorem ci_ss0 : ∀ m, m < 32 → ((nI m &&& 31).toBitVec.smod 32).toNat = m := by decide +kernel
theorem ci_ush {n m : Nat} (hn : n < 4294967296) (hm : m < 32) : ((nI n).toUInt32 >>> ((nI m).toUInt32 &&& Int32.toUInt32 31)).toInt32 = nI (n / 2 ^ m) := pk_ushrN hn _ m (ci_us0 m hm)
theorem ci_shr {n m : Nat} (hn : n < 2147483648) (hm : m < 32) : nI n >>> (nI m &&& 31) = nI (n / 2 ^ m) := pk_shrN hn _ m (ci_ss0 m hm)
theorem ci_b1 {n m : Nat} : nI (n / 2 ^ m) &&& 1 = 1 ↔ n.testBit m = true := by
  have e : nI (n / 2 ^ m) &&& 1 = nI (n / 2 ^ m % 2) := fa_mask (n / 2 ^ m) 1
  rw [e, show (1 : Int32) = nI 1 from rfl, nI_eq (by omega) (by omega), Nat.testBit_eq_decide_div_mod_eq, decide_eq_true_iff]
theorem ci_has {n m : Nat} (hn : n < 4294967296) (hm : m < 32) : ((nI n).toUInt32 >>> ((nI m).toUInt32 &&& Int32.toUInt32 31)).toInt32 &&& 1 = 1 ↔ n.testBit m = true := by
  rw [ci_ush hn hm]
  exact ci_b1
theorem ci_bit {n m : Nat} (hn : n < 2147483648) (hm : m < 32) : (nI n >>> (nI m &&& 31)) &&& 1 = 1 ↔ n.testBit m = true := by
  rw [ci_shr hn hm]
  exact ci_b1
def rmb (l c : Nat) : Nat := l &&& (2 ^ c ^^^ 4294967295)
theorem ci_rm (l c : Nat) : nI l &&& (nI (2 ^ c) ^^^ (-1)) = nI (rmb l c) := by
  rw [show (-1 : Int32) = nI 4294967295 from by decide, fb_xorI, fa_and]
  rfl
theorem ci_rm0 (l : Nat) : nI l &&& (-2) = nI (rmb l 0) := by
  rw [show (-2 : Int32) = nI 4294967294 from by decide, fa_and]
  rfl
theorem tb_hi {l j : Nat} (hl : l < 65536) (hj : 16 ≤ j) : l.testBit j = false := Nat.testBit_lt_two_pow (Nat.lt_of_lt_of_le hl (Nat.pow_le_pow_right (n := 2) (by decide) hj))
theorem tb_m1 (j : Nat) : (4294967295 : Nat).testBit j = decide (j < 32) := Nat.testBit_two_pow_sub_one 32 j
theorem rmb_t {l c j : Nat} (hl : l < 65536) : (rmb l c).testBit j = (l.testBit j && !decide (j = c)) := by
  unfold rmb
  rw [Nat.testBit_and, Nat.testBit_xor, Nat.testBit_two_pow, tb_m1]
  rcases Nat.lt_or_ge j 32 with h | h
  · by_cases e : c = j
    · simp [h, e]
    · have e' : ¬ j = c := fun x => e x.symm
      simp [h, e, e']
  · rw [tb_hi hl (by omega)]
    simp
theorem rmb_le (l c : Nat) : rmb l c ≤ l := Nat.and_le_left
def rv (L : Nat → Bool) (c : Nat) : Nat → Bool := fun j => L j && !decide (j = c)
theorem rmb_rv {l c : Nat} (hl : l < 65536) : Nat.testBit (rmb l c) = rv (Nat.testBit l) c := funext fun _ => rmb_t hl
def mkb (A : ca_A) (U : Nat) : Nat → Nat → (Nat → Bool) → Bool
  | 0, _, L => (List.range 16).all (fun j => !L j)
  | d + 1, c, L => (List.range 10).any (fun i => U.testBit i && mkb A U d (A 3 (16 * i + c)) (rv L (A 3 (16 * i + c))))
theorem mkb_0 {A : ca_A} {U c : Nat} {L : Nat → Bool} : mkb A U 0 c L = true ↔ ∀ j, j < 16 → L j = false := by
  simp [mkb, List.all_eq_true, List.mem_range]
theorem mkb_S {A : ca_A} {U d c : Nat} {L : Nat → Bool} : mkb A U (d + 1) c L = true ↔ ∃ i, i < 10 ∧ U.testBit i = true ∧ mkb A U d (A 3 (16 * i + c)) (rv L (A 3 (16 * i + c))) = true := by
  simp [mkb, List.any_eq_true, List.mem_range]
theorem mkb_z {A : ca_A} {U l c : Nat} (hl : l < 65536) : mkb A U 0 c (Nat.testBit l) = true ↔ l = 0 := by
  rw [mkb_0]
  constructor
  · intro h
    apply Nat.eq_of_testBit_eq
    intro j
    rw [Nat.zero_testBit]
    rcases Nat.lt_or_ge j 16 with h1 | h1
    · exact h j h1
    · exact tb_hi hl h1
  · intro h j _
    rw [h, Nat.zero_testBit]
def fib (A : ca_A) (U d c : Nat) (L : Nat → Bool) : Nat → Bool := fun i => U.testBit i && mkb A U d (A 3 (16 * i + c)) (rv L (A 3 (16 * i + c)))
def fi (A : ca_A) (U d c : Nat) (L : Nat → Bool) : Nat := fa_first (fib A U d c L) 10
theorem fib_t {A : ca_A} {U d c i : Nat} {L : Nat → Bool} : fib A U d c L i = true ↔ (U.testBit i = true ∧ mkb A U d (A 3 (16 * i + c)) (rv L (A 3 (16 * i + c))) = true) := by
  unfold fib
  rw [Bool.and_eq_true]
theorem fi_ok {A : ca_A} {U d c : Nat} {L : Nat → Bool} (h : mkb A U (d + 1) c L = true) : fi A U d c L < 10 ∧ fib A U d c L (fi A U d c L) = true := by
  have hl : fi A U d c L < 10 := by
    rcases Nat.lt_or_ge (fi A U d c L) 10 with h1 | h1
    · exact h1
    · obtain ⟨i, hi, hp⟩ := mkb_S.mp h
      have := fa_first_no (fib A U d c L) 10 i (Nat.lt_of_lt_of_le hi h1)
      rw [fib_t.mpr hp] at this
      cases this
  exact ⟨hl, fa_first_yes _ 10 hl⟩
theorem fi_eq {A : ca_A} {U d c i : Nat} {L : Nat → Bool} (hi : i < 10) (hp : fib A U d c L i = true) (hn : ∀ k, k < i → fib A U d c L k = false) : fi A U d c L = i := by
  rcases Nat.lt_trichotomy (fi A U d c L) i with h | h | h
  · have h1 := fa_first_yes (fib A U d c L) 10 (Nat.lt_trans h hi)
    rw [show fib A U d c L (fa_first (fib A U d c L) 10) = false from hn _ h] at h1
    cases h1
  · exact h
  · have := fa_first_no (fib A U d c L) 10 i h
    rw [hp] at this
    cases this
theorem fi_no {A : ca_A} {U d c : Nat} {L : Nat → Bool} (h : ∀ i, i < 10 → fib A U d c L i = false) : ¬ mkb A U (d + 1) c L = true := fun h1 => by
  obtain ⟨h2, h3⟩ := fi_ok h1
  rw [h _ h2] at h3
  cases h3
def rwf (A : ca_A) (U : Nat) : Nat → Nat → (Nat → Bool) → Nat → Nat
  | 0, _, _, _ => 0
  | d + 1, c, L, 0 => fi A U d c L
  | d + 1, c, L, j + 1 => rwf A U d (A 3 (16 * fi A U d c L + c)) (rv L (A 3 (16 * fi A U d c L + c))) j
def stp (A : ca_A) (U d : Nat) (s : Nat × (Nat → Bool)) : Nat × (Nat → Bool) := (A 3 (16 * fi A U d s.1 s.2 + s.1), rv s.2 (A 3 (16 * fi A U d s.1 s.2 + s.1)))
def stt (A : ca_A) (U d c : Nat) (L : Nat → Bool) : Nat → Nat × (Nat → Bool)
  | 0 => (c, L)
  | k + 1 => stp A U (d - k - 1) (stt A U d c L k)
theorem stt_s {A : ca_A} {U d c : Nat} {L : Nat → Bool} : ∀ k, stt A U (d + 1) c L (k + 1) = stt A U d (A 3 (16 * fi A U d c L + c)) (rv L (A 3 (16 * fi A U d c L + c))) k
  | 0 => by
    show stp A U (d + 1 - 0 - 1) (c, L) = _
    rw [show d + 1 - 0 - 1 = d by omega]
    rfl
  | k + 1 => by
    show stp A U (d + 1 - (k + 1) - 1) (stt A U (d + 1) c L (k + 1)) = stp A U (d - k - 1) _
    rw [stt_s k, show d + 1 - (k + 1) - 1 = d - k - 1 by omega]
theorem rwf_stt {A : ca_A} {U : Nat} : ∀ (d c : Nat) (L : Nat → Bool) (k : Nat), k < d → rwf A U d c L k = fi A U (d - k - 1) (stt A U d c L k).1 (stt A U d c L k).2
  | 0, _, _, k, h => absurd h (by omega)
  | d + 1, c, L, 0, _ => by
    show fi A U d c L = fi A U (d + 1 - 0 - 1) c L
    rw [show d + 1 - 0 - 1 = d by omega]
  | d + 1, c, L, k + 1, h => by
    rw [stt_s k, show d + 1 - (k + 1) - 1 = d - k - 1 by omega]
    exact rwf_stt d _ _ k (by omega)
theorem stt_cf {A : ca_A} {U d : Nat} {L : Nat → Bool} : ∀ k, k ≤ d → (stt A U d 0 L k).1 = cf A (rwf A U d 0 L) k
  | 0, _ => rfl
  | k + 1, h => by
    show A 3 (16 * fi A U (d - k - 1) (stt A U d 0 L k).1 (stt A U d 0 L k).2 + (stt A U d 0 L k).1) = A 3 (16 * rwf A U d 0 L k + cf A (rwf A U d 0 L) k)
    rw [rwf_stt d 0 L k (by omega), stt_cf k (by omega)]
theorem stt_mk {A : ca_A} {U d c : Nat} {L : Nat → Bool} (h : mkb A U d c L = true) : ∀ k, k ≤ d → mkb A U (d - k) (stt A U d c L k).1 (stt A U d c L k).2 = true
  | 0, _ => h
  | k + 1, hk => by
    have ih := stt_mk h k (by omega)
    rw [show d - k = d - k - 1 + 1 by omega] at ih
    have := (fib_t.mp (fi_ok ih).2).2
    rw [show d - (k + 1) = d - k - 1 by omega]
    exact this
theorem rwf_10 {A : ca_A} {U d c k : Nat} {L : Nat → Bool} (h : mkb A U d c L = true) (hk : k < d) : rwf A U d c L k < 10 := by
  have ih := stt_mk h k (by omega)
  rw [show d - k = d - k - 1 + 1 by omega] at ih
  rw [rwf_stt d c L k hk]
  exact (fi_ok ih).1
theorem mkb_ct {A : ca_A} {U : Nat} (hI : ca_I A) : ∀ (d c : Nat) (L : Nat → Bool), mkb A U d c L = true → fb_ct L 16 ≤ d
  | 0, c, L, h => by
    rw [fb_ct_zero.mpr (mkb_0.mp h)]
    omega
  | d + 1, c, L, h => by
    obtain ⟨i, hi, -, h2⟩ := mkb_S.mp h
    have ih := mkb_ct hI d _ _ h2
    have h16 := hI.2.2.1.1 (16 * i + c)
    have hu := fb_ct_upd L false (n := 16) h16
    have e : rv L (A 3 (16 * i + c)) = fun k => if k = A 3 (16 * i + c) then false else L k := by
      funext k
      unfold rv
      by_cases e : k = A 3 (16 * i + c)
      · rw [if_pos e]; simp [e]
      · rw [if_neg e]; simp [e]
    rw [e] at ih
    rw [if_neg (show ¬ false = true by decide)] at hu
    split at hu <;> omega
def ln (A : ca_A) (U : Nat) (L : Nat → Bool) : Nat := fa_first (fun n => mkb A U n 0 L) 6
theorem ln_6 {A : ca_A} {U : Nat} {L : Nat → Bool} : ln A U L ≤ 6 := fa_first_le _ _
theorem ln_yes {A : ca_A} {U n : Nat} {L : Nat → Bool} (hn : n < 6) (h : mkb A U n 0 L = true) (h2 : ∀ m, m < n → ¬ mkb A U m 0 L = true) : ln A U L = n := by
  rcases Nat.lt_trichotomy (ln A U L) n with h3 | h3 | h3
  · exact absurd (fa_first_yes (fun n => mkb A U n 0 L) 6 (Nat.lt_trans h3 hn)) (h2 _ h3)
  · exact h3
  · have := fa_first_no (fun n => mkb A U n 0 L) 6 n h3
    rw [h] at this
    cases this
theorem ln_no {A : ca_A} {U : Nat} {L : Nat → Bool} (h2 : ∀ m, m < 6 → ¬ mkb A U m 0 L = true) : ln A U L = 6 := by
  have h1 := ln_6 (A := A) (U := U) (L := L)
  rcases Nat.lt_or_ge (ln A U L) 6 with h3 | h3
  · exact absurd (fa_first_yes (fun n => mkb A U n 0 L) 6 h3) (h2 _ h3)
  · omega
theorem ln_mk {A : ca_A} {U : Nat} {L : Nat → Bool} (h : ln A U L < 6) : mkb A U (ln A U L) 0 L = true := fa_first_yes (fun n => mkb A U n 0 L) 6 h
def wcs (A : ca_A) : Nat → Nat
  | 0 => 0
  | k + 1 => wcs A k ||| (if k / 4 < A 0 28 ∧ k % 4 < A 0 29 then 2 ^ A 31 k else 0)
theorem p2_16 {c : Nat} (h : c < 16) : 2 ^ c < 65536 := Nat.pow_lt_pow_right (a := 2) (n := 16) (m := c) (by decide) h
theorem wcs_lt {A : ca_A} (hI : ca_I A) : ∀ k, wcs A k < 65536
  | 0 => by show 0 < 65536; omega
  | k + 1 => by
    have ih := wcs_lt hI k
    unfold wcs
    refine Nat.or_lt_two_pow (n := 16) ih ?_
    split
    · exact p2_16 (hI.2.2.2.2.2.1.1 k)
    · decide
abbrev nL (A : ca_A) : Nat → Bool := Nat.testBit (rmb (wcs A 16) 0)
abbrev sv_ink (A : ca_A) (u : Int32) : Prop := 0 < A 0 28 ∧ (0 ≤ u ∧ u ≤ 1023)
def sr_fewest (A : ca_A) (u : Int32) : Int32 := if sv_ink A u then (if ln A u.toNatClampNeg (nL A) < 6 then nI (ln A u.toNatClampNeg (nL A)) else -4) else -1
def fwA (A : ca_A) (U : Nat) : ca_A := fun q i => if q = 0 ∧ i = 33 then ln A U (nL A) + 1 else if q = 33 ∧ i < ln A U (nL A) then rwf A U (ln A U (nL A)) 0 (nL A) i else if q = 35 ∧ i < 16 then (if i / 4 < A 0 28 ∧ i % 4 < A 0 29 then fp A (rwf A U (ln A U (nL A)) 0 (nL A)) (A 31 i) (ln A U (nL A) + 1) else 0) else A q i
def sA_fewest (A : ca_A) (u : Int32) : ca_A := if sv_ink A u ∧ ln A u.toNatClampNeg (nL A) < 6 then fwA A u.toNatClampNeg else A
def RC (A : ca_A) (U c0 : Nat) : Nat → Nat → Prop
  | 0, j => j = c0
  | k + 1, j => ∃ i c, i < 10 ∧ U.testBit i = true ∧ RC A U c0 k c ∧ A 3 (16 * i + c) = j
theorem RC_pre {A : ca_A} {U c0 i : Nat} (hi : i < 10) (hu : U.testBit i = true) : ∀ (k j : Nat), RC A U (A 3 (16 * i + c0)) k j → RC A U c0 (k + 1) j
  | 0, j, h => ⟨i, c0, hi, hu, rfl, h.symm⟩
  | k + 1, j, h => by
    obtain ⟨i', c', h1, h2, h3, h4⟩ := h
    exact ⟨i', c', h1, h2, RC_pre hi hu k c' h3, h4⟩
theorem mk_RC {A : ca_A} {U : Nat} : ∀ (d c : Nat) (L : Nat → Bool) (j : Nat), j < 16 → mkb A U d c L = true → L j = true → ∃ m, m ≤ d ∧ RC A U c m j
  | 0, c, L, j, hj, h, hl => by
    rw [mkb_0.mp h j hj] at hl
    cases hl
  | d + 1, c, L, j, hj, h, hl => by
    obtain ⟨i, hi, hu, h2⟩ := mkb_S.mp h
    by_cases e : j = A 3 (16 * i + c)
    · exact ⟨1, by omega, i, c, hi, hu, rfl, e.symm⟩
    · obtain ⟨m, hm, hr⟩ := mk_RC d _ _ j hj h2 (by unfold rv; simp [hl, e])
      exact ⟨m + 1, by omega, RC_pre hi hu m j hr⟩
def RD (A : ca_A) (U k j : Nat) : Prop := ∃ m, m ≤ k ∧ RC A U 0 m j
theorem RC_16 {A : ca_A} {U : Nat} (hI : ca_I A) : ∀ k j, RC A U 0 k j → j < 16
  | 0, j, h => by
    have : j = 0 := h
    omega
  | k + 1, j, h => by
    obtain ⟨i, c, -, -, -, h4⟩ := h
    rw [← h4]
    exact hI.2.2.1.1 _
def msk (p : Nat → Bool) : Nat → Nat
  | 0 => 0
  | n + 1 => msk p n ||| (if p n then 2 ^ n else 0)
theorem msk_t (p : Nat → Bool) (j : Nat) : ∀ n, (msk p n).testBit j = (decide (j < n) && p j)
  | 0 => by
    show (0 : Nat).testBit j = _
    simp
  | n + 1 => by
    have ih := msk_t p j n
    unfold msk
    rw [Nat.testBit_or, ih]
    by_cases e : n = j
    · subst e
      cases hp : p n
      · simp [hp]
      · simp [hp, Nat.testBit_two_pow_self]
    · have h2 : (if p n = true then 2 ^ n else 0 : Nat).testBit j = false := by
        split
        · exact Nat.testBit_two_pow_of_ne e
        · exact Nat.zero_testBit j
      rw [h2, Bool.or_false]
      congr 1
      rw [decide_eq_decide]
      omega
noncomputable def nvp (A : ca_A) (U : Nat) : Nat → Bool := fun j => (wcs A 16).testBit j && !(@decide (RD A U 5 j) (Classical.propDecidable _))
noncomputable def nvm (A : ca_A) (U : Nat) : Nat := msk (nvp A U) 16
theorem nvm_eq {A : ca_A} {U y : Nat} (hI : ca_I A) (hy : ∀ j, j < 16 → (y.testBit j = true ↔ RD A U 5 j)) : nI (wcs A 16) &&& (nI y ^^^ (-1)) = nI (nvm A U) := by
  rw [show (-1 : Int32) = nI 4294967295 from by decide, fb_xorI, fa_and]
  congr 1
  apply Nat.eq_of_testBit_eq
  intro j
  unfold nvm
  rw [msk_t, Nat.testBit_and, Nat.testBit_xor, tb_m1]
  rcases Nat.lt_or_ge j 16 with h | h
  · unfold nvp
    have e := hy j h
    by_cases hr : RD A U 5 j
    · simp [h, show j < 32 by omega, e.mpr hr, hr]
    · have e2 : y.testBit j = false := by
        cases h9 : y.testBit j
        · rfl
        · exact absurd (e.mp h9) hr
      simp [h, show j < 32 by omega, e2, hr]
  · rw [tb_hi (wcs_lt hI 16) h]
    simp [show ¬ j < 16 by omega]
theorem nvm_lt (A : ca_A) (U : Nat) : nvm A U < 65536 := by
  refine Nat.lt_pow_two_of_testBit (n := 16) _ (fun j hj => ?_)
  unfold nvm
  rw [msk_t]
  simp [show ¬ j < 16 by omega]
theorem nvm_0 {A : ca_A} {U : Nat} (hI : ca_I A) (h : ln A U (nL A) < 6) : nvm A U = 0 := by
  apply Nat.eq_of_testBit_eq
  intro j
  unfold nvm
  rw [msk_t, Nat.zero_testBit]
  rcases Nat.lt_or_ge j 16 with h1 | h1
  · unfold nvp
    cases hw : (wcs A 16).testBit j
    · simp
    · have hr : RD A U 5 j := by
        by_cases e : j = 0
        · exact ⟨0, by omega, e⟩
        · obtain ⟨m, hm, hr⟩ := mk_RC _ _ _ j h1 (ln_mk h) (by
            show (rmb (wcs A 16) 0).testBit j = true
            rw [rmb_t (wcs_lt hI 16), hw]
            simp [e])
          exact ⟨m, by omega, hr⟩
      simp [hr]
  · simp [show ¬ j < 16 by omega]
noncomputable def sr_why (A : ca_A) (u : Int32) : Int32 := if sv_ink A u then (if ln A u.toNatClampNeg (nL A) < 6 then 0 else if nvm A u.toNatClampNeg = 0 then nI (rmb (wcs A 16) 0) else nI (nvm A u.toNatClampNeg)) else -1
def bc1 (n : Nat) : Nat := n - (n / 2 ^ 1 &&& 1431655765)
def bc2 (i : Nat) : Nat := (i &&& 858993459) + (i / 2 ^ 2 &&& 858993459)
def bc3 (i : Nat) : Nat := (i + i / 2 ^ 4) &&& 252645135
def bcn (n : Nat) : Nat := ((bc3 (bc2 (bc1 n)) + bc3 (bc2 (bc1 n)) / 2 ^ 8) + (bc3 (bc2 (bc1 n)) + bc3 (bc2 (bc1 n)) / 2 ^ 8) / 2 ^ 16) &&& 63
def pcn (n : Nat) : Nat := n % 2 + n / 2 % 2 + n / 4 % 2 + n / 8 % 2 + n / 16 % 2 + n / 32 % 2 + n / 64 % 2 + n / 128 % 2 + n / 256 % 2 + n / 512 % 2 + n / 1024 % 2 + n / 2048 % 2 + n / 4096 % 2 + n / 8192 % 2 + n / 16384 % 2 + n / 32768 % 2
theorem and_sp {a m : Nat} (b n : Nat) (ha : a < 256) (hm : m < 256) : (256 * b + a) &&& (256 * n + m) = 256 * (b &&& n) + (a &&& m) := by
  have hb : (a &&& m) < 2 ^ 8 := Nat.lt_of_le_of_lt Nat.and_le_left ha
  apply Nat.eq_of_testBit_eq
  intro j
  have e : (256 : Nat) = 2 ^ 8 := rfl
  rw [e] at *
  rw [Nat.testBit_and, Nat.testBit_two_pow_mul_add b ha j, Nat.testBit_two_pow_mul_add n hm j, Nat.testBit_two_pow_mul_add _ hb j]
  split
  · rw [Nat.testBit_and]
  · rw [Nat.testBit_and]
def bf1 (a : Nat) : Nat := a - (a / 2 &&& 85)
def bf2 (p : Nat) : Nat := (p &&& 51) + (p / 4 &&& 51)
def bf3 (p : Nat) : Nat := (p + p / 16) &&& 15
def pc8 (a : Nat) : Nat := a % 2 + a / 2 % 2 + a / 4 % 2 + a / 8 % 2 + a / 16 % 2 + a / 32 % 2 + a / 64 % 2 + a / 128 % 2
theorem bd_1 : ∀ a, a < 256 → (∀ e, e < 2 → (128 * e + a / 2) &&& 85 = a / 2 &&& 85) ∧ (a / 2 &&& 5592405) = (a / 2 &&& 85) ∧ (a / 2 &&& 85) ≤ a := by decide +kernel
theorem bd_2 : ∀ a, a < 256 → (∀ e, e < 4 → (64 * e + a / 4) &&& 51 = a / 4 &&& 51) ∧ (a / 4 &&& 3355443) = (a / 4 &&& 51) ∧ (a &&& 3355443) = (a &&& 51) := by decide +kernel
theorem bd_3 : ∀ a, a < 256 → bf2 (bf1 a) % 16 ≤ 4 ∧ bf2 (bf1 a) / 16 ≤ 4 ∧ bf3 (bf2 (bf1 a)) = pc8 a ∧ bf1 a < 256 ∧ (bf2 (bf1 a) + bf2 (bf1 a) / 16 &&& 986895) = bf3 (bf2 (bf1 a)) := by decide +kernel
theorem bd_4 : ∀ p, p < 80 → ∀ e, e < 5 → (p + 16 * e + p / 16) &&& 15 = (p + p / 16) &&& 15 := by decide +kernel
theorem bd_5 : ∀ p, p < 17 → ∀ q, q < 9 → (256 * q + p) &&& 63 = p := by decide +kernel
theorem bc_s1 {a b : Nat} (ha : a < 256) (hb : b < 256) : bc1 (256 * b + a) = 256 * bf1 b + bf1 a := by
  have h1 := bd_1 a ha
  have h2 := bd_1 b hb
  unfold bc1 bf1
  have e : (256 * b + a) / 2 ^ 1 = 256 * (b / 2) + (128 * (b % 2) + a / 2) := by
    simp only [Nat.reducePow]
    omega
  rw [e, show (1431655765 : Nat) = 256 * 5592405 + 85 from rfl, and_sp _ _ (by omega) (by decide), h1.1 (b % 2) (by omega), h2.2.1]
  omega
theorem bc_s2 {p q : Nat} (hp : p < 256) (hq : q < 256) : bc2 (256 * q + p) = 256 * bf2 q + bf2 p := by
  have h1 := bd_2 p hp
  have h2 := bd_2 q hq
  unfold bc2 bf2
  have e : (256 * q + p) / 2 ^ 2 = 256 * (q / 4) + (64 * (q % 4) + p / 4) := by
    simp only [Nat.reducePow]
    omega
  rw [e, show (858993459 : Nat) = 256 * 3355443 + 51 from rfl, and_sp _ _ hp (by decide), and_sp _ _ (by omega) (by decide), h1.1 (q % 4) (by omega), h2.2.1, h2.2.2]
  omega
theorem bc_s3 {a b : Nat} (ha : a < 256) (hb : b < 256) : bc3 (256 * bf2 (bf1 b) + bf2 (bf1 a)) = 256 * pc8 b + pc8 a := by
  obtain ⟨a1, a2, a3, -, -⟩ := bd_3 a ha
  obtain ⟨b1, b2, b3, -, b5⟩ := bd_3 b hb
  obtain ⟨p, hp⟩ : ∃ p, p = bf2 (bf1 a) := ⟨_, rfl⟩
  obtain ⟨q, hq⟩ : ∃ q, q = bf2 (bf1 b) := ⟨_, rfl⟩
  rw [← hp] at a1 a2 a3 ⊢
  rw [← hq] at b1 b2 b3 b5 ⊢
  have h4 := bd_4 p (by omega) (q % 16) (by omega)
  unfold bc3
  have e : 256 * q + p + (256 * q + p) / 2 ^ 4 = 256 * (q + q / 16) + (p + 16 * (q % 16) + p / 16) := by
    simp only [Nat.reducePow]
    omega
  rw [e, show (252645135 : Nat) = 256 * 986895 + 15 from rfl, and_sp _ _ (by omega) (by decide), h4, b5, b3]
  congr 1
theorem pc8_8 (a : Nat) : pc8 a ≤ 8 := by
  unfold pc8
  omega
theorem bc_eq {n : Nat} (h : n < 65536) : bcn n = pcn n := by
  obtain ⟨a, ha⟩ : ∃ a, a = n % 256 := ⟨_, rfl⟩
  obtain ⟨b, hb⟩ : ∃ b, b = n / 256 := ⟨_, rfl⟩
  have en : n = 256 * b + a := by omega
  have ha2 : a < 256 := by omega
  have hb2 : b < 256 := by omega
  have e3 : bc3 (bc2 (bc1 n)) = 256 * pc8 b + pc8 a := by
    rw [en, bc_s1 ha2 hb2, bc_s2 (bd_3 a ha2).2.2.2.1 (bd_3 b hb2).2.2.2.1, bc_s3 ha2 hb2]
  have ep : pcn n = pc8 a + pc8 b := by
    unfold pcn pc8
    rw [show n / 256 % 2 = b % 2 by omega, show n / 512 % 2 = b / 2 % 2 by omega, show n / 1024 % 2 = b / 4 % 2 by omega, show n / 2048 % 2 = b / 8 % 2 by omega, show n / 4096 % 2 = b / 16 % 2 by omega, show n / 8192 % 2 = b / 32 % 2 by omega, show n / 16384 % 2 = b / 64 % 2 by omega, show n / 32768 % 2 = b / 128 % 2 by omega]
    rw [show n % 2 = a % 2 by omega, show n / 2 % 2 = a / 2 % 2 by omega, show n / 4 % 2 = a / 4 % 2 by omega, show n / 8 % 2 = a / 8 % 2 by omega, show n / 16 % 2 = a / 16 % 2 by omega, show n / 32 % 2 = a / 32 % 2 by omega, show n / 64 % 2 = a / 64 % 2 by omega, show n / 128 % 2 = a / 128 % 2 by omega]
    omega
  have h1 := pc8_8 a
  have h2 := pc8_8 b
  unfold bcn
  rw [e3, ep]
  clear ep e3
  generalize pc8 a = x at *
  generalize pc8 b = y at *
  have g1 : (256 * y + x) / 2 ^ 8 = y := by
    simp only [Nat.reducePow]
    omega
  have g2 : (256 * y + x + y) / 2 ^ 16 = 0 := by
    simp only [Nat.reducePow]
    omega
  rw [g1, g2, show 256 * y + x + y + 0 = 256 * y + (x + y) by omega]
  exact bd_5 _ (by omega) _ (by omega)
theorem tbn (n k : Nat) : (if n.testBit k = true then 1 else 0) = n / 2 ^ k % 2 := by
  rw [Nat.testBit_eq_decide_div_mod_eq]
  by_cases e : n / 2 ^ k % 2 = 1
  · simp [e]
  · have : n / 2 ^ k % 2 = 0 := by omega
    simp [this]
theorem fb_ct16 (n : Nat) : fb_ct (Nat.testBit n) 16 = pcn n := by
  rw [fb_ct_succ, fb_ct_succ, fb_ct_succ, fb_ct_succ, fb_ct_succ, fb_ct_succ, fb_ct_succ, fb_ct_succ, fb_ct_succ, fb_ct_succ, fb_ct_succ, fb_ct_succ, fb_ct_succ, fb_ct_succ, fb_ct_succ, fb_ct_succ]
  rw [tbn, tbn, tbn, tbn, tbn, tbn, tbn, tbn, tbn, tbn, tbn, tbn, tbn, tbn, tbn, tbn]
  unfold pcn
  simp only [Nat.reducePow, Nat.div_one]
  show 0 + _ + _ + _ + _ + _ + _ + _ + _ + _ + _ + _ + _ + _ + _ + _ + _ = _
  omega
theorem ci_sub {a b : Nat} (h : b ≤ a) : nI a - nI b = nI (a - b) := by
  have e : nI a = nI (a - b) + nI b := by
    rw [nI_add]
    congr 1
    omega
  rw [e]
  exact Int32.add_sub_cancel _ _