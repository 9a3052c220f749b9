/-! numbers -/
noncomputable def b2i (P : Prop) : Int32 := @ite _ P (Classical.propDecidable P) (nI 1) (nI 0)
theorem b2i_t {P : Prop} (h : P) : b2i P = nI 1 := if_pos h
theorem b2i_f {P : Prop} (h : ¬ P) : b2i P = nI 0 := if_neg h
theorem b2i_n (P : Prop) : narrow .boolean (.int (b2i P)) = .int (b2i P) := by
  by_cases h : P
  · rw [b2i_t h]; rfl
  · rw [b2i_f h]; rfl
/-- a place among n, if it is one -/
def ix (x : Int32) (n : Nat) : Option Nat := if x < 0 ∨ nI n ≤ x then none else some x.toNatClampNeg
theorem ix_neg {x : Int32} {n : Nat} (h : x < 0) : ix x n = none := if_pos (Or.inl h)
theorem ix_ge {x : Int32} {n : Nat} (h : nI n ≤ x) : ix x n = none := if_pos (Or.inr h)
theorem ix_nI {j n : Nat} (h : j < n) (hn : n < 2 ^ 31) : ix (nI j) n = some j := by
  unfold ix
  rw [if_neg (by
    rintro (h1 | h1)
    · exact nI_pos (by omega) h1
    · rw [nI_leI (by omega) (by omega)] at h1; omega), nI_clamp (by omega)]
theorem ix_of {x : Int32} {n : Nat} (hn : n < 2 ^ 31) (h1 : ¬ x < 0) (h2 : ¬ nI n ≤ x) : ∃ r, r < n ∧ x = nI r ∧ ix x n = some r := by
  obtain ⟨j, hj, rfl⟩ := nI_of h1
  have h3 : j < n := by
    rw [nI_leI (by omega) (by omega)] at h2; omega
  exact ⟨j, h3, rfl, ix_nI h3 hn⟩
theorem ix_cases (x : Int32) {n : Nat} (hn : n < 2 ^ 31) : ix x n = none ∨ ∃ r, r < n ∧ x = nI r ∧ ix x n = some r := by
  by_cases h1 : x < 0
  · exact Or.inl (ix_neg h1)
  · by_cases h2 : nI n ≤ x
    · exact Or.inl (ix_ge h2)
    · exact Or.inr (ix_of hn h1 h2)
/-- a bead's number, if there is such a bead -/
def ixl (v : Int64) (n : Nat) : Option Nat := if v < 0 ∨ lN n ≤ v then none else some v.toNatClampNeg
theorem lN_clamp {n : Nat} (h : n < 2 ^ 63) : (lN n).toNatClampNeg = n := by
  have := pk_lT h
  unfold Int64.toNatClampNeg
  rw [this]; rfl
theorem lN_pos {n : Nat} (h : n < 2 ^ 63) : ¬ lN n < 0 := by
  rw [show (0 : Int64) = lN 0 from rfl, pk_lLT h (by decide)]; omega
theorem ixl_neg {x : Int64} {n : Nat} (h : x < 0) : ixl x n = none := if_pos (Or.inl h)
theorem ixl_ge {x : Int64} {n : Nat} (h : lN n ≤ x) : ixl x n = none := if_pos (Or.inr h)
theorem ixl_lN {j n : Nat} (h : j < n) (hn : n < 2 ^ 31) : ixl (lN j) n = some j := by
  unfold ixl
  rw [if_neg (by
    rintro (h1 | h1)
    · exact lN_pos (by omega) h1
    · rw [lN_le (by omega) (by omega)] at h1; omega), lN_clamp (by omega)]
theorem ixl_of {x : Int64} {n : Nat} (hn : n < 2 ^ 31) (h1 : ¬ x < 0) (h2 : ¬ lN n ≤ x) : ∃ r, r < n ∧ x = lN r ∧ ixl x n = some r := by
  obtain ⟨j, hj, rfl⟩ := pk_lOf h1
  have h3 : j < n := by
    rw [pk_lLE (by omega) (by omega)] at h2; omega
  exact ⟨j, h3, rfl, ixl_lN h3 hn⟩
theorem ixl_cases (x : Int64) {n : Nat} (hn : n < 2 ^ 31) : ixl x n = none ∨ ∃ r, r < n ∧ x = lN r ∧ ixl x n = some r := by
  by_cases h1 : x < 0
  · exact Or.inl (ixl_neg h1)
  · by_cases h2 : lN n ≤ x
    · exact Or.inl (ixl_ge h2)
    · exact Or.inr (ixl_of hn h1 h2)
/-- a number from lo to hi, if it is one -/
def rng (x : Int32) (lo hi : Nat) : Option Nat := if x < nI lo ∨ nI hi < x then none else some x.toNatClampNeg
theorem rng_lo {x : Int32} {lo hi : Nat} (h : x < nI lo) : rng x lo hi = none := if_pos (Or.inl h)
theorem rng_hi {x : Int32} {lo hi : Nat} (h : nI hi < x) : rng x lo hi = none := if_pos (Or.inr h)
theorem rng_of {x : Int32} {lo hi : Nat} (hh : hi < 2 ^ 31) (hl : lo < 2 ^ 31) (h1 : ¬ x < nI lo) (h2 : ¬ nI hi < x) : ∃ r, lo ≤ r ∧ r ≤ hi ∧ x = nI r ∧ rng x lo hi = some r := by
  have h0 : ¬ x < 0 := by
    intro h
    have a1 := Int32.not_lt.mp h1
    exact h1 (Int32.lt_of_lt_of_le h (nI_pos' hl))
  obtain ⟨j, hj, rfl⟩ := nI_of h0
  rw [nI_ltI (by omega) (by omega)] at h1 h2
  refine ⟨j, by omega, by omega, rfl, ?_⟩
  unfold rng
  rw [if_neg (by rw [nI_ltI (by omega) (by omega), nI_ltI (by omega) (by omega)]; omega), nI_clamp (by omega)]
theorem nI_inj {a b : Nat} (ha : a < 2 ^ 31) (hb : b < 2 ^ 31) (h : nI a = nI b) : a = b := (nI_eq ha hb).mp h
theorem nI_z {a : Nat} (ha : a < 2 ^ 31) : nI a = 0 ↔ a = 0 := by rw [show (0 : Int32) = nI 0 from rfl, nI_eq ha (by decide)]
/-! what the state must keep -/
def isBd (k : Nat) : Prop := k = 7 ∨ k = 8
def Inv (S : St) : Prop := (∀ r, r < 8 → sKd S r ≤ 9 ∧ sPl S r ≤ 40) ∧ sNb S ≤ 200 ∧ sNs S ≤ 24 ∧ (∀ j, j < sNs S → (∃ r, r < 8 ∧ sPt S 0 j = nI r) ∧ ∃ r, r < 8 ∧ sPt S 2 j = nI r) ∧ (∀ r, r < 8 → (sKd S r = 7 ∨ sKd S r = 8) → ∀ q, q < sPl S r → sCe S r q = -1 ∨ ∃ j, j < sNb S ∧ sCe S r q = lN j)
/-! the answers and what becomes of the state -/
def blk (k : Nat) : Int64 := if k = 7 ∨ k = 8 then -1 else lN 0
def row (S : St) (x : Int32) : Option Nat := match ix x 8 with
  | none => none
  | some r => if sKd S r = 0 ∨ sKd S r = 9 then none else some r
def holdS (S : St) (r k n : Nat) : St := uCe (uPl (uKd S (va_up (sKd S) r k)) (va_up (sPl S) r n)) (va_up (sCe S) r (fun _ => blk k))
def spMake (S : St) (x k n : Int32) : Int32 × St := match ix x 8, rng k 1 8, rng n 0 40 with
  | some r, some k, some n => (nI 1, holdS S r k n)
  | _, _, _ => (nI 0, S)
def spLamp (S : St) (x : Int32) : Int32 × St := match ix x 8 with
  | some r => (nI 1, holdS S r 9 0)
  | none => (nI 0, S)
def spEmpty (S : St) (x : Int32) : Int32 × St := match ix x 8 with
  | some r => if sKd S r = 0 then (nI 0, S) else (nI 1, holdS S r 0 0)
  | none => (nI 0, S)
def spBead (S : St) (x z : Int32) : Int32 × St := if 200 ≤ sNb S then (-1, S) else (nI (sNb S), uNb (uPe (uCo S (upd (sCo S) (sNb S) x)) (upd (sPe S) (sNb S) z)) (sNb S + 1))
def spPaint (S : St) (x y : Int32) : Int32 × St := match ix x (sNb S) with
  | some j => (nI 1, uCo S (upd (sCo S) j y))
  | none => (nI 0, S)
def spColour (S : St) (x : Int32) : Int32 := match ix x (sNb S) with
  | some j => sCo S j
  | none => nI 0
def colO (S : St) (v : Int64) : Int32 := match ixl v (sNb S) with
  | some j => sCo S j
  | none => nI 0
/-- what may lie in a place of a kind -/
def mayL (S : St) (k : Nat) (v : Int64) : Prop := (¬ (k = 7 ∨ k = 8)) ∨ v = -1 ∨ ∃ j, ixl v (sNb S) = some j ∧ (k = 7 ∨ ¬ sPe S j = 0)
def fit (k : Nat) (v : Int64) : Int64 := match k with
  | 1 => v.toInt32.toInt8.toInt32.toInt64
  | 2 => v.toInt32.toInt16.toInt32.toInt64
  | 3 => ((v.toInt32.toUInt32 % 65536).toInt32).toInt64
  | 4 => v.toInt32.toInt64
  | 6 => if v = 0 then lN 0 else lN 1
  | _ => v
def strP (S : St) (r : Nat) (x n : Int64) : Prop := ¬ x < lN 0 ∧ ¬ n < lN 0 ∧ ¬ lN (sPl S r) < x + n
def exchP (k q : Nat) : Prop := k = q ∨ ((k = 7 ∨ k = 8) ∧ (q = 7 ∨ q = 8))
def cmpP (k q : Nat) : Prop := exchP k q ∨ ((1 ≤ k ∧ k ≤ 5) ∧ (1 ≤ q ∧ q ≤ 5))
def ptA (S : St) (x0 x1 x2 x3 x4 : Int32) : Nat → Nat → Int32 := fun t j => if j = sNs S then (match t with | 0 => x0 | 1 => x1 | 2 => x2 | 3 => x3 | _ => x4) else sPt S t j
def appS (S : St) (x0 x1 x2 x3 x4 : Int32) : St := uNs (uPt S (ptA S x0 x1 x2 x3 x4)) (sNs S + 1)
theorem BEq.rf (B : BS) : BEq B B := ⟨fun _ _ => ⟨rfl, rfl⟩, fun _ _ _ _ => rfl, fun _ _ _ _ => rfl, rfl, fun _ _ => rfl, fun _ _ => rfl, rfl, fun _ _ _ _ => rfl, rfl, fun _ _ => rfl, rfl⟩
