/-! remainders -/
theorem i_tmod_facts {x : Int} {n : Nat} (h0 : 0 < n) : (n : Int) * x.tdiv n + x.tmod n = x ∧ x.tmod n < n ∧ -(n : Int) < x.tmod n ∧ (0 ≤ x → 0 ≤ x.tmod n) ∧ (x ≤ 0 → x.tmod n ≤ 0) := by
  have hn : (0 : Int) < n := by omega
  refine ⟨Int.mul_tdiv_add_tmod x n, Int.tmod_lt_of_pos x hn, ?_, fun h => Int.tmod_nonneg _ h, fun h => ?_⟩
  · have := Int.tmod_lt_of_pos (-x) hn
    rw [Int.neg_tmod] at this
    omega
  · have := Int.tmod_nonneg (a := -x) (n : Int) (by omega)
    rw [Int.neg_tmod] at this
    omega
theorem i_emod_of_tmod {x : Int} {n : Nat} (h0 : 0 < n) : x % n = if x.tmod n < 0 then x.tmod n + n else x.tmod n := by
  obtain ⟨h1, h2, h3, h4, h5⟩ := i_tmod_facts (x := x) h0
  split
  · rename_i h
    have e : x = (x.tmod n + n) + n * (x.tdiv n - 1) := by rw [Int.mul_sub]; omega
    conv => lhs; rw [e]
    rw [Int.add_mul_emod_self_left, Int.emod_eq_of_lt (by omega) (by omega)]
  · rename_i h
    have e : x = x.tmod n + n * x.tdiv n := by omega
    conv => lhs; rw [e]
    rw [Int.add_mul_emod_self_left, Int.emod_eq_of_lt (by omega) (by omega)]
theorem i_rem {x : Int32} {n : Nat} (h0 : 0 < n) (hn : n < 2 ^ 31) : (x - x / nI n * nI n).toInt = x.toInt.tmod n := by
  obtain ⟨h1, h2, h3, h4, h5⟩ := i_tmod_facts (x := x.toInt) h0
  have b1 := Int32.toInt_lt x
  have b2 := Int32.le_toInt x
  rw [Int32.toInt_sub, Int32.toInt_mul, Int32.toInt_div, nI_toInt hn, Int.bmod_mul_bmod]
  have e : x.toInt.tdiv n * n = x.toInt - x.toInt.tmod n := by rw [Int.mul_comm]; omega
  rw [e]
  rw [Int.bmod_eq_of_le (n := x.toInt - x.toInt.tmod n) (by omega) (by omega)]
  rw [Int.bmod_eq_of_le (by omega) (by omega)]
  omega
theorem l_rem {x : Int64} {n : Nat} (h0 : 0 < n) (hn : n < 2 ^ 31) : (x - x / lN n * lN n).toInt = x.toInt.tmod n := by
  obtain ⟨h1, h2, h3, h4, h5⟩ := i_tmod_facts (x := x.toInt) h0
  have b1 := Int64.toInt_lt x
  have b2 := Int64.le_toInt x
  rw [Int64.toInt_sub, Int64.toInt_mul, Int64.toInt_div, lN_toInt hn, Int.bmod_mul_bmod]
  have e : x.toInt.tdiv n * n = x.toInt - x.toInt.tmod n := by rw [Int.mul_comm]; omega
  rw [e]
  rw [Int.bmod_eq_of_le (n := x.toInt - x.toInt.tmod n) (by omega) (by omega)]
  rw [Int.bmod_eq_of_le (by omega) (by omega)]
  omega
theorem nI_ofI {x : Int32} {n : Nat} (h : x.toInt = (n : Int)) : x = nI n := by
  have h2 := Int32.toInt_lt x
  apply Int32.toInt_inj.mp
  rw [h, nI_toInt (by omega)]
theorem x_sign {x : Int32} {n : Nat} (hn : n < 2 ^ 31) : 0 ≤ x ^^^ nI n ↔ 0 ≤ x.toInt := by
  rw [Int32.le_iff_toInt_le]
  have e1 : (x ^^^ nI n).toBitVec.msb = (x.toBitVec.msb ^^ (nI n).toBitVec.msb) := by rw [Int32.toBitVec_xor, BitVec.msb_xor]
  rw [BitVec.msb_eq_toInt, BitVec.msb_eq_toInt, BitVec.msb_eq_toInt] at e1
  change decide ((x ^^^ nI n).toInt < 0) = (decide (x.toInt < 0) ^^ decide ((nI n).toInt < 0)) at e1
  rw [nI_toInt hn, show decide ((n : Int) < 0) = false from decide_eq_false (by omega), Bool.xor_false] at e1
  have e2 := decide_eq_decide.mp e1
  show (0 : Int32).toInt ≤ _ ↔ _
  rw [show (0 : Int32).toInt = 0 from rfl]
  omega
/-! where a turn brings a place, and whence -/
def dst (n : Nat) (d : Int32) (p : Nat) : Nat := (((p : Int) + d.toInt) % (n : Int)).toNat
def src (n : Nat) (d : Int32) (q : Nat) : Nat := (((q : Int) - d.toInt) % (n : Int)).toNat
theorem dst_i {n : Nat} (h0 : 0 < n) (d : Int32) (p : Nat) : (dst n d p : Int) = ((p : Int) + d.toInt) % n := by
  unfold dst
  have := Int.emod_nonneg ((p : Int) + d.toInt) (b := (n : Int)) (by omega)
  omega
theorem src_i {n : Nat} (h0 : 0 < n) (d : Int32) (p : Nat) : (src n d p : Int) = ((p : Int) - d.toInt) % n := by
  unfold src
  have := Int.emod_nonneg ((p : Int) - d.toInt) (b := (n : Int)) (by omega)
  omega
theorem dst_lt {n : Nat} (h0 : 0 < n) (d : Int32) (p : Nat) : dst n d p < n := by
  have h1 := dst_i h0 d p
  have := Int.emod_lt_of_pos ((p : Int) + d.toInt) (b := (n : Int)) (by omega)
  omega
theorem src_lt {n : Nat} (h0 : 0 < n) (d : Int32) (p : Nat) : src n d p < n := by
  have h1 := src_i h0 d p
  have := Int.emod_lt_of_pos ((p : Int) - d.toInt) (b := (n : Int)) (by omega)
  omega
theorem dst_src {n : Nat} (d : Int32) {q : Nat} (hq : q < n) : dst n d (src n d q) = q := by
  have h0 : 0 < n := by omega
  have h1 := dst_i h0 d (src n d q)
  rw [src_i h0 d q, Int.emod_add_emod] at h1
  rw [show (q : Int) - d.toInt + d.toInt = q by omega, Int.emod_eq_of_lt (by omega) (by omega)] at h1
  omega
theorem src_dst {n : Nat} (d : Int32) {q : Nat} (hq : q < n) : src n d (dst n d q) = q := by
  have h0 : 0 < n := by omega
  have h1 := src_i h0 d (dst n d q)
  rw [dst_i h0 d q, Int.emod_sub_emod] at h1
  rw [show (q : Int) + d.toInt - d.toInt = q by omega, Int.emod_eq_of_lt (by omega) (by omega)] at h1
  omega
theorem dst_inj {n : Nat} (d : Int32) {p q : Nat} (hp : p < n) (hq : q < n) (h : dst n d p = dst n d q) : p = q := by
  rw [← src_dst d hp, ← src_dst d hq, h]
theorem dst_sh {n : Nat} (h0 : 0 < n) (d : Int32) (p : Nat) : (p + (d.toInt % (n : Int)).toNat) % n = dst n d p := by
  have h1 := dst_i h0 d p
  have h2 := Int.emod_nonneg d.toInt (b := (n : Int)) (by omega)
  have h3 : (((p + (d.toInt % (n : Int)).toNat) % n : Nat) : Int) = ((p : Int) + d.toInt % (n : Int)) % n := by
    rw [Int.natCast_emod, Int.natCast_add]
    congr 2
    omega
  rw [Int.add_emod_emod] at h3
  omega
/-- what a turn's loop has reached -/
def turnI (f g : Nat → Int64) (n : Nat) (d : Int32) (j : Nat) : Prop := (∀ t, t < j → g (dst n d t) = f t) ∧ ∀ q, n ≤ q → g q = f q
theorem turnI_step {f g : Nat → Int64} {n : Nat} {d : Int32} {j : Nat} (hj : j < n) (h : turnI f g n d j) : turnI f (vp_updL g (dst n d j) (f j)) n d (j + 1) := by
  refine ⟨fun t ht => ?_, fun q hq => ?_⟩
  · by_cases e : t = j
    · subst e; simp [vp_updL]
    · have : dst n d t ≠ dst n d j := fun z => e (dst_inj d (by omega) hj z)
      simp only [vp_updL, if_neg this]
      exact h.1 t (by omega)
  · have : q ≠ dst n d j := by have := dst_lt (n := n) (by omega) d j; omega
    simp only [vp_updL, if_neg this]
    exact h.2 q hq
theorem turnI_end {f g : Nat → Int64} {n : Nat} {d : Int32} (h : turnI f g n d n) (q : Nat) : g q = rotF f n d q := by
  unfold rotF
  split
  · rename_i hq
    have := h.1 (src n d q) (src_lt (by omega) d q)
    rw [dst_src d hq] at this
    exact this
  · rename_i hq
    exact h.2 q (by omega)
