theorem ixl_i2l {x : Int32} {n : Nat} (hn : n < 2 ^ 31) : ixl x.toInt64 n = ix x n := by
  rcases ix_cases x hn with h | ⟨r, hr, rfl, h⟩
  · rw [h]
    rcases ixl_cases x.toInt64 hn with h2 | ⟨r, hr, hx, h2⟩
    · exact h2
    · exfalso
      have e : x = nI r := by
        apply nI_ofI
        have := congrArg Int64.toInt hx
        rw [Int32.toInt_toInt64, lN_toInt (by omega)] at this
        exact this
      rw [e, ix_nI hr hn] at h
      cases h
  · rw [h, nI_l (by omega), ixl_lN hr hn]
theorem colO_i {S : St} {x : Int32} (hn : sNb S ≤ 200) : colO S x.toInt64 = spColour S x := by
  unfold colO spColour
  rw [ixl_i2l (by omega)]
theorem sml_p1 (x : Int32) : sml (x.toInt64 + lN 1) := by
  have h1 := Int32.toInt_lt x
  have h2 := Int32.le_toInt x
  have e : (lN 1).toInt = 1 := rfl
  unfold sml
  rw [l_addT (by rw [Int32.toInt_toInt64]; omega) (by rw [e]; omega), Int32.toInt_toInt64, e]
  omega
theorem tbI {n : Nat} (hn : n ≤ 40) (x : Int32) : (lN n - lN 1 - x.toInt64).toInt = (n : Int) - 1 - x.toInt := by
  have h1 := Int32.toInt_lt x
  have h2 := Int32.le_toInt x
  have e : (lN 1).toInt = 1 := rfl
  have en : (lN n).toInt = (n : Int) := lN_toInt (by omega)
  have e3 : (lN n - lN 1).toInt = (n : Int) - 1 := by rw [l_subT (by rw [en]; omega) (by rw [e]; omega), en, e]
  rw [l_subT (by rw [e3]; omega) (by rw [Int32.toInt_toInt64]; omega), e3, Int32.toInt_toInt64]
theorem sml_tb {n : Nat} (hn : n ≤ 40) (x : Int32) : sml (lN n - lN 1 - x.toInt64) := by
  have h1 := Int32.toInt_lt x
  have h2 := Int32.le_toInt x
  unfold sml
  rw [tbI hn x]
  omega
theorem mov0 {S : St} {q r : Nat} {i j n : Int64} (h : (movS S q r i j n).1 = 0) : hind S q r i j n = 0 := by
  by_cases hh : hind S q r i j n = 0
  · exact hh
  · rw [movS_n hh] at h; exact absurd h hh
theorem opM_0 {S : St} (hI : Inv S) {r : Nat} (hr : r < 8) {p : Int32} (h : (opM S r p).1 = 0) : ∃ q, q < sPl S r ∧ p = nI q := by
  obtain ⟨-, h1, -⟩ := hind_0 (mov0 h)
  have hl := (hI.1 r hr).2
  obtain ⟨h2, h3, -⟩ := h1
  rw [Int64.lt_iff_toInt_lt, show (lN 0).toInt = 0 from rfl] at h2 h3
  rw [Int32.toInt_toInt64] at h2
  rw [tbI hl p] at h3
  exact ⟨p.toInt.toNat, by omega, nI_ofI (by omega)⟩
theorem clM_0 {S : St} (hI : Inv S) {r : Nat} (hr : r < 8) {p : Int32} (h : (clM S r p).1 = 0) : 0 < sPl S r := by
  obtain ⟨-, h1, h4, -⟩ := hind_0 (mov0 h)
  have hl := (hI.1 r hr).2
  obtain ⟨h2, h3, -⟩ := h4
  rw [Int64.lt_iff_toInt_lt, show (lN 0).toInt = 0 from rfl] at h2 h3
  rw [Int32.toInt_toInt64] at h2
  rw [tbI hl p] at h3
  omega
theorem opM_inv {S : St} (hI : Inv S) {r : Nat} (hr : r < 8) (p : Int32) : Inv (opM S r p).2 := mov_inv hI hr hr (sml_i _) (sml_p1 _) (sml_tb (hI.1 r hr).2 _)
theorem clM_inv {S : St} (hI : Inv S) {r : Nat} (hr : r < 8) (p : Int32) : Inv (clM S r p).2 := mov_inv hI hr hr (sml_p1 _) (sml_i _) (sml_tb (hI.1 r hr).2 _)
theorem opM_k {S : St} {r : Nat} {p : Int32} : sKd (opM S r p).2 = sKd S ∧ sPl (opM S r p).2 = sPl S := ⟨mov_ns.2.2.1, mov_ns.2.2.2.1⟩
theorem clM_k {S : St} {r : Nat} {p : Int32} : sKd (clM S r p).2 = sKd S ∧ sPl (clM S r p).2 = sPl S := ⟨mov_ns.2.2.1, mov_ns.2.2.2.1⟩
theorem nI_m1 {n : Nat} (h : 0 < n) : nI n - nI 1 = nI (n - 1) := by
  rw [pk_sub (by omega)]
