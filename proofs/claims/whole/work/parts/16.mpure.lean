/-! the reference's state beside the loom's -/
def RM (M : MS) : Prop := (∀ r p, r < 8 → p < sPl M.1 r → mF M (40 * r + p) = sCe M.1 r p) ∧ (∀ k, 1 ≤ k → k ≤ 4 → mC M k = sMv M.1 k) ∧ mC M 5 = sMv M.1 0 ∧ (∀ t j, t < 5 → j < 24 → mP M (5 * j + t) = sPt M.1 t j)
/-- what of two states the reference's world shows -/
def MEq (M M' : MS) : Prop := (∀ r, r < 8 → sKd M.1 r = sKd M'.1 r ∧ sPl M.1 r = sPl M'.1 r) ∧ sNb M.1 = sNb M'.1 ∧ (∀ j, j < 200 → sCo M.1 j = sCo M'.1 j) ∧ (∀ j, j < 200 → sPe M.1 j = sPe M'.1 j) ∧ sNs M.1 = sNs M'.1 ∧ sCm M.1 = sCm M'.1 ∧ sWv M.1 = sWv M'.1 ∧ (∀ j, j < 320 → mF M j = mF M' j) ∧ (∀ j, j < 320 → mB M j = mB M' j) ∧ (∀ j, j < 40 → mA M j = mA M' j) ∧ (∀ j, j < 6 → mC M j = mC M' j) ∧ (∀ j, j < 120 → mP M j = mP M' j)
theorem HM_eq {G : Gx} {a : Nat → Nat} {M M' : MS} {H : Heap} (h : HW G.1 10 a (EM G a M) H) (he : MEq M M') : HW G.1 10 a (EM G a M') H := by
  obtain ⟨h1, h2, h3, h4, h5, h6, h7, h8, h9, h10, h11, h12⟩ := he
  refine h.eqA ?_
  intro k hk
  match k, hk with
  | 0, _ => intro x; simp only [EM] at x ⊢; rw [← h2, ← h5, ← h6, ← h7]; exact x
  | 1, _ => exact at_i (fun j hj => by rw [(h1 j hj).1])
  | 2, _ => exact at_i (fun j hj => by rw [(h1 j hj).2])
  | 3, _ => exact at_l h8
  | 4, _ => exact at_l h9
  | 5, _ => exact at_l h10
  | 6, _ => exact at_i h3
  | 7, _ => exact at_i h4
  | 8, _ => exact at_i h12
  | 9, _ => exact at_i h11
  | k + 10, h => exact absurd h (by omega)
theorem RM_put {M : MS} (hI : Inv M.1) (hR : RM M) {r q : Nat} (hr : r < 8) (hq : q < 40) (v : Int64) : RM (putC M.1 r q v, vp_updL (mF M) (40 * r + q) v, mB M, mA M, mC M, mP M) := by
  refine ⟨fun t p ht hp => ?_, hR.2.1, hR.2.2.1, hR.2.2.2⟩
  have hp : p < sPl M.1 t := hp
  have hl := (hI.1 t ht).2
  show vp_updL (mF M) (40 * r + q) v (40 * t + p) = va_up (sCe M.1) r (vp_updL (sCe M.1 r) q v) t p
  by_cases e : t = r
  · subst e
    rw [va_up_self]
    by_cases e2 : p = q
    · subst e2; simp [vp_updL]
    · simp only [vp_updL, if_neg e2, if_neg (show ¬ 40 * t + p = 40 * t + q by omega)]
      exact hR.1 t p ht hp
  · rw [va_up_ne _ _ e]
    simp only [vp_updL, if_neg (show ¬ 40 * t + p = 40 * r + q by omega)]
    exact hR.1 t p ht hp
theorem RM_hold {M : MS} (hI : Inv M.1) (hR : RM M) {r k n : Nat} (hr : r < 8) (hn : n ≤ 40) {g : Nat → Int64} (hg : ∀ t, t < n → g (40 * r + t) = blk k) (ho : ∀ i, (i < 40 * r ∨ 40 * r + 40 ≤ i) → g i = mF M i) : RM (holdS M.1 r k n, g, mB M, mA M, mC M, mP M) := by
  refine ⟨fun t p ht hp => ?_, hR.2.1, hR.2.2.1, hR.2.2.2⟩
  have hp : p < va_up (sPl M.1) r n t := hp
  have hl := (hI.1 t ht).2
  show g (40 * t + p) = va_up (sCe M.1) r (fun _ => blk k) t p
  by_cases e : t = r
  · subst e
    rw [va_up_self] at hp ⊢
    exact hg p hp
  · rw [va_up_ne _ _ e] at hp ⊢
    rw [ho _ (by omega)]
    exact hR.1 t p ht hp
theorem char_fit (v : Int64) : v &&& 65535 = fit 3 v := by
  show v &&& 65535 = ((v.toInt32.toUInt32 % 65536).toInt32).toInt64
  apply Int64.toBitVec_inj.mp
  apply BitVec.eq_of_toNat_eq
  have h1 : (v &&& 65535).toBitVec.toNat = v.toBitVec.toNat % 65536 := by
    rw [Int64.toBitVec_and, BitVec.toNat_and, show (65535 : Int64).toBitVec.toNat = 2 ^ 16 - 1 from rfl, Nat.and_two_pow_sub_one_eq_mod]
  rw [h1, pk_char]
  have h2 : v.toInt32.toBitVec.toNat = v.toBitVec.toNat % 2 ^ 32 := by
    rw [Int64.toBitVec_toInt32, BitVec.signExtend_eq_setWidth_of_le _ (by decide), BitVec.toNat_setWidth]
  rw [h2, Nat.mod_mod_of_dvd _ (by decide), nI_l (by omega)]
  show _ = (BitVec.ofNat 64 _).toNat
  rw [BitVec.toNat_ofNat]
  omega
