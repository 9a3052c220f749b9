/-! what the state must keep, it keeps -/
theorem ix_s {x : Int32} {n r : Nat} (hn : n < 2 ^ 31) (h : ix x n = some r) : r < n ∧ x = nI r := by
  rcases ix_cases x hn with h1 | ⟨q, hq, hx, h1⟩
  · rw [h] at h1; cases h1
  · rw [h] at h1; cases h1; exact ⟨hq, hx⟩
theorem ixl_s {x : Int64} {n r : Nat} (hn : n < 2 ^ 31) (h : ixl x n = some r) : r < n ∧ x = lN r := by
  rcases ixl_cases x hn with h1 | ⟨q, hq, hx, h1⟩
  · rw [h] at h1; cases h1
  · rw [h] at h1; cases h1; exact ⟨hq, hx⟩
theorem rng_s {x : Int32} {lo hi k : Nat} (hl : lo < 2 ^ 31) (hh : hi < 2 ^ 31) (h : rng x lo hi = some k) : lo ≤ k ∧ k ≤ hi := by
  by_cases h1 : x < nI lo
  · rw [rng_lo h1] at h; cases h
  · by_cases h2 : nI hi < x
    · rw [rng_hi h2] at h; cases h
    · obtain ⟨r, a1, a2, _, h3⟩ := rng_of hh hl h1 h2
      rw [h] at h3; cases h3; exact ⟨a1, a2⟩
theorem row_s {S : St} {x : Int32} {r : Nat} (h : row S x = some r) : r < 8 ∧ x = nI r ∧ ¬ sKd S r = 0 ∧ ¬ sKd S r = 9 := by
  rcases row_cases (S := S) x with h1 | ⟨q, hq, hx, h1, h2, h3⟩
  · rw [h] at h1; cases h1
  · rw [h] at h1; cases h1; exact ⟨hq, hx, h2, h3⟩
theorem inv_hold {S : St} (hI : Inv S) {r k n : Nat} (hk : k ≤ 9) (hn : n ≤ 40) : Inv (holdS S r k n) := by
  refine ⟨fun t ht => ?_, hI.2.1, hI.2.2.1, hI.2.2.2.1, fun t ht hk q hq => ?_⟩
  · show va_up (sKd S) r k t ≤ 9 ∧ va_up (sPl S) r n t ≤ 40
    by_cases e : t = r
    · subst e; rw [va_up_self, va_up_self]; exact ⟨hk, hn⟩
    · rw [va_up_ne _ _ e, va_up_ne _ _ e]; exact hI.1 t ht
  · have hk : va_up (sKd S) r k t = 7 ∨ va_up (sKd S) r k t = 8 := hk
    have hq : q < va_up (sPl S) r n t := hq
    show va_up (sCe S) r (fun _ => blk k) t q = -1 ∨ ∃ j, j < sNb S ∧ va_up (sCe S) r (fun _ => blk k) t q = lN j
    by_cases e : t = r
    · subst e; rw [va_up_self] at hk ⊢; exact Or.inl (if_pos hk)
    · rw [va_up_ne _ _ e] at hk hq ⊢; exact hI.2.2.2.2 t ht hk q hq
theorem inv_make {S : St} (hI : Inv S) (x k n : Int32) : Inv (spMake S x k n).2 := by
  unfold spMake
  split
  · rename_i r k n h1 h2 h3
    have a1 := rng_s (by decide) (by decide) h2
    have a2 := rng_s (by decide) (by decide) h3
    exact inv_hold hI (by omega) (by omega)
  · exact hI
theorem inv_lamp {S : St} (hI : Inv S) (x : Int32) : Inv (spLamp S x).2 := by
  unfold spLamp
  split
  · exact inv_hold hI (by omega) (by omega)
  · exact hI
theorem inv_empty {S : St} (hI : Inv S) (x : Int32) : Inv (spEmpty S x).2 := by
  unfold spEmpty
  split
  · split
    · exact hI
    · exact inv_hold hI (by omega) (by omega)
  · exact hI
theorem inv_bead {S : St} (hI : Inv S) (x z : Int32) : Inv (spBead S x z).2 := by
  unfold spBead
  split
  · exact hI
  · rename_i h
    refine ⟨hI.1, (by show sNb S + 1 ≤ 200; omega), hI.2.2.1, hI.2.2.2.1, fun t ht hk q hq => ?_⟩
    rcases hI.2.2.2.2 t ht hk q hq with z | ⟨j, hj, z⟩
    · exact Or.inl z
    · exact Or.inr ⟨j, (by show j < sNb S + 1; omega), z⟩
theorem inv_paint {S : St} (hI : Inv S) (x y : Int32) : Inv (spPaint S x y).2 := by
  unfold spPaint
  split <;> exact hI
theorem inv_putC {S : St} (hI : Inv S) {r q : Nat} {v : Int64} (hv : (sKd S r = 7 ∨ sKd S r = 8) → v = -1 ∨ ∃ j, j < sNb S ∧ v = lN j) : Inv (putC S r q v) := by
  refine ⟨hI.1, hI.2.1, hI.2.2.1, hI.2.2.2.1, fun t ht hk p hp => ?_⟩
  have hk : sKd S t = 7 ∨ sKd S t = 8 := hk
  have hp : p < sPl S t := hp
  show va_up (sCe S) r (vp_updL (sCe S r) q v) t p = -1 ∨ ∃ j, j < sNb S ∧ va_up (sCe S) r (vp_updL (sCe S r) q v) t p = lN j
  by_cases e : t = r
  · subst e
    rw [va_up_self]
    by_cases e2 : p = q
    · simp only [vp_updL, if_pos e2]; exact hv hk
    · simp only [vp_updL, if_neg e2]; exact hI.2.2.2.2 t ht hk p hp
  · rw [va_up_ne _ _ e]; exact hI.2.2.2.2 t ht hk p hp
theorem inv_put {S : St} (hI : Inv S) (x p : Int32) (v : Int64) : Inv (spPut S x p v).2 := by
  unfold spPut
  split
  · rename_i r hr
    split
    · rename_i q hq
      by_cases hm : mayL S (sKd S r) v
      · rw [cif_t hm]
        refine inv_putC hI (fun hk => ?_)
        rw [fit_bd hk]
        rcases hm with z | z | ⟨j, z, _⟩
        · exact absurd hk z
        · exact Or.inl z
        · have hN := hI.2.1
          obtain ⟨h1, h2⟩ := ixl_s (by omega) z
          exact Or.inr ⟨j, h1, h2⟩
      · rw [cif_f hm]; exact hI
    · exact hI
  · exact hI
theorem inv_blk {S : St} {r : Nat} {k : Nat} (h : sKd S r = k) : (sKd S r = 7 ∨ sKd S r = 8) → blk k = -1 ∨ ∃ j, j < sNb S ∧ blk k = lN j := fun hk => Or.inl (if_pos (by rw [← h]; exact hk))
theorem inv_move {S : St} (hI : Inv S) (x i y j n : Int32) : Inv (spMove S x i y j n).2 := by
  unfold spMove
  split
  · rename_i q r h1 h2
    exact mov_inv hI (ix_s (by decide) h1).1 (ix_s (by decide) h2).1 (sml_i _) (sml_i _) (sml_i _)
  · exact hI
theorem inv_open {S : St} (hI : Inv S) (x p : Int32) : Inv (spOpen S x p).2 := by
  unfold spOpen
  split
  · rename_i r h1
    have hr := (ix_s (by decide) h1).1
    have h2 := opM_inv hI hr p
    dsimp only
    split
    · exact inv_putC h2 (inv_blk (by rw [opM_k.1]))
    · exact h2
  · exact hI
theorem inv_close {S : St} (hI : Inv S) (x p : Int32) : Inv (spClose S x p).2 := by
  unfold spClose
  split
  · rename_i r h1
    have hr := (ix_s (by decide) h1).1
    have h2 := clM_inv hI hr p
    dsimp only
    split
    · exact inv_putC h2 (inv_blk (by rw [clM_k.1]))
    · exact h2
  · exact hI
theorem inv_turn {S : St} (hI : Inv S) (x d : Int32) : Inv (spTurn S x d).2 := by
  unfold spTurn
  split
  · rename_i r h1
    split
    · exact hI
    · split
      · exact hI
      · refine ⟨hI.1, hI.2.1, hI.2.2.1, hI.2.2.2.1, fun t ht hk p hp => ?_⟩
        have hk : sKd S t = 7 ∨ sKd S t = 8 := hk
        have hp : p < sPl S t := hp
        show va_up (sCe S) r (rotF (sCe S r) (sPl S r) d) t p = -1 ∨ ∃ j, j < sNb S ∧ va_up (sCe S) r (rotF (sCe S r) (sPl S r) d) t p = lN j
        by_cases e : t = r
        · subst e
          rw [va_up_self]
          unfold rotF
          rw [if_pos (show p < sPl S t from hp)]
          exact hI.2.2.2.2 t ht hk _ (src_lt (by omega) d p)
        · rw [va_up_ne _ _ e]; exact hI.2.2.2.2 t ht hk p hp
  · exact hI
theorem inv_step {S : St} (hI : Inv S) (x i y j n : Int32) : Inv (spStep S x i y j n).2 := by
  unfold spStep
  split
  · rename_i q r h1 h2
    obtain ⟨hq, hx⟩ := ix_s (by decide) h1
    obtain ⟨hr, hy⟩ := ix_s (by decide) h2
    split
    · exact hI
    · rename_i h24
      refine ⟨hI.1, hI.2.1, (by show sNs S + 1 ≤ 24; omega), fun t ht => ?_, hI.2.2.2.2⟩
      have ht : t < sNs S + 1 := ht
      show (∃ r, r < 8 ∧ ptA S x i y j n 0 t = nI r) ∧ ∃ r, r < 8 ∧ ptA S x i y j n 2 t = nI r
      unfold ptA
      by_cases e : t = sNs S
      · rw [if_pos e, if_pos e]; exact ⟨⟨q, hq, hx⟩, r, hr, hy⟩
      · rw [if_neg e, if_neg e]; exact hI.2.2.2.1 t (by omega)
  · exact hI
theorem inv_forget {S : St} (hI : Inv S) : Inv (spForget S).2 := ⟨hI.1, hI.2.1, Nat.zero_le _, fun t ht => absurd ht (Nat.not_lt_zero t), hI.2.2.2.2⟩
theorem inv_weave {S : St} (hI : Inv S) (x w : Int32) : Inv (spWeave S x w).2 := by
  unfold spWeave
  split
  · split
    · exact hI
    · exact wvs_inv _ _ _ _ hI
  · exact hI
/-! the state of a new loom -/
def S0 : St := (fun _ => 0, fun _ => 0, fun _ _ => 0, 0, fun _ => 0, fun _ => 0, 0, fun _ _ => 0, 0, fun _ => 0, 0)
theorem inv_S0 : Inv S0 := ⟨fun _ _ => ⟨Nat.zero_le _, Nat.zero_le _⟩, Nat.zero_le _, Nat.zero_le _, fun t ht => absurd ht (Nat.not_lt_zero t), fun _ _ _ q hq => absurd hq (Nat.not_lt_zero q)⟩
theorem RM_0 (bf af : Nat → Int64) : RM (S0, fun _ => 0, bf, af, fun _ => 0, fun _ => 0) := ⟨fun _ p _ hp => absurd hp (Nat.not_lt_zero p), fun _ _ _ => rfl, rfl, fun _ _ _ _ => rfl⟩
