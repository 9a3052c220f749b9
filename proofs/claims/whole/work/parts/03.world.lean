/-! the state of the loom: kinds, places, cells, how many beads, colours, pearls, how many steps, the pattern (five rows), CAME, the counts, the rounds woven -/
abbrev St : Type := (Nat → Nat) × (Nat → Nat) × (Nat → Nat → Int64) × Nat × (Nat → Int32) × (Nat → Int32) × Nat × (Nat → Nat → Int32) × Int32 × (Nat → Int32) × Int32
abbrev sKd (S : St) : Nat → Nat := S.1
abbrev sPl (S : St) : Nat → Nat := S.2.1
abbrev sCe (S : St) : Nat → Nat → Int64 := S.2.2.1
abbrev sNb (S : St) : Nat := S.2.2.2.1
abbrev sCo (S : St) : Nat → Int32 := S.2.2.2.2.1
abbrev sPe (S : St) : Nat → Int32 := S.2.2.2.2.2.1
abbrev sNs (S : St) : Nat := S.2.2.2.2.2.2.1
abbrev sPt (S : St) : Nat → Nat → Int32 := S.2.2.2.2.2.2.2.1
abbrev sCm (S : St) : Int32 := S.2.2.2.2.2.2.2.2.1
abbrev sMv (S : St) : Nat → Int32 := S.2.2.2.2.2.2.2.2.2.1
abbrev sWv (S : St) : Int32 := S.2.2.2.2.2.2.2.2.2.2
abbrev uKd (S : St) (x : Nat → Nat) : St := (x, sPl S, sCe S, sNb S, sCo S, sPe S, sNs S, sPt S, sCm S, sMv S, sWv S)
abbrev uPl (S : St) (x : Nat → Nat) : St := (sKd S, x, sCe S, sNb S, sCo S, sPe S, sNs S, sPt S, sCm S, sMv S, sWv S)
abbrev uCe (S : St) (x : Nat → Nat → Int64) : St := (sKd S, sPl S, x, sNb S, sCo S, sPe S, sNs S, sPt S, sCm S, sMv S, sWv S)
abbrev uNb (S : St) (x : Nat) : St := (sKd S, sPl S, sCe S, x, sCo S, sPe S, sNs S, sPt S, sCm S, sMv S, sWv S)
abbrev uCo (S : St) (x : Nat → Int32) : St := (sKd S, sPl S, sCe S, sNb S, x, sPe S, sNs S, sPt S, sCm S, sMv S, sWv S)
abbrev uPe (S : St) (x : Nat → Int32) : St := (sKd S, sPl S, sCe S, sNb S, sCo S, x, sNs S, sPt S, sCm S, sMv S, sWv S)
abbrev uNs (S : St) (x : Nat) : St := (sKd S, sPl S, sCe S, sNb S, sCo S, sPe S, x, sPt S, sCm S, sMv S, sWv S)
abbrev uPt (S : St) (x : Nat → Nat → Int32) : St := (sKd S, sPl S, sCe S, sNb S, sCo S, sPe S, sNs S, x, sCm S, sMv S, sWv S)
abbrev uCm (S : St) (x : Int32) : St := (sKd S, sPl S, sCe S, sNb S, sCo S, sPe S, sNs S, sPt S, x, sMv S, sWv S)
abbrev uMv (S : St) (x : Nat → Int32) : St := (sKd S, sPl S, sCe S, sNb S, sCo S, sPe S, sNs S, sPt S, sCm S, x, sWv S)
abbrev uWv (S : St) (x : Int32) : St := (sKd S, sPl S, sCe S, sNb S, sCo S, sPe S, sNs S, sPt S, sCm S, sMv S, x)
/-! the class's cells: 0 the loom, 1 its racks, 2 colours, 3 pearls, 4 the pattern, 5 to 9 its rows, 10 the counts, from 11 on the racks, from 19 on their cells, from 27 on what they keep -/
abbrev Kt : Type := Nat → Nat → Int64
abbrev BS : Type := St × Kt
def EBr (G : Gx) (a : Nat → Nat) (kd pl : Nat → Nat) (ce K : Nat → Nat → Int64) (k : Nat) : va_E := if k < 8 then .inr (1, [.ref (a (k + 19)), .ref (a (k + 27)), .int (nI (kd k)), .int (nI (pl k))]) else if k < 16 then .inl (G.2 1, 40, .inr (.inl (ce (k - 8)))) else .inl (G.2 1, 40, .inr (.inl (K (k - 16))))
def EB (G : Gx) (a : Nat → Nat) (B : BS) : Nat → va_E := fun k => match k with
  | 0 => .inr (2, [.ref (a 1), .ref (a 2), .ref (a 3), .ref (a 4), .ref (a 10), .int (nI (sNb B.1)), .int (sCm B.1), .int (sWv B.1)])
  | 1 => .inl (G.2 3, 8, .inr (.inr (.inr (.inr (fun r => some (a (r + 11)))))))
  | 2 => .inl (G.2 0, 200, .inl (sCo B.1))
  | 3 => .inl (G.2 2, 200, .inl (sPe B.1))
  | 4 => .inr (0, [.ref (a 5), .ref (a 6), .ref (a 7), .ref (a 8), .ref (a 9), .int (nI (sNs B.1))])
  | 5 => .inl (G.2 0, 24, .inl (sPt B.1 0))
  | 6 => .inl (G.2 0, 24, .inl (sPt B.1 1))
  | 7 => .inl (G.2 0, 24, .inl (sPt B.1 2))
  | 8 => .inl (G.2 0, 24, .inl (sPt B.1 3))
  | 9 => .inl (G.2 0, 24, .inl (sPt B.1 4))
  | 10 => .inl (G.2 0, 5, .inl (sMv B.1))
  | k + 11 => EBr G a (sKd B.1) (sPl B.1) (sCe B.1) B.2 k
theorem EB_r (G : Gx) (a : Nat → Nat) (B : BS) {r : Nat} (h : r < 8) : EB G a B (r + 11) = .inr (1, [.ref (a (r + 19)), .ref (a (r + 27)), .int (nI (sKd B.1 r)), .int (nI (sPl B.1 r))]) := by
  show EBr G a _ _ _ _ r = _
  unfold EBr
  rw [if_pos h]
theorem EB_c (G : Gx) (a : Nat → Nat) (B : BS) {r : Nat} (h : r < 8) : EB G a B (r + 19) = .inl (G.2 1, 40, .inr (.inl (sCe B.1 r))) := by
  show EBr G a _ _ _ _ (r + 8) = _
  unfold EBr
  rw [if_neg (by omega), if_pos (by omega)]
  rfl
theorem EB_k (G : Gx) (a : Nat → Nat) (B : BS) {r : Nat} (h : r < 8) : EB G a B (r + 27) = .inl (G.2 1, 40, .inr (.inl (B.2 r))) := by
  show EBr G a _ _ _ _ (r + 16) = _
  unfold EBr
  rw [if_neg (by omega), if_neg (by omega)]
  rfl
theorem EB_cases {P : Nat → Prop} (h : ∀ k, k < 11 → P k) (hr : ∀ r, r < 8 → P (r + 11)) (hc : ∀ r, r < 8 → P (r + 19)) (hk : ∀ r, r < 8 → P (r + 27)) : ∀ k, k < 35 → P k := by
  intro k hk35
  by_cases h1 : k < 11
  · exact h k h1
  by_cases h2 : k < 19
  · have := hr (k - 11) (by omega); rwa [show k - 11 + 11 = k by omega] at this
  by_cases h3 : k < 27
  · have := hc (k - 19) (by omega); rwa [show k - 19 + 19 = k by omega] at this
  · have := hk (k - 27) (by omega); rwa [show k - 27 + 27 = k by omega] at this
/-- what of the two states the world shows -/
def BEq (B B' : BS) : Prop := (∀ r, r < 8 → sKd B.1 r = sKd B'.1 r ∧ sPl B.1 r = sPl B'.1 r) ∧ (∀ r j, r < 8 → j < 40 → sCe B.1 r j = sCe B'.1 r j) ∧ (∀ r j, r < 8 → j < 40 → B.2 r j = B'.2 r j) ∧ sNb B.1 = sNb B'.1 ∧ (∀ j, j < 200 → sCo B.1 j = sCo B'.1 j) ∧ (∀ j, j < 200 → sPe B.1 j = sPe B'.1 j) ∧ sNs B.1 = sNs B'.1 ∧ (∀ t j, t < 5 → j < 24 → sPt B.1 t j = sPt B'.1 t j) ∧ sCm B.1 = sCm B'.1 ∧ (∀ j, j < 5 → sMv B.1 j = sMv B'.1 j) ∧ sWv B.1 = sWv B'.1
theorem HB_eq {G : Gx} {a : Nat → Nat} {B B' : BS} {H : Heap} (h : HW G.1 35 a (EB G a B) H) (he : BEq B B') : HW G.1 35 a (EB G a B') H := by
  obtain ⟨h1, h2, h3, h4, h5, h6, h7, h8, h9, h10, h11⟩ := he
  refine h.eqA ?_
  refine EB_cases (fun k hk => ?_) (fun r hr => ?_) (fun r hr => ?_) (fun r hr => ?_)
  · match k, hk with
    | 0, _ => intro x; simp only [EB] at x ⊢; rw [← h4, ← h9, ← h11]; exact x
    | 1, _ => intro x; exact x
    | 2, _ => exact at_i h5
    | 3, _ => exact at_i h6
    | 4, _ => intro x; simp only [EB] at x ⊢; rw [← h7]; exact x
    | 5, _ => exact at_i (fun j hj => h8 0 j (by decide) hj)
    | 6, _ => exact at_i (fun j hj => h8 1 j (by decide) hj)
    | 7, _ => exact at_i (fun j hj => h8 2 j (by decide) hj)
    | 8, _ => exact at_i (fun j hj => h8 3 j (by decide) hj)
    | 9, _ => exact at_i (fun j hj => h8 4 j (by decide) hj)
    | 10, _ => exact at_i h10
    | k + 11, hk => omega
  · rw [EB_r G a B hr, EB_r G a B' hr, (h1 r hr).1, (h1 r hr).2]; exact id
  · rw [EB_c G a B hr, EB_c G a B' hr]; exact at_l (fun j hj => h2 r j hr hj)
  · rw [EB_k G a B hr, EB_k G a B' hr]; exact at_l (fun j hj => h3 r j hr hj)
/-! the reference's cells: 0 the object, 1 kind, 2 many, 3 cell, 4 before, 5 aside, 6 colours, 7 pearls, 8 pattern, 9 counts -/
abbrev MS : Type := St × (Nat → Int64) × (Nat → Int64) × (Nat → Int64) × (Nat → Int32) × (Nat → Int32)
abbrev mF (M : MS) : Nat → Int64 := M.2.1
abbrev mB (M : MS) : Nat → Int64 := M.2.2.1
abbrev mA (M : MS) : Nat → Int64 := M.2.2.2.1
abbrev mC (M : MS) : Nat → Int32 := M.2.2.2.2.1
abbrev mP (M : MS) : Nat → Int32 := M.2.2.2.2.2
def EM (G : Gx) (b : Nat → Nat) (M : MS) : Nat → va_E := fun k => match k with
  | 0 => .inr (3, [.ref (b 1), .ref (b 2), .ref (b 3), .ref (b 4), .ref (b 5), .int (nI (sNb M.1)), .ref (b 6), .ref (b 7), .int (nI (sNs M.1)), .ref (b 8), .int (sCm M.1), .ref (b 9), .int (sWv M.1)])
  | 1 => .inl (G.2 0, 8, .inl (fun r => nI (sKd M.1 r)))
  | 2 => .inl (G.2 0, 8, .inl (fun r => nI (sPl M.1 r)))
  | 3 => .inl (G.2 1, 320, .inr (.inl (mF M)))
  | 4 => .inl (G.2 1, 320, .inr (.inl (mB M)))
  | 5 => .inl (G.2 1, 40, .inr (.inl (mA M)))
  | 6 => .inl (G.2 0, 200, .inl (sCo M.1))
  | 7 => .inl (G.2 2, 200, .inl (sPe M.1))
  | 8 => .inl (G.2 0, 120, .inl (mP M))
  | _ => .inl (G.2 0, 6, .inl (mC M))
