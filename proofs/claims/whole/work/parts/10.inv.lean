/-! what a MOVING keeps -/
theorem hind_le (S : St) (q r : Nat) (i j n : Int64) : hind S q r i j n ≤ 3 := by
  unfold hind
  split
  · omega
  · by_cases h : sKd S q = 9 ∨ sKd S r = 9 ∨ ¬ exchP (sKd S q) (sKd S r)
    · rw [cif_t h]; omega
    · rw [cif_f h]
      by_cases h2 : strP S q i n ∧ strP S r j n
      · rw [cif_t h2]; omega
      · rw [cif_f h2]; omega
theorem hind_0 {S : St} {q r : Nat} {i j n : Int64} (h : hind S q r i j n = 0) : exchP (sKd S q) (sKd S r) ∧ strP S q i n ∧ strP S r j n ∧ ¬ sKd S q = 0 ∧ ¬ sKd S r = 0 ∧ ¬ sKd S q = 9 ∧ ¬ sKd S r = 9 := by
  unfold hind at h
  split at h
  · omega
  · rename_i h0
    by_cases h1 : sKd S q = 9 ∨ sKd S r = 9 ∨ ¬ exchP (sKd S q) (sKd S r)
    · rw [cif_t h1] at h; omega
    · rw [cif_f h1] at h
      by_cases h2 : strP S q i n ∧ strP S r j n
      · exact ⟨Classical.byContradiction fun z => h1 (Or.inr (Or.inr z)), h2.1, h2.2, fun z => h0 (Or.inl z), fun z => h0 (Or.inr z), fun z => h1 (Or.inl z), fun z => h1 (Or.inr (Or.inl z))⟩
      · rw [cif_f h2] at h; omega
def vld (S : St) (c : Nat → Nat → Int64) : Prop := ∀ r, r < 8 → (sKd S r = 7 ∨ sKd S r = 8) → ∀ q, q < sPl S r → c r q = -1 ∨ ∃ j, j < sNb S ∧ c r q = lN j
theorem movS_n {S : St} {q r : Nat} {i j n : Int64} (h : ¬ hind S q r i j n = 0) : movS S q r i j n = movN S (hind S q r i j n) := cif_f h
theorem movS_d {S : St} {q r i j n : Nat} (h : hind S q r (lN i) (lN j) (lN n) = 0) (hi : i < 2 ^ 63) (hj : j < 2 ^ 63) (hn : n < 2 ^ 63) : movS S q r (lN i) (lN j) (lN n) = movD S q r i j (comeC S q r i n) n := by
  unfold movS
  rw [cif_t h, lN_clamp hi, lN_clamp hj, lN_clamp hn]
theorem mov_form {S : St} (hI : Inv S) {q r : Nat} (hq : q < 8) (hr : r < 8) {i j n : Int64} (hi : sml i) (hj : sml j) (hn : sml n) : ∃ c x m, (movS S q r i j n).2 = uMv (uCm (uCe S c) x) m ∧ vld S c := by
  by_cases h : hind S q r i j n = 0
  · obtain ⟨hE, h1, h2, h3⟩ := hind_0 h
    obtain ⟨i', n', rfl, rfl, h4⟩ := strP_nat h1 hi hn (hI.1 q hq).2
    obtain ⟨j', k', rfl, hk, h5⟩ := strP_nat h2 hj hn (hI.1 r hr).2
    have e1 := (hI.1 q hq).2
    have e2 := (hI.1 r hr).2
    rw [lN_eq (by omega) (by omega)] at hk
    subst hk
    rw [movS_d h (by omega) (by omega) (by omega)]
    refine ⟨_, _, _, rfl, fun t ht hk p hp => ?_⟩
    by_cases htr : t = r
    · subst htr
      rw [va_up_self]
      unfold va_cpy
      have hc := come_le S q t i' n'
      split
      · rename_i hr
        refine hI.2.2.2.2 q hq ?_ _ (by omega)
        rcases hE with hE | hE
        · rw [hE]; exact hk
        · exact hE.1
      · exact hI.2.2.2.2 t ht hk p hp
    · rw [va_up_ne _ _ htr]
      exact hI.2.2.2.2 t ht hk p hp
  · rw [movS_n h]
    exact ⟨sCe S, _, _, rfl, hI.2.2.2.2⟩
theorem mov_inv {S : St} (hI : Inv S) {q r : Nat} (hq : q < 8) (hr : r < 8) {i j n : Int64} (hi : sml i) (hj : sml j) (hn : sml n) : Inv (movS S q r i j n).2 := by
  obtain ⟨c, x, m, e, hv⟩ := mov_form hI hq hr hi hj hn
  rw [e]
  exact ⟨hI.1, hI.2.1, hI.2.2.1, hI.2.2.2.1, hv⟩
theorem mov_ns {S : St} {q r : Nat} {i j n : Int64} : sNs (movS S q r i j n).2 = sNs S ∧ sPt (movS S q r i j n).2 = sPt S ∧ sKd (movS S q r i j n).2 = sKd S ∧ sPl (movS S q r i j n).2 = sPl S ∧ sNb (movS S q r i j n).2 = sNb S ∧ sPe (movS S q r i j n).2 = sPe S ∧ sCo (movS S q r i j n).2 = sCo S ∧ sWv (movS S q r i j n).2 = sWv S := by
  by_cases h : hind S q r i j n = 0
  · unfold movS; rw [cif_t h]; exact ⟨rfl, rfl, rfl, rfl, rfl, rfl, rfl, rfl⟩
  · unfold movS; rw [cif_f h]; exact ⟨rfl, rfl, rfl, rfl, rfl, rfl, rfl, rfl⟩
theorem mov_lt (S : St) (q r : Nat) (i j n : Int64) : (movS S q r i j n).1 < 5 := by
  by_cases h : hind S q r i j n = 0
  · unfold movS; rw [cif_t h]; unfold movD; dsimp only; split <;> omega
  · unfold movS; rw [cif_f h]; have := hind_le S q r i j n; unfold movN; dsimp only; omega
/-! a round -/
theorem stp_of {S : St} {j q r : Nat} (hq : q < 8) (hr : r < 8) (eq : sPt S 0 j = nI q) (er : sPt S 2 j = nI r) : stp S j = movS S q r (sPt S 1 j).toInt64 (sPt S 3 j).toInt64 (sPt S 4 j).toInt64 := by
  unfold stp
  rw [eq, er, nI_clamp (by omega), nI_clamp (by omega)]
theorem stp_inv {S : St} (hI : Inv S) {j : Nat} (hj : j < sNs S) : Inv (stp S j).2 := by
  obtain ⟨⟨q, hq, eq⟩, r, hr, er⟩ := hI.2.2.2.1 j hj
  rw [stp_of hq hr eq er]
  exact mov_inv hI hq hr (sml_i _) (sml_i _) (sml_i _)
theorem stp_ns {S : St} {j : Nat} : sNs (stp S j).2 = sNs S := mov_ns.1
theorem wrd_step {S : St} {m j : Nat} (h : j < m) (hz : (stp S j).1 = 0) : wrd (m - j) j S = wrd (m - (j + 1)) (j + 1) (stp S j).2 := by
  rw [show m - j = (m - (j + 1)) + 1 by omega]
  show (if (stp S j).1 = 0 then wrd (m - (j + 1)) (j + 1) (stp S j).2 else (j, (stp S j).2)) = _
  rw [if_pos hz]
theorem wrd_stop {S : St} {m j : Nat} (h : j < m) (hz : ¬ (stp S j).1 = 0) : wrd (m - j) j S = (j, (stp S j).2) := by
  rw [show m - j = (m - (j + 1)) + 1 by omega]
  show (if (stp S j).1 = 0 then wrd (m - (j + 1)) (j + 1) (stp S j).2 else (j, (stp S j).2)) = _
  rw [if_neg hz]
theorem wrd_inv : ∀ (n j : Nat) (S : St), Inv S → j + n ≤ sNs S → Inv (wrd n j S).2 ∧ sNs (wrd n j S).2 = sNs S ∧ (wrd n j S).1 ≤ j + n
  | 0, j, S, hI, hj => ⟨hI, rfl, by simp [wrd]⟩
  | n + 1, j, S, hI, hj => by
    unfold wrd
    split
    · have := wrd_inv n (j + 1) (stp S j).2 (stp_inv hI (by omega)) (by rw [stp_ns]; omega)
      rw [stp_ns] at this
      exact ⟨this.1, this.2.1, by omega⟩
    · exact ⟨stp_inv hI (by omega), stp_ns, by dsimp only; omega⟩
theorem rnd_inv {S : St} (hI : Inv S) : Inv (rnd S).2 ∧ sNs (rnd S).2 = sNs S ∧ (rnd S).1 ≤ sNs S := by
  have := wrd_inv (sNs S) 0 S hI (by omega)
  exact ⟨this.1, this.2.1, by have := this.2.2; unfold rnd; omega⟩
theorem wrd_kd : ∀ (n j : Nat) (S : St), sKd (wrd n j S).2 = sKd S ∧ sPl (wrd n j S).2 = sPl S ∧ sNb (wrd n j S).2 = sNb S ∧ sPt (wrd n j S).2 = sPt S ∧ sPe (wrd n j S).2 = sPe S ∧ sCo (wrd n j S).2 = sCo S ∧ sWv (wrd n j S).2 = sWv S
  | 0, j, S => ⟨rfl, rfl, rfl, rfl, rfl, rfl, rfl⟩
  | n + 1, j, S => by
    unfold wrd
    have h := mov_ns (S := S) (q := (sPt S 0 j).toNatClampNeg) (r := (sPt S 2 j).toNatClampNeg) (i := (sPt S 1 j).toInt64) (j := (sPt S 3 j).toInt64) (n := (sPt S 4 j).toInt64)
    change sNs (stp S j).2 = _ ∧ sPt (stp S j).2 = _ ∧ sKd (stp S j).2 = _ ∧ sPl (stp S j).2 = _ ∧ sNb (stp S j).2 = _ ∧ sPe (stp S j).2 = _ ∧ sCo (stp S j).2 = _ ∧ sWv (stp S j).2 = _ at h
    split
    · have := wrd_kd n (j + 1) (stp S j).2
      exact ⟨this.1.trans h.2.2.1, this.2.1.trans h.2.2.2.1, this.2.2.1.trans h.2.2.2.2.1, this.2.2.2.1.trans h.2.1, this.2.2.2.2.1.trans h.2.2.2.2.2.1, this.2.2.2.2.2.1.trans h.2.2.2.2.2.2.1, this.2.2.2.2.2.2.trans h.2.2.2.2.2.2.2⟩
    · exact ⟨h.2.2.1, h.2.2.2.1, h.2.2.2.2.1, h.2.1, h.2.2.2.2.2.1, h.2.2.2.2.2.2.1, h.2.2.2.2.2.2.2⟩
theorem rnd_back {S : St} (hI : Inv S) : Inv (uCe (rnd S).2 (sCe S)) := by
  have h := (rnd_inv hI).1
  have k := wrd_kd (sNs S) 0 S
  change sKd (rnd S).2 = _ ∧ sPl (rnd S).2 = _ ∧ sNb (rnd S).2 = _ ∧ sPt (rnd S).2 = _ ∧ _ at k
  refine ⟨h.1, h.2.1, h.2.2.1, h.2.2.2.1, fun r hr hk q hq => ?_⟩
  change sKd (rnd S).2 r = 7 ∨ sKd (rnd S).2 r = 8 at hk
  change q < sPl (rnd S).2 r at hq
  rw [k.1] at hk
  rw [k.2.1] at hq
  have := hI.2.2.2.2 r hr hk q hq
  show sCe S r q = -1 ∨ ∃ j, j < sNb (rnd S).2 ∧ sCe S r q = lN j
  rw [k.2.2.1]
  exact this
theorem wvs_inv (w : Prop) : ∀ (n d : Nat) (S : St), Inv S → Inv (wvs w n d S).2
  | 0, d, S, hI => hI
  | n + 1, d, S, hI => by
    unfold wvs
    split
    · exact wvs_inv w n _ _ (rnd_inv hI).1
    · by_cases h : w
      · rw [cif_t h]; exact rnd_back hI
      · rw [cif_f h]; exact (rnd_inv hI).1
theorem wvs_go {w : Prop} {S : St} {m j d : Nat} (h : j < m) (hz : (rnd S).1 = sNs S) : wvs w (m - j) d S = wvs w (m - (j + 1)) (d + (rnd S).1) (uWv (rnd S).2 (sWv (rnd S).2 + nI 1)) := by
  rw [show m - j = (m - (j + 1)) + 1 by omega]
  exact if_pos hz
theorem wvs_stop {w : Prop} {S : St} {m j d : Nat} (h : j < m) (hz : ¬ (rnd S).1 = sNs S) : wvs w (m - j) d S = cif w (d, uCe (rnd S).2 (sCe S)) (d + (rnd S).1, (rnd S).2) := by
  rw [show m - j = (m - (j + 1)) + 1 by omega]
  exact if_neg hz
theorem rackAt_nI {a : Nat → Nat} {q : Nat} {o : Option Nat} (hq : q < 8) (hp : (ix (nI q) 8 = none ∧ o = none) ∨ ∃ r, r < 8 ∧ nI q = nI r ∧ ix (nI q) 8 = some r ∧ o = some (a (r + 11))) : o = some (a (q + 11)) := by
  have h := ix_nI hq (by decide)
  rcases hp with ⟨h1, _⟩ | ⟨r, _, _, h1, h2⟩
  · rw [h] at h1; cases h1
  · rw [h] at h1; cases h1; exact h2
theorem pfx_step {f g : Nat → Int64} {m p : Nat} (h : p < m) (hz : f p = g p) : pfx f g (m - p) p = pfx f g (m - (p + 1)) (p + 1) := by
  rw [show m - p = (m - (p + 1)) + 1 by omega]
  exact if_pos hz
theorem pfx_stop {f g : Nat → Int64} {m p : Nat} (h : p < m) (hz : ¬ f p = g p) : pfx f g (m - p) p = p := by
  rw [show m - p = (m - (p + 1)) + 1 by omega]
  exact if_neg hz
theorem shs_step {S : St} {r m p : Nat} {z : Int64} (h : p < m) : shs S r (m - p) p z = shs S r (m - (p + 1)) (p + 1) (z + shg S r p) := by
  rw [show m - p = (m - (p + 1)) + 1 by omega]
  rfl
