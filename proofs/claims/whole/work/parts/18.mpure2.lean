def cmC (S : St) (q r i n k : Nat) : Nat → Prop := fun c => if sKd S r = 8 then cmn S (sCe S q) i (n - k) k = c else n = c
theorem cmC_0 (S : St) (q r i n : Nat) : cmC S q r i n 0 (comeC S q r i n) := by
  unfold cmC comeC
  by_cases h : sKd S r = 8
  · rw [if_pos h, if_pos h]; rfl
  · rw [if_neg h, if_neg h]
theorem cmC_step {S : St} {q r i n k c : Nat} (hk : k < n) (hm : sKd S r = 8 → mayL S 8 (sCe S q (i + k))) (h : cmC S q r i n k c) : cmC S q r i n (k + 1) c := by
  unfold cmC at h ⊢
  by_cases h8 : sKd S r = 8
  · rw [if_pos h8] at h ⊢; exact (cmn_step hk (hm h8)).symm.trans h
  · rw [if_neg h8] at h ⊢; exact h
theorem cmC_stop {S : St} {q r i n k c : Nat} (hk : k < n) (h8 : sKd S r = 8) (hm : ¬ mayL S 8 (sCe S q (i + k))) (h : cmC S q r i n k c) : c = k := by
  unfold cmC at h
  rw [if_pos h8, cmn_stop hk hm] at h
  exact h.symm
theorem cmC_end {S : St} {q r i n c : Nat} (h : cmC S q r i n n c) : c = n := by
  unfold cmC at h
  by_cases h8 : sKd S r = 8
  · rw [if_pos h8, Nat.sub_self] at h; exact h.symm
  · rw [if_neg h8] at h; exact h.symm
theorem RM_movN {M : MS} (hR : RM M) {w : Nat} (h1 : 1 ≤ w) (h3 : w ≤ 3) (A : Nat → Int64) : RM ((movN M.1 w).2, mF M, mB M, A, upd (mC M) w (mC M w + nI 1), mP M) := by
  refine ⟨hR.1, fun k hk1 hk4 => ?_, ?_, hR.2.2.2⟩
  · show upd (mC M) w (mC M w + nI 1) k = upd (sMv M.1) w (sMv M.1 w + nI 1) k
    by_cases e : k = w
    · subst e; simp [upd, hR.2.1 k hk1 hk4]
    · simp [upd, e, hR.2.1 k hk1 hk4]
  · show upd (mC M) w (mC M w + nI 1) 5 = upd (sMv M.1) w (sMv M.1 w + nI 1) 0
    simp only [upd, if_neg (show ¬ 5 = w by omega), if_neg (show ¬ 0 = w by omega)]
    exact hR.2.2.1
theorem RM_movD {M : MS} (hI : Inv M.1) (hR : RM M) {q r i j c n : Nat} (hq : q < 8) (hr : r < 8) (h1 : i + n ≤ sPl M.1 q) (h2 : j + n ≤ sPl M.1 r) (hc : c ≤ n) {g A : Nat → Int64} (hg : ∀ t, t < c → g (40 * r + j + t) = mF M (40 * q + i + t)) (ho : ∀ x, ¬ (40 * r + j ≤ x ∧ x < 40 * r + j + c) → g x = mF M x) : RM ((movD M.1 q r i j c n).2, g, mB M, A, upd (mC M) (if c < n then 4 else 5) (mC M (if c < n then 4 else 5) + nI 1), mP M) := by
  refine ⟨fun t p ht hp => ?_, fun k hk1 hk4 => ?_, ?_, hR.2.2.2⟩
  · have hp : p < sPl M.1 t := hp
    have hl := (hI.1 t ht).2
    have hlr := (hI.1 r hr).2
    show g (40 * t + p) = va_up (sCe M.1) r (va_cpy (sCe M.1 q) (sCe M.1 r) i j c) t p
    by_cases e : t = r
    · subst e
      rw [va_up_self]
      unfold va_cpy
      split
      · rename_i hin
        have e1 := hg (p - j) (by omega)
        rw [show 40 * t + j + (p - j) = 40 * t + p by omega, show 40 * q + i + (p - j) = 40 * q + (i + (p - j)) by omega] at e1
        rw [e1]
        exact hR.1 q _ hq (by omega)
      · rename_i hin
        rw [ho _ (by omega)]
        exact hR.1 t p ht hp
    · rw [va_up_ne _ _ e, ho _ (by omega)]
      exact hR.1 t p ht hp
  · show upd (mC M) (if c < n then 4 else 5) (mC M (if c < n then 4 else 5) + nI 1) k = upd (sMv M.1) (if c < n then 4 else 0) (sMv M.1 (if c < n then 4 else 0) + nI 1) k
    by_cases h : c < n
    · rw [if_pos h, if_pos h]
      by_cases e : k = 4
      · subst e; simp [upd, hR.2.1 4 (by omega) (by omega)]
      · simp [upd, e, hR.2.1 k hk1 hk4]
    · rw [if_neg h, if_neg h]
      simp only [upd, if_neg (show ¬ k = 5 by omega), if_neg (show ¬ k = 0 by omega)]
      exact hR.2.1 k hk1 hk4
  · show upd (mC M) (if c < n then 4 else 5) (mC M (if c < n then 4 else 5) + nI 1) 5 = upd (sMv M.1) (if c < n then 4 else 0) (sMv M.1 (if c < n then 4 else 0) + nI 1) 0
    by_cases h : c < n
    · rw [if_pos h, if_pos h]
      simp only [upd, if_neg (show ¬ 5 = 4 by omega), if_neg (show ¬ 0 = 4 by omega)]
      exact hR.2.2.1
    · rw [if_neg h, if_neg h]
      simp [upd, hR.2.2.1]
theorem RM_app {M : MS} (hR : RM M) (hn : sNs M.1 < 24) (x0 x1 x2 x3 x4 : Int32) : RM (appS M.1 x0 x1 x2 x3 x4, mF M, mB M, mA M, mC M, upd (upd (upd (upd (upd (mP M) (5 * sNs M.1) x0) (5 * sNs M.1 + 1) x1) (5 * sNs M.1 + 2) x2) (5 * sNs M.1 + 3) x3) (5 * sNs M.1 + 4) x4) := by
  refine ⟨hR.1, hR.2.1, hR.2.2.1, fun t j ht hj => ?_⟩
  show upd (upd (upd (upd (upd (mP M) (5 * sNs M.1) x0) (5 * sNs M.1 + 1) x1) (5 * sNs M.1 + 2) x2) (5 * sNs M.1 + 3) x3) (5 * sNs M.1 + 4) x4 (5 * j + t) = ptA M.1 x0 x1 x2 x3 x4 t j
  unfold ptA
  by_cases e : j = sNs M.1
  · rw [if_pos e, e]
    rcases (show t = 0 ∨ t = 1 ∨ t = 2 ∨ t = 3 ∨ t = 4 by omega) with rfl | rfl | rfl | rfl | rfl <;> simp [upd]
  · rw [if_neg e]
    simp only [upd]
    rw [if_neg (by omega), if_neg (by omega), if_neg (by omega), if_neg (by omega), if_neg (by omega)]
    exact hR.2.2.2 t j ht hj
theorem RM_rot {M : MS} (hI : Inv M.1) (hR : RM M) {r : Nat} (hr : r < 8) (d : Int32) {g A : Nat → Int64} (hg : turnI (fun x => mF M (40 * r + x)) (fun x => g (40 * r + x)) (sPl M.1 r) d (sPl M.1 r)) (ho : ∀ x, (x < 40 * r ∨ 40 * r + 40 ≤ x) → g x = mF M x) : RM (rotS M.1 r d, g, mB M, A, mC M, mP M) := by
  refine ⟨fun t p ht hp => ?_, hR.2.1, hR.2.2.1, hR.2.2.2⟩
  have hp : p < sPl M.1 t := hp
  have hl := (hI.1 t ht).2
  show g (40 * t + p) = va_up (sCe M.1) r (rotF (sCe M.1 r) (sPl M.1 r) d) t p
  by_cases e : t = r
  · subst e
    rw [va_up_self]
    have h1 := turnI_end hg p
    have h1 : g (40 * t + p) = rotF (fun x => mF M (40 * t + x)) (sPl M.1 t) d p := h1
    rw [h1]
    have hp2 : p < sPl M.1 t := hp
    unfold rotF
    rw [if_pos hp2, if_pos hp2]
    exact hR.1 t _ ht (src_lt (by omega) d p)
  · rw [va_up_ne _ _ e, ho _ (by omega)]
    exact hR.1 t p ht hp
theorem to_dst {n k : Nat} (h0 : 0 < n) (hn : n ≤ 40) (hk : k < n) (d : Int32) : ((lN k + d.toInt64) - (lN k + d.toInt64) / lN n * lN n).toInt = ((k : Int) + d.toInt).tmod n := by
  have h1 := Int32.toInt_lt d
  have h2 := Int32.le_toInt d
  rw [l_rem h0 (by omega), l_addT (by rw [lN_toInt (by omega)]; omega) (by rw [Int32.toInt_toInt64]; omega), lN_toInt (by omega), Int32.toInt_toInt64]
theorem to_p {n k : Nat} (h0 : 0 < n) (hn : n ≤ 40) (hk : k < n) (d : Int32) (h : lN 0 ≤ (lN k + d.toInt64) - (lN k + d.toInt64) / lN n * lN n) : (lN k + d.toInt64) - (lN k + d.toInt64) / lN n * lN n = lN (dst n d k) := by
  have e := to_dst h0 hn hk d
  rw [Int64.le_iff_toInt_le, e, show (lN 0).toInt = 0 from rfl] at h
  have e2 := i_emod_of_tmod (x := (k : Int) + d.toInt) h0
  rw [if_neg (by omega)] at e2
  exact lN_of (by rw [e, ← e2, dst_i h0])
theorem to_n {n k : Nat} (h0 : 0 < n) (hn : n ≤ 40) (hk : k < n) (d : Int32) (h : ¬ lN 0 ≤ (lN k + d.toInt64) - (lN k + d.toInt64) / lN n * lN n) : ((lN k + d.toInt64) - (lN k + d.toInt64) / lN n * lN n) + lN n = lN (dst n d k) := by
  have e := to_dst h0 hn hk d
  rw [Int64.le_iff_toInt_le, e, show (lN 0).toInt = 0 from rfl] at h
  have e2 := i_emod_of_tmod (x := (k : Int) + d.toInt) h0
  have e3 := i_tmod_facts (x := (k : Int) + d.toInt) h0
  rw [if_pos (by omega)] at e2
  refine lN_of ?_
  rw [l_addT (by rw [e]; omega) (by rw [lN_toInt (by omega)]; omega), e, lN_toInt (by omega), ← e2, dst_i h0]
