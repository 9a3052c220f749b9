set_option maxHeartbeats 4000000 in
set_option maxRecDepth 100000 in
theorem c_fitted1 (l : Launch) (G : Gx) (a : Nat → Nat) (Bz : BS) (vz : Int64) : CtL l G 35 a (EB G a) yX2_fitted cX2_fitted 3 (some .long) 0 0 [.int (nI 1), .long vz] Bz (fun v u => Bz = u ∧ v = fit 1 vz) := by
  refine ent_of (by decide) (Nat.le_of_ble_eq_true rfl) ?_
  intro p e s m below meth c ls C h hS hret hlk hl
  have C : Cx p s m _ c cX2_fitted RX2 3 G := C
  have hx := C.1
  have hb := C.2.1
  have hl : lv_has ls 3 [(0, .int (nI 1)), (1, .long vz)] := hl
  refine lv_iload_n hx hb dX2_fitted_0 rfl (lv_at hl 0 rfl) ?_
  refine lv_tableIn (off := 39) (tgt := 40) hx hb dX2_fitted_1 (by decide) (by decide) (by decide) (by decide) ?_
  refine lv_lload_n hx hb dX2_fitted_40 rfl (lv_at hl 1 rfl) ?_
  refine lv_l2i hx hb dX2_fitted_41 rfl ?_
  refine lv_i2b hx hb dX2_fitted_42 rfl ?_
  refine lv_i2l hx hb dX2_fitted_43 rfl ?_
  exact eL C hret hlk (Bz) h hS (⟨rfl, rfl⟩) dX2_fitted_44

set_option maxHeartbeats 4000000 in
set_option maxRecDepth 100000 in
theorem c_fitted2 (l : Launch) (G : Gx) (a : Nat → Nat) (Bz : BS) (vz : Int64) : CtL l G 35 a (EB G a) yX2_fitted cX2_fitted 3 (some .long) 0 0 [.int (nI 2), .long vz] Bz (fun v u => Bz = u ∧ v = fit 2 vz) := by
  refine ent_of (by decide) (Nat.le_of_ble_eq_true rfl) ?_
  intro p e s m below meth c ls C h hS hret hlk hl
  have C : Cx p s m _ c cX2_fitted RX2 3 G := C
  have hx := C.1
  have hb := C.2.1
  have hl : lv_has ls 3 [(0, .int (nI 2)), (1, .long vz)] := hl
  refine lv_iload_n hx hb dX2_fitted_0 rfl (lv_at hl 0 rfl) ?_
  refine lv_tableIn (off := 44) (tgt := 45) hx hb dX2_fitted_1 (by decide) (by decide) (by decide) (by decide) ?_
  refine lv_lload_n hx hb dX2_fitted_45 rfl (lv_at hl 1 rfl) ?_
  refine lv_l2i hx hb dX2_fitted_46 rfl ?_
  refine lv_i2s hx hb dX2_fitted_47 rfl ?_
  refine lv_i2l hx hb dX2_fitted_48 rfl ?_
  exact eL C hret hlk (Bz) h hS (⟨rfl, rfl⟩) dX2_fitted_49

set_option maxHeartbeats 4000000 in
set_option maxRecDepth 100000 in
theorem c_fitted3 (l : Launch) (G : Gx) (a : Nat → Nat) (Bz : BS) (vz : Int64) : CtL l G 35 a (EB G a) yX2_fitted cX2_fitted 3 (some .long) 0 0 [.int (nI 3), .long vz] Bz (fun v u => Bz = u ∧ v = fit 3 vz) := by
  refine ent_of (by decide) (Nat.le_of_ble_eq_true rfl) ?_
  intro p e s m below meth c ls C h hS hret hlk hl
  have C : Cx p s m _ c cX2_fitted RX2 3 G := C
  have hx := C.1
  have hb := C.2.1
  have hl : lv_has ls 3 [(0, .int (nI 3)), (1, .long vz)] := hl
  refine lv_iload_n hx hb dX2_fitted_0 rfl (lv_at hl 0 rfl) ?_
  refine lv_tableIn (off := 49) (tgt := 50) hx hb dX2_fitted_1 (by decide) (by decide) (by decide) (by decide) ?_
  refine lv_lload_n hx hb dX2_fitted_50 rfl (lv_at hl 1 rfl) ?_
  refine lv_l2i hx hb dX2_fitted_51 rfl ?_
  refine lv_i2c hx hb dX2_fitted_52 rfl ?_
  refine lv_i2l hx hb dX2_fitted_53 rfl ?_
  exact eL C hret hlk (Bz) h hS (⟨rfl, rfl⟩) dX2_fitted_54

set_option maxHeartbeats 4000000 in
set_option maxRecDepth 100000 in
theorem c_fitted4 (l : Launch) (G : Gx) (a : Nat → Nat) (Bz : BS) (vz : Int64) : CtL l G 35 a (EB G a) yX2_fitted cX2_fitted 3 (some .long) 0 0 [.int (nI 4), .long vz] Bz (fun v u => Bz = u ∧ v = fit 4 vz) := by
  refine ent_of (by decide) (Nat.le_of_ble_eq_true rfl) ?_
  intro p e s m below meth c ls C h hS hret hlk hl
  have C : Cx p s m _ c cX2_fitted RX2 3 G := C
  have hx := C.1
  have hb := C.2.1
  have hl : lv_has ls 3 [(0, .int (nI 4)), (1, .long vz)] := hl
  refine lv_iload_n hx hb dX2_fitted_0 rfl (lv_at hl 0 rfl) ?_
  refine lv_tableIn (off := 54) (tgt := 55) hx hb dX2_fitted_1 (by decide) (by decide) (by decide) (by decide) ?_
  refine lv_lload_n hx hb dX2_fitted_55 rfl (lv_at hl 1 rfl) ?_
  refine lv_l2i hx hb dX2_fitted_56 rfl ?_
  refine lv_i2l hx hb dX2_fitted_57 rfl ?_
  exact eL C hret hlk (Bz) h hS (⟨rfl, rfl⟩) dX2_fitted_58

set_option maxHeartbeats 4000000 in
set_option maxRecDepth 100000 in
theorem c_fitted5 (l : Launch) (G : Gx) (a : Nat → Nat) (Bz : BS) (vz : Int64) : CtL l G 35 a (EB G a) yX2_fitted cX2_fitted 3 (some .long) 0 0 [.int (nI 5), .long vz] Bz (fun v u => Bz = u ∧ v = fit 5 vz) := by
  refine ent_of (by decide) (Nat.le_of_ble_eq_true rfl) ?_
  intro p e s m below meth c ls C h hS hret hlk hl
  have C : Cx p s m _ c cX2_fitted RX2 3 G := C
  have hx := C.1
  have hb := C.2.1
  have hl : lv_has ls 3 [(0, .int (nI 5)), (1, .long vz)] := hl
  refine lv_iload_n hx hb dX2_fitted_0 rfl (lv_at hl 0 rfl) ?_
  refine lv_tableIn (off := 70) (tgt := 71) hx hb dX2_fitted_1 (by decide) (by decide) (by decide) (by decide) ?_
  refine lv_lload_n hx hb dX2_fitted_71 rfl (lv_at hl 1 rfl) ?_
  exact eL C hret hlk (Bz) h hS (⟨rfl, rfl⟩) dX2_fitted_72

set_option maxHeartbeats 4000000 in
set_option maxRecDepth 100000 in
theorem c_fitted6 (l : Launch) (G : Gx) (a : Nat → Nat) (Bz : BS) (vz : Int64) : CtL l G 35 a (EB G a) yX2_fitted cX2_fitted 3 (some .long) 0 0 [.int (nI 6), .long vz] Bz (fun v u => Bz = u ∧ v = fit 6 vz) := by
  refine ent_of (by decide) (Nat.le_of_ble_eq_true rfl) ?_
  intro p e s m below meth c ls C h hS hret hlk hl
  have C : Cx p s m _ c cX2_fitted RX2 3 G := C
  have hx := C.1
  have hb := C.2.1
  have hl : lv_has ls 3 [(0, .int (nI 6)), (1, .long vz)] := hl
  refine lv_iload_n hx hb dX2_fitted_0 rfl (lv_at hl 0 rfl) ?_
  refine lv_tableIn (off := 58) (tgt := 59) hx hb dX2_fitted_1 (by decide) (by decide) (by decide) (by decide) ?_
  refine lv_lload_n hx hb dX2_fitted_59 rfl (lv_at hl 1 rfl) ?_
  refine lv_lconst (v := lN 0) hx hb dX2_fitted_60 rfl ?_
  refine W.lcmp hx hb dX2_fitted_61 ?_
  refine lv_if_ne (tgt := 69) hx hb dX2_fitted_62 (by decide) (fun c62 => ?_) (fun c62 => ?_)
  · have c62 : ¬ vz = (lN 0) := fun q => c62 ((lg_cmp_eq _ _).mpr q)
    refine lv_lconst (v := lN 1) hx hb dX2_fitted_69 rfl ?_
    exact eL C hret hlk (Bz) h hS (⟨rfl, (if_neg c62).symm⟩) dX2_fitted_70
  · have c62 : vz = (lN 0) := (lg_cmp_eq _ _).mp c62
    refine lv_lconst (v := lN 0) hx hb dX2_fitted_65 rfl ?_
    refine lv_goto (tgt := 70) hx hb dX2_fitted_66 (by decide) ?_
    exact eL C hret hlk (Bz) h hS (⟨rfl, (if_pos c62).symm⟩) dX2_fitted_70

set_option maxHeartbeats 4000000 in
set_option maxRecDepth 100000 in
theorem c_fitted7 (l : Launch) (G : Gx) (a : Nat → Nat) (Bz : BS) (vz : Int64) : CtL l G 35 a (EB G a) yX2_fitted cX2_fitted 3 (some .long) 0 0 [.int (nI 7), .long vz] Bz (fun v u => Bz = u ∧ v = fit 7 vz) := by
  refine ent_of (by decide) (Nat.le_of_ble_eq_true rfl) ?_
  intro p e s m below meth c ls C h hS hret hlk hl
  have C : Cx p s m _ c cX2_fitted RX2 3 G := C
  have hx := C.1
  have hb := C.2.1
  have hl : lv_has ls 3 [(0, .int (nI 7)), (1, .long vz)] := hl
  refine lv_iload_n hx hb dX2_fitted_0 rfl (lv_at hl 0 rfl) ?_
  refine lv_tableOut (tgt := 71) hx hb dX2_fitted_1 (by decide) (by decide) ?_
  refine lv_lload_n hx hb dX2_fitted_71 rfl (lv_at hl 1 rfl) ?_
  exact eL C hret hlk (Bz) h hS (⟨rfl, rfl⟩) dX2_fitted_72

set_option maxHeartbeats 4000000 in
set_option maxRecDepth 100000 in
theorem c_fitted8 (l : Launch) (G : Gx) (a : Nat → Nat) (Bz : BS) (vz : Int64) : CtL l G 35 a (EB G a) yX2_fitted cX2_fitted 3 (some .long) 0 0 [.int (nI 8), .long vz] Bz (fun v u => Bz = u ∧ v = fit 8 vz) := by
  refine ent_of (by decide) (Nat.le_of_ble_eq_true rfl) ?_
  intro p e s m below meth c ls C h hS hret hlk hl
  have C : Cx p s m _ c cX2_fitted RX2 3 G := C
  have hx := C.1
  have hb := C.2.1
  have hl : lv_has ls 3 [(0, .int (nI 8)), (1, .long vz)] := hl
  refine lv_iload_n hx hb dX2_fitted_0 rfl (lv_at hl 0 rfl) ?_
  refine lv_tableOut (tgt := 71) hx hb dX2_fitted_1 (by decide) (by decide) ?_
  refine lv_lload_n hx hb dX2_fitted_71 rfl (lv_at hl 1 rfl) ?_
  exact eL C hret hlk (Bz) h hS (⟨rfl, rfl⟩) dX2_fitted_72

theorem c_fitted (l : Launch) (G : Gx) (a : Nat → Nat) (Bz : BS) (k : Nat) (h1 : 1 ≤ k) (h8 : k ≤ 8) (vz : Int64) : CtL l G 35 a (EB G a) yX2_fitted cX2_fitted 3 (some .long) 0 0 [.int (nI k), .long vz] Bz (fun v u => Bz = u ∧ v = fit k vz) := by
  match k, h1, h8 with
  | 1, _, _ => exact c_fitted1 l G a Bz vz
  | 2, _, _ => exact c_fitted2 l G a Bz vz
  | 3, _, _ => exact c_fitted3 l G a Bz vz
  | 4, _, _ => exact c_fitted4 l G a Bz vz
  | 5, _, _ => exact c_fitted5 l G a Bz vz
  | 6, _, _ => exact c_fitted6 l G a Bz vz
  | 7, _, _ => exact c_fitted7 l G a Bz vz
  | 8, _, _ => exact c_fitted8 l G a Bz vz

theorem va_up_id {α : Type} (f : Nat → α) (k : Nat) : va_up f k (f k) = f := by
  funext j
  by_cases h : j = k
  · rw [h, va_up_self]
  · rw [va_up_ne _ _ h]

set_option maxHeartbeats 4000000 in
set_option maxRecDepth 100000 in
theorem c_hold (l : Launch) (G : Gx) (a : Nat → Nat) (Bz : BS) (r : Nat) (hr : r < 8) (k nz : Nat) (hk : k ≤ 9) (hnz : nz ≤ 40) : CtV l G 35 a (EB G a) yX1_hold cX1_hold 4 none 2 40 [.ref (a (r + 11)), .int (nI k), .int (nI nz)] Bz (fun u => (holdS Bz.1 r k nz, Bz.2) = u) := by
  refine ent_of (by decide) (Nat.le_of_ble_eq_true rfl) ?_
  intro p e s m below meth c ls C h hS hret hlk hl
  have C : Cx p s m _ c cX1_hold RX1 4 G := C
  have hx := C.1
  have hb := C.2.1
  have hl : lv_has ls 4 [(0, .ref (a (r + 11))), (1, .int (nI k)), (2, .int (nI nz))] := hl
  have lp : ∀ (n : Nat) (j : Nat) (g : Nat → Int64) (H : Heap) (locs : List Loc) (ls : Array Slot), (j ≤ 40) → (40 < j + n) → (∀ t, t < j → g t = blk k) →  HW G.1 35 a (EB G a ((uCe (uPl (uKd Bz.1 (va_up (sKd Bz.1) r k)) (va_up (sPl Bz.1) r nz)) (va_up (sCe Bz.1) r g), Bz.2))) H → va_S (Aw 35 a) s.heap H locs → lv_has ls 4 [(0, .ref (a (r + 11))), (1, .int (nI k)), (2, .int (nI nz)), (3, .int (nI j))] → W p l e (rmB 2 40) s m ([.ref (a (r + 11)), .int (nI k), .int (nI nz)].toArray) below meth c H locs 0 0 (MQ below (va_Qv (fun u => (holdS Bz.1 r k nz, Bz.2) = u) (fun u t => HW G.1 35 a (EB G a u) t.heap) (Aw 35 a)) ([.ref (a (r + 11)), .int (nI k), .int (nI nz)].toArray) s 0 0 (Aw 35 a)) (F0 m 12 ls []) := by
    intro n
    induction n with
    | zero =>
      intro j g H locs ls hj hn hg
      exact absurd hn (by omega)
    | succ n ih =>
      intro j g H locs ls hj hn hg h hS hl
      refine lv_iload_n hx hb dX1_hold_12 rfl (lv_at hl 3 rfl) ?_
      refine lv_bipush (v := nI 40) hx hb dX1_hold_13 (by decide) ?_
      refine lv_icmp_ge (tgt := 34) hx hb dX1_hold_15 (by decide) (fun c15 => ?_) (fun c15 => ?_)
      · skip
        have hj40 : j = 40 := by rw [nI_leI (by omega) (by omega)] at c15; omega
        subst hj40
        exact eV C hret hlk (holdS Bz.1 r k nz, Bz.2) (HB_eq h ⟨fun _ _ => ⟨rfl, rfl⟩, fun t q _ hq => by show va_up (sCe Bz.1) r g t q = va_up (sCe Bz.1) r (fun _ => blk k) t q; by_cases ht : t = r; (rw [ht, va_up_self, va_up_self]; exact hg q hq); (rw [va_up_ne _ _ ht, va_up_ne _ _ ht]), fun _ _ _ _ => rfl, rfl, fun _ _ => rfl, fun _ _ => rfl, rfl, fun _ _ _ _ => rfl, rfl, fun _ _ => rfl, rfl⟩) hS rfl dX1_hold_34
      · skip
        have hj40 : j < 40 := by rw [nI_leI (by omega) (by omega)] at c15; omega
        refine lv_aload_n hx hb dX1_hold_18 rfl (lv_at hl 0 rfl) ?_
        refine fg_X1_9 C h (by first | assumption | omega) dX1_hold_19 ?_
        refine lv_iload_n hx hb dX1_hold_22 rfl (lv_at hl 3 rfl) ?_
        refine lv_iload_n hx hb dX1_hold_23 rfl (lv_at hl 1 rfl) ?_
        refine kL (rSN (As := [.int (nI k)]) (rest := [.int (nI j), .ref (a (r + 19))]) C h lk_X1_25 (c_blank l G a _ k hk) ⟨Nat.le_of_ble_eq_true rfl, Nat.le_of_ble_eq_true rfl⟩ hl.1 rfl rfl (Nat.le_of_ble_eq_true rfl) dX1_hold_24 ⟨Nat.zero_le _, Nat.zero_le _⟩) hS (fun rv u H locs hp h hS => ?_)
        obtain ⟨rfl, rfl⟩ := hp
        refine as_ce C h hS (by first | assumption | omega) (by first | assumption | omega) dX1_hold_27 (fun H locs h hS => ?_)
        refine lv_iinc (v := nI (j + 1)) (lv' := [(3, .int (nI (j + 1))), (0, .ref (a (r + 11))), (1, .int (nI k)), (2, .int (nI nz))]) hx hb dX1_hold_28 hl (k := 3) rfl (nI_1 j) (by decide) rfl (fun ls hl => ?_)
        refine lv_goto (tgt := 12) hx hb dX1_hold_31 (by decide) ?_
        exact ih (j + 1) (vp_updL g j (blk k)) _ _ _ (by omega) (by omega) (fun t ht => by by_cases hh : t = j <;> simp [vp_updL, hh]; exact hg t (by omega)) (by simpa only [sKd, sPl, sCe, sNb, sCo, sPe, sNs, sPt, sCm, sMv, sWv, uKd, uPl, uCe, uNb, uCo, uPe, uNs, uPt, uCm, uMv, uWv, bx_uu, va_up_self, va_up_id] using h) hS (lv_sub hl [1, 2, 3, 0] rfl)
  refine lv_aload_n hx hb dX1_hold_0 rfl (lv_at hl 0 rfl) ?_
  refine lv_iload_n hx hb dX1_hold_1 rfl (lv_at hl 1 rfl) ?_
  refine fp_X1_18 C h hS (by first | assumption | omega) dX1_hold_2 (fun H locs h hS => ?_)
  refine lv_aload_n hx hb dX1_hold_5 rfl (lv_at hl 0 rfl) ?_
  refine lv_iload_n hx hb dX1_hold_6 rfl (lv_at hl 2 rfl) ?_
  refine fp_X1_22 C h hS (by first | assumption | omega) dX1_hold_7 (fun H locs h hS => ?_)
  refine lv_iconst (v := nI 0) hx hb dX1_hold_10 (by decide) ?_
  refine lv_istore_n (lv' := [(3, .int (nI 0)), (0, .ref (a (r + 11))), (1, .int (nI k)), (2, .int (nI nz))]) hx hb dX1_hold_11 rfl hl (by decide) rfl (fun ls hl => ?_)
  exact lp 41 0 (sCe Bz.1 r) _ _ _ (by omega) (by omega) (fun t ht => absurd ht (by omega)) (by simpa only [sKd, sPl, sCe, sNb, sCo, sPe, sNs, sPt, sCm, sMv, sWv, uKd, uPl, uCe, uNb, uCo, uPe, uNs, uPt, uCm, uMv, uWv, bx_uu, va_up_self, va_up_id] using h) hS (lv_sub hl [1, 2, 3, 0] rfl)


set_option maxHeartbeats 4000000 in
set_option maxRecDepth 100000 in
theorem c_rowAt (l : Launch) (G : Gx) (a : Nat → Nat) (Bz : BS) (hI : Inv Bz.1) (xz : Int32) : CtQ l G 35 a (EB G a) yX2_rowAt cX2_rowAt 3 (some (.object "BeadLoom$Rack")) 1 21 [.ref (a 0), .int xz] Bz (fun o u => Bz = u ∧ ((row Bz.1 xz = none ∧ o = none) ∨ ∃ r, r < 8 ∧ xz = nI r ∧ row Bz.1 xz = some r ∧ ¬ sKd Bz.1 r = 0 ∧ ¬ sKd Bz.1 r = 9 ∧ o = some (a (r + 11)))) := by
  refine ent_of (by decide) (Nat.le_of_ble_eq_true rfl) ?_
  intro p e s m below meth c ls C h hS hret hlk hl
  have C : Cx p s m _ c cX2_rowAt RX2 3 G := C
  have hx := C.1
  have hb := C.2.1
  have hl : lv_has ls 3 [(0, .ref (a 0)), (1, .int xz)] := hl
  refine lv_aload_n hx hb dX2_rowAt_0 rfl (lv_at hl 0 rfl) ?_
  refine lv_iload_n hx hb dX2_rowAt_1 rfl (lv_at hl 1 rfl) ?_
  refine kQ (rV (As := [.int xz]) (rest := []) C h lk_X2_44 0 (by decide) rfl rfl rfl (c_rackAt l G a _ xz) ⟨Nat.le_of_ble_eq_true rfl, Nat.le_of_ble_eq_true rfl⟩ hl.1 rfl rfl (Nat.le_of_ble_eq_true rfl) dX2_rowAt_2 ⟨Nat.zero_le _, Nat.zero_le _⟩) hS (fun rv u H locs hp h hS => ?_)
  obtain ⟨rfl, ⟨hrk, rfl⟩ | ⟨r, hr, rfl, hrk, rfl⟩⟩ := hp
  · skip
    refine lv_astore_nN (lv' := [(2, .null), (0, .ref (a 0)), (1, .int xz)]) hx hb dX2_rowAt_5 rfl hl (by decide) rfl (fun ls hl => ?_)
    refine lv_aload_nN hx hb dX2_rowAt_6 rfl (lv_at hl 0 rfl) ?_
    refine lv_ifnullN (tgt := 21) hx hb dX2_rowAt_7 (by decide) ?_
    refine lv_null hx hb dX2_rowAt_21 ?_
    exact eQ (none) C hret hlk (Bz) h hS (⟨rfl, Or.inl ⟨by simp [row, hrk], rfl⟩⟩) dX2_rowAt_22
  · skip
    refine lv_astore_n (lv' := [(2, .ref (a (r + 11))), (0, .ref (a 0)), (1, .int (nI r))]) hx hb dX2_rowAt_5 rfl hl (by decide) rfl (fun ls hl => ?_)
    refine lv_aload_n hx hb dX2_rowAt_6 rfl (lv_at hl 0 rfl) ?_
    refine lv_ifnull hx hb dX2_rowAt_7 ?_
    refine lv_aload_n hx hb dX2_rowAt_10 rfl (lv_at hl 0 rfl) ?_
    refine kI (rVN (As := []) (rest := []) C h lk_X2_134 (r + 11) (by omega) (EB_r _ _ _ (by first | assumption | omega)) rfl rfl (c_hasRow l G a _ r hr (hI.1 r hr).1) ⟨Nat.le_of_ble_eq_true rfl, Nat.le_of_ble_eq_true rfl⟩ hl.1 rfl rfl (Nat.le_of_ble_eq_true rfl) dX2_rowAt_11 ⟨Nat.zero_le _, Nat.zero_le _⟩) hS (fun rv u H locs hp h hS => ?_)
    obtain ⟨rfl, rfl⟩ := hp
    by_cases hP : ¬ (sKd Bz.1 r = 0 ∨ sKd Bz.1 r = 9)
    · refine lw_ti (b2i_t hP) ?_
      refine lv_if_eq (tgt := 21) hx hb dX2_rowAt_14 (by decide) (fun c0 => absurd c0 (by decide)) (fun _ => ?_)
      refine lv_aload_n hx hb dX2_rowAt_17 rfl (lv_at hl 0 rfl) ?_
      refine lv_goto (tgt := 22) hx hb dX2_rowAt_18 (by decide) ?_
      exact eQ (some (a (r + 11))) C hret hlk (Bz) h hS (⟨rfl, Or.inr ⟨r, hr, rfl, by simp [row, hrk, hP], fun q => hP (Or.inl q), fun q => hP (Or.inr q), rfl⟩⟩) dX2_rowAt_22
    · refine lw_ti (b2i_f hP) ?_
      refine lv_if_eq (tgt := 21) hx hb dX2_rowAt_14 (by decide) (fun _ => ?_) (fun c0 => absurd c0 (by decide))
      refine lv_null hx hb dX2_rowAt_21 ?_
      exact eQ (none) C hret hlk (Bz) h hS (⟨rfl, Or.inl ⟨by simp [row, hrk, Classical.not_not.mp hP], rfl⟩⟩) dX2_rowAt_22

set_option maxHeartbeats 4000000 in
set_option maxRecDepth 100000 in
theorem c_append (l : Launch) (G : Gx) (a : Nat → Nat) (Bz : BS) (hk : sNs Bz.1 < 24) (x0 x1 x2 x3 x4 : Int32) : CtV l G 35 a (EB G a) yX0_append cX0_append 6 none 1 20 [.ref (a 4), .int x0, .int x1, .int x2, .int x3, .int x4] Bz (fun u => (appS Bz.1 x0 x1 x2 x3 x4, Bz.2) = u) := by
  refine ent_of (by decide) (Nat.le_of_ble_eq_true rfl) ?_
  intro p e s m below meth c ls C h hS hret hlk hl
  have C : Cx p s m _ c cX0_append RX0 6 G := C
  have hx := C.1
  have hb := C.2.1
  have hl : lv_has ls 6 [(0, .ref (a 4)), (1, .int x0), (2, .int x1), (3, .int x2), (4, .int x3), (5, .int x4)] := hl
  refine lv_aload_n hx hb dX0_append_0 rfl (lv_at hl 0 rfl) ?_
  refine kI (rV (As := []) (rest := []) C h lk_X0_31 4 (by decide) rfl rfl rfl (c_isFull l G a _ (by omega)) ⟨Nat.le_of_ble_eq_true rfl, Nat.le_of_ble_eq_true rfl⟩ hl.1 rfl rfl (Nat.le_of_ble_eq_true rfl) dX0_append_1 ⟨Nat.zero_le _, Nat.zero_le _⟩) hS (fun rv u H locs hp h hS => ?_)
  obtain ⟨rfl, rfl⟩ := hp
  refine lw_ti (b2i_f (by omega)) ?_
  refine lv_if_eq (tgt := 8) hx hb dX0_append_4 (by decide) (fun _ => ?_) (fun c0 => absurd c0 (by decide))
  refine lv_aload_n hx hb dX0_append_8 rfl (lv_at hl 0 rfl) ?_
  refine fg_X0_9 C h dX0_append_9 ?_
  refine lv_aload_n hx hb dX0_append_12 rfl (lv_at hl 0 rfl) ?_
  refine fg_X0_27 C h dX0_append_13 ?_
  refine lv_iload_n hx hb dX0_append_16 rfl (lv_at hl 1 rfl) ?_
  refine as_pt0 C h hS (by first | assumption | omega) dX0_append_17 (fun H locs h hS => ?_)
  refine lv_aload_n hx hb dX0_append_18 rfl (lv_at hl 0 rfl) ?_
  refine fg_X0_15 C h dX0_append_19 ?_
  refine lv_aload_n hx hb dX0_append_22 rfl (lv_at hl 0 rfl) ?_
  refine fg_X0_27 C h dX0_append_23 ?_
  refine lw_ti (show (nI (sNs ((uPt Bz.1 (va_up (sPt Bz.1) 0 (upd (sPt Bz.1 0) (sNs Bz.1) x0)), Bz.2)).1) : Int32) = nI ((sNs Bz.1)) from rfl) ?_
  refine lv_iload_n hx hb dX0_append_26 rfl (lv_at hl 2 rfl) ?_
  refine as_pt1 C h hS (by first | assumption | omega) dX0_append_27 (fun H locs h hS => ?_)
  refine lv_aload_n hx hb dX0_append_28 rfl (lv_at hl 0 rfl) ?_
  refine fg_X0_18 C h dX0_append_29 ?_
  refine lv_aload_n hx hb dX0_append_32 rfl (lv_at hl 0 rfl) ?_
  refine fg_X0_27 C h dX0_append_33 ?_
  refine lw_ti (show (nI (sNs ((uPt ((uPt Bz.1 (va_up (sPt Bz.1) 0 (upd (sPt Bz.1 0) (sNs Bz.1) x0)), Bz.2)).1 (va_up (sPt ((uPt Bz.1 (va_up (sPt Bz.1) 0 (upd (sPt Bz.1 0) (sNs Bz.1) x0)), Bz.2)).1) 1 (upd (sPt ((uPt Bz.1 (va_up (sPt Bz.1) 0 (upd (sPt Bz.1 0) (sNs Bz.1) x0)), Bz.2)).1 1) ((sNs Bz.1)) x1)), ((uPt Bz.1 (va_up (sPt Bz.1) 0 (upd (sPt Bz.1 0) (sNs Bz.1) x0)), Bz.2)).2)).1) : Int32) = nI ((sNs Bz.1)) from rfl) ?_
  refine lv_iload_n hx hb dX0_append_36 rfl (lv_at hl 3 rfl) ?_
  refine as_pt2 C h hS (by first | assumption | omega) dX0_append_37 (fun H locs h hS => ?_)
  refine lv_aload_n hx hb dX0_append_38 rfl (lv_at hl 0 rfl) ?_
  refine fg_X0_21 C h dX0_append_39 ?_
  refine lv_aload_n hx hb dX0_append_42 rfl (lv_at hl 0 rfl) ?_
  refine fg_X0_27 C h dX0_append_43 ?_
  refine lw_ti (show (nI (sNs ((uPt ((uPt ((uPt Bz.1 (va_up (sPt Bz.1) 0 (upd (sPt Bz.1 0) (sNs Bz.1) x0)), Bz.2)).1 (va_up (sPt ((uPt Bz.1 (va_up (sPt Bz.1) 0 (upd (sPt Bz.1 0) (sNs Bz.1) x0)), Bz.2)).1) 1 (upd (sPt ((uPt Bz.1 (va_up (sPt Bz.1) 0 (upd (sPt Bz.1 0) (sNs Bz.1) x0)), Bz.2)).1 1) ((sNs Bz.1)) x1)), ((uPt Bz.1 (va_up (sPt Bz.1) 0 (upd (sPt Bz.1 0) (sNs Bz.1) x0)), Bz.2)).2)).1 (va_up (sPt ((uPt ((uPt Bz.1 (va_up (sPt Bz.1) 0 (upd (sPt Bz.1 0) (sNs Bz.1) x0)), Bz.2)).1 (va_up (sPt ((uPt Bz.1 (va_up (sPt Bz.1) 0 (upd (sPt Bz.1 0) (sNs Bz.1) x0)), Bz.2)).1) 1 (upd (sPt ((uPt Bz.1 (va_up (sPt Bz.1) 0 (upd (sPt Bz.1 0) (sNs Bz.1) x0)), Bz.2)).1 1) ((sNs Bz.1)) x1)), ((uPt Bz.1 (va_up (sPt Bz.1) 0 (upd (sPt Bz.1 0) (sNs Bz.1) x0)), Bz.2)).2)).1) 2 (upd (sPt ((uPt ((uPt Bz.1 (va_up (sPt Bz.1) 0 (upd (sPt Bz.1 0) (sNs Bz.1) x0)), Bz.2)).1 (va_up (sPt ((uPt Bz.1 (va_up (sPt Bz.1) 0 (upd (sPt Bz.1 0) (sNs Bz.1) x0)), Bz.2)).1) 1 (upd (sPt ((uPt Bz.1 (va_up (sPt Bz.1) 0 (upd (sPt Bz.1 0) (sNs Bz.1) x0)), Bz.2)).1 1) ((sNs Bz.1)) x1)), ((uPt Bz.1 (va_up (sPt Bz.1) 0 (upd (sPt Bz.1 0) (sNs Bz.1) x0)), Bz.2)).2)).1 2) ((sNs Bz.1)) x2)), ((uPt ((uPt Bz.1 (va_up (sPt Bz.1) 0 (upd (sPt Bz.1 0) (sNs Bz.1) x0)), Bz.2)).1 (va_up (sPt ((uPt Bz.1 (va_up (sPt Bz.1) 0 (upd (sPt Bz.1 0) (sNs Bz.1) x0)), Bz.2)).1) 1 (upd (sPt ((uPt Bz.1 (va_up (sPt Bz.1) 0 (upd (sPt Bz.1 0) (sNs Bz.1) x0)), Bz.2)).1 1) ((sNs Bz.1)) x1)), ((uPt Bz.1 (va_up (sPt Bz.1) 0 (upd (sPt Bz.1 0) (sNs Bz.1) x0)), Bz.2)).2)).2)).1) : Int32) = nI ((sNs Bz.1)) from rfl) ?_
  refine lv_iload hx hb dX0_append_46 (lv_at hl 4 rfl) ?_
  refine as_pt3 C h hS (by first | assumption | omega) dX0_append_48 (fun H locs h hS => ?_)
  refine lv_aload_n hx hb dX0_append_49 rfl (lv_at hl 0 rfl) ?_
  refine fg_X0_24 C h dX0_append_50 ?_
  refine lv_aload_n hx hb dX0_append_53 rfl (lv_at hl 0 rfl) ?_
  refine fg_X0_27 C h dX0_append_54 ?_
  refine lw_ti (show (nI (sNs ((uPt ((uPt ((uPt ((uPt Bz.1 (va_up (sPt Bz.1) 0 (upd (sPt Bz.1 0) (sNs Bz.1) x0)), Bz.2)).1 (va_up (sPt ((uPt Bz.1 (va_up (sPt Bz.1) 0 (upd (sPt Bz.1 0) (sNs Bz.1) x0)), Bz.2)).1) 1 (upd (sPt ((uPt Bz.1 (va_up (sPt Bz.1) 0 (upd (sPt Bz.1 0) (sNs Bz.1) x0)), Bz.2)).1 1) ((sNs Bz.1)) x1)), ((uPt Bz.1 (va_up (sPt Bz.1) 0 (upd (sPt Bz.1 0) (sNs Bz.1) x0)), Bz.2)).2)).1 (va_up (sPt ((uPt ((uPt Bz.1 (va_up (sPt Bz.1) 0 (upd (sPt Bz.1 0) (sNs Bz.1) x0)), Bz.2)).1 (va_up (sPt ((uPt Bz.1 (va_up (sPt Bz.1) 0 (upd (sPt Bz.1 0) (sNs Bz.1) x0)), Bz.2)).1) 1 (upd (sPt ((uPt Bz.1 (va_up (sPt Bz.1) 0 (upd (sPt Bz.1 0) (sNs Bz.1) x0)), Bz.2)).1 1) ((sNs Bz.1)) x1)), ((uPt Bz.1 (va_up (sPt Bz.1) 0 (upd (sPt Bz.1 0) (sNs Bz.1) x0)), Bz.2)).2)).1) 2 (upd (sPt ((uPt ((uPt Bz.1 (va_up (sPt Bz.1) 0 (upd (sPt Bz.1 0) (sNs Bz.1) x0)), Bz.2)).1 (va_up (sPt ((uPt Bz.1 (va_up (sPt Bz.1) 0 (upd (sPt Bz.1 0) (sNs Bz.1) x0)), Bz.2)).1) 1 (upd (sPt ((uPt Bz.1 (va_up (sPt Bz.1) 0 (upd (sPt Bz.1 0) (sNs Bz.1) x0)), Bz.2)).1 1) ((sNs Bz.1)) x1)), ((uPt Bz.1 (va_up (sPt Bz.1) 0 (upd (sPt Bz.1 0) (sNs Bz.1) x0)), Bz.2)).2)).1 2) ((sNs Bz.1)) x2)), ((uPt ((uPt Bz.1 (va_up (sPt Bz.1) 0 (upd (sPt Bz.1 0) (sNs Bz.1) x0)), Bz.2)).1 (va_up (sPt ((uPt Bz.1 (va_up (sPt Bz.1) 0 (upd (sPt Bz.1 0) (sNs Bz.1) x0)), Bz.2)).1) 1 (upd (sPt ((uPt Bz.1 (va_up (sPt Bz.1) 0 (upd (sPt Bz.1 0) (sNs Bz.1) x0)), Bz.2)).1 1) ((sNs Bz.1)) x1)), ((uPt Bz.1 (va_up (sPt Bz.1) 0 (upd (sPt Bz.1 0) (sNs Bz.1) x0)), Bz.2)).2)).2)).1 (va_up (sPt ((uPt ((uPt ((uPt Bz.1 (va_up (sPt Bz.1) 0 (upd (sPt Bz.1 0) (sNs Bz.1) x0)), Bz.2)).1 (va_up (sPt ((uPt Bz.1 (va_up (sPt Bz.1) 0 (upd (sPt Bz.1 0) (sNs Bz.1) x0)), Bz.2)).1) 1 (upd (sPt ((uPt Bz.1 (va_up (sPt Bz.1) 0 (upd (sPt Bz.1 0) (sNs Bz.1) x0)), Bz.2)).1 1) ((sNs Bz.1)) x1)), ((uPt Bz.1 (va_up (sPt Bz.1) 0 (upd (sPt Bz.1 0) (sNs Bz.1) x0)), Bz.2)).2)).1 (va_up (sPt ((uPt ((uPt Bz.1 (va_up (sPt Bz.1) 0 (upd (sPt Bz.1 0) (sNs Bz.1) x0)), Bz.2)).1 (va_up (sPt ((uPt Bz.1 (va_up (sPt Bz.1) 0 (upd (sPt Bz.1 0) (sNs Bz.1) x0)), Bz.2)).1) 1 (upd (sPt ((uPt Bz.1 (va_up (sPt Bz.1) 0 (upd (sPt Bz.1 0) (sNs Bz.1) x0)), Bz.2)).1 1) ((sNs Bz.1)) x1)), ((uPt Bz.1 (va_up (sPt Bz.1) 0 (upd (sPt Bz.1 0) (sNs Bz.1) x0)), Bz.2)).2)).1) 2 (upd (sPt ((uPt ((uPt Bz.1 (va_up (sPt Bz.1) 0 (upd (sPt Bz.1 0) (sNs Bz.1) x0)), Bz.2)).1 (va_up (sPt ((uPt Bz.1 (va_up (sPt Bz.1) 0 (upd (sPt Bz.1 0) (sNs Bz.1) x0)), Bz.2)).1) 1 (upd (sPt ((uPt Bz.1 (va_up (sPt Bz.1) 0 (upd (sPt Bz.1 0) (sNs Bz.1) x0)), Bz.2)).1 1) ((sNs Bz.1)) x1)), ((uPt Bz.1 (va_up (sPt Bz.1) 0 (upd (sPt Bz.1 0) (sNs Bz.1) x0)), Bz.2)).2)).1 2) ((sNs Bz.1)) x2)), ((uPt ((uPt Bz.1 (va_up (sPt Bz.1) 0 (upd (sPt Bz.1 0) (sNs Bz.1) x0)), Bz.2)).1 (va_up (sPt ((uPt Bz.1 (va_up (sPt Bz.1) 0 (upd (sPt Bz.1 0) (sNs Bz.1) x0)), Bz.2)).1) 1 (upd (sPt ((uPt Bz.1 (va_up (sPt Bz.1) 0 (upd (sPt Bz.1 0) (sNs Bz.1) x0)), Bz.2)).1 1) ((sNs Bz.1)) x1)), ((uPt Bz.1 (va_up (sPt Bz.1) 0 (upd (sPt Bz.1 0) (sNs Bz.1) x0)), Bz.2)).2)).2)).1) 3 (upd (sPt ((uPt ((uPt ((uPt Bz.1 (va_up (sPt Bz.1) 0 (upd (sPt Bz.1 0) (sNs Bz.1) x0)), Bz.2)).1 (va_up (sPt ((uPt Bz.1 (va_up (sPt Bz.1) 0 (upd (sPt Bz.1 0) (sNs Bz.1) x0)), Bz.2)).1) 1 (upd (sPt ((uPt Bz.1 (va_up (sPt Bz.1) 0 (upd (sPt Bz.1 0) (sNs Bz.1) x0)), Bz.2)).1 1) ((sNs Bz.1)) x1)), ((uPt Bz.1 (va_up (sPt Bz.1) 0 (upd (sPt Bz.1 0) (sNs Bz.1) x0)), Bz.2)).2)).1 (va_up (sPt ((uPt ((uPt Bz.1 (va_up (sPt Bz.1) 0 (upd (sPt Bz.1 0) (sNs Bz.1) x0)), Bz.2)).1 (va_up (sPt ((uPt Bz.1 (va_up (sPt Bz.1) 0 (upd (sPt Bz.1 0) (sNs Bz.1) x0)), Bz.2)).1) 1 (upd (sPt ((uPt Bz.1 (va_up (sPt Bz.1) 0 (upd (sPt Bz.1 0) (sNs Bz.1) x0)), Bz.2)).1 1) ((sNs Bz.1)) x1)), ((uPt Bz.1 (va_up (sPt Bz.1) 0 (upd (sPt Bz.1 0) (sNs Bz.1) x0)), Bz.2)).2)).1) 2 (upd (sPt ((uPt ((uPt Bz.1 (va_up (sPt Bz.1) 0 (upd (sPt Bz.1 0) (sNs Bz.1) x0)), Bz.2)).1 (va_up (sPt ((uPt Bz.1 (va_up (sPt Bz.1) 0 (upd (sPt Bz.1 0) (sNs Bz.1) x0)), Bz.2)).1) 1 (upd (sPt ((uPt Bz.1 (va_up (sPt Bz.1) 0 (upd (sPt Bz.1 0) (sNs Bz.1) x0)), Bz.2)).1 1) ((sNs Bz.1)) x1)), ((uPt Bz.1 (va_up (sPt Bz.1) 0 (upd (sPt Bz.1 0) (sNs Bz.1) x0)), Bz.2)).2)).1 2) ((sNs Bz.1)) x2)), ((uPt ((uPt Bz.1 (va_up (sPt Bz.1) 0 (upd (sPt Bz.1 0) (sNs Bz.1) x0)), Bz.2)).1 (va_up (sPt ((uPt Bz.1 (va_up (sPt Bz.1) 0 (upd (sPt Bz.1 0) (sNs Bz.1) x0)), Bz.2)).1) 1 (upd (sPt ((uPt Bz.1 (va_up (sPt Bz.1) 0 (upd (sPt Bz.1 0) (sNs Bz.1) x0)), Bz.2)).1 1) ((sNs Bz.1)) x1)), ((uPt Bz.1 (va_up (sPt Bz.1) 0 (upd (sPt Bz.1 0) (sNs Bz.1) x0)), Bz.2)).2)).2)).1 3) ((sNs Bz.1)) x3)), ((uPt ((uPt ((uPt Bz.1 (va_up (sPt Bz.1) 0 (upd (sPt Bz.1 0) (sNs Bz.1) x0)), Bz.2)).1 (va_up (sPt ((uPt Bz.1 (va_up (sPt Bz.1) 0 (upd (sPt Bz.1 0) (sNs Bz.1) x0)), Bz.2)).1) 1 (upd (sPt ((uPt Bz.1 (va_up (sPt Bz.1) 0 (upd (sPt Bz.1 0) (sNs Bz.1) x0)), Bz.2)).1 1) ((sNs Bz.1)) x1)), ((uPt Bz.1 (va_up (sPt Bz.1) 0 (upd (sPt Bz.1 0) (sNs Bz.1) x0)), Bz.2)).2)).1 (va_up (sPt ((uPt ((uPt Bz.1 (va_up (sPt Bz.1) 0 (upd (sPt Bz.1 0) (sNs Bz.1) x0)), Bz.2)).1 (va_up (sPt ((uPt Bz.1 (va_up (sPt Bz.1) 0 (upd (sPt Bz.1 0) (sNs Bz.1) x0)), Bz.2)).1) 1 (upd (sPt ((uPt Bz.1 (va_up (sPt Bz.1) 0 (upd (sPt Bz.1 0) (sNs Bz.1) x0)), Bz.2)).1 1) ((sNs Bz.1)) x1)), ((uPt Bz.1 (va_up (sPt Bz.1) 0 (upd (sPt Bz.1 0) (sNs Bz.1) x0)), Bz.2)).2)).1) 2 (upd (sPt ((uPt ((uPt Bz.1 (va_up (sPt Bz.1) 0 (upd (sPt Bz.1 0) (sNs Bz.1) x0)), Bz.2)).1 (va_up (sPt ((uPt Bz.1 (va_up (sPt Bz.1) 0 (upd (sPt Bz.1 0) (sNs Bz.1) x0)), Bz.2)).1) 1 (upd (sPt ((uPt Bz.1 (va_up (sPt Bz.1) 0 (upd (sPt Bz.1 0) (sNs Bz.1) x0)), Bz.2)).1 1) ((sNs Bz.1)) x1)), ((uPt Bz.1 (va_up (sPt Bz.1) 0 (upd (sPt Bz.1 0) (sNs Bz.1) x0)), Bz.2)).2)).1 2) ((sNs Bz.1)) x2)), ((uPt ((uPt Bz.1 (va_up (sPt Bz.1) 0 (upd (sPt Bz.1 0) (sNs Bz.1) x0)), Bz.2)).1 (va_up (sPt ((uPt Bz.1 (va_up (sPt Bz.1) 0 (upd (sPt Bz.1 0) (sNs Bz.1) x0)), Bz.2)).1) 1 (upd (sPt ((uPt Bz.1 (va_up (sPt Bz.1) 0 (upd (sPt Bz.1 0) (sNs Bz.1) x0)), Bz.2)).1 1) ((sNs Bz.1)) x1)), ((uPt Bz.1 (va_up (sPt Bz.1) 0 (upd (sPt Bz.1 0) (sNs Bz.1) x0)), Bz.2)).2)).2)).2)).1) : Int32) = nI ((sNs Bz.1)) from rfl) ?_
  refine lv_iload hx hb dX0_append_57 (lv_at hl 5 rfl) ?_
  refine as_pt4 C h hS (by first | assumption | omega) dX0_append_59 (fun H locs h hS => ?_)
  refine lv_aload_n hx hb dX0_append_60 rfl (lv_at hl 0 rfl) ?_
  refine lv_dup hx hb dX0_append_61 rfl ?_
  refine fg_X0_27 C h dX0_append_62 ?_
  refine lw_ti (show (nI (sNs ((uPt ((uPt ((uPt ((uPt ((uPt Bz.1 (va_up (sPt Bz.1) 0 (upd (sPt Bz.1 0) (sNs Bz.1) x0)), Bz.2)).1 (va_up (sPt ((uPt Bz.1 (va_up (sPt Bz.1) 0 (upd (sPt Bz.1 0) (sNs Bz.1) x0)), Bz.2)).1) 1 (upd (sPt ((uPt Bz.1 (va_up (sPt Bz.1) 0 (upd (sPt Bz.1 0) (sNs Bz.1) x0)), Bz.2)).1 1) ((sNs Bz.1)) x1)), ((uPt Bz.1 (va_up (sPt Bz.1) 0 (upd (sPt Bz.1 0) (sNs Bz.1) x0)), Bz.2)).2)).1 (va_up (sPt ((uPt ((uPt Bz.1 (va_up (sPt Bz.1) 0 (upd (sPt Bz.1 0) (sNs Bz.1) x0)), Bz.2)).1 (va_up (sPt ((uPt Bz.1 (va_up (sPt Bz.1) 0 (upd (sPt Bz.1 0) (sNs Bz.1) x0)), Bz.2)).1) 1 (upd (sPt ((uPt Bz.1 (va_up (sPt Bz.1) 0 (upd (sPt Bz.1 0) (sNs Bz.1) x0)), Bz.2)).1 1) ((sNs Bz.1)) x1)), ((uPt Bz.1 (va_up (sPt Bz.1) 0 (upd (sPt Bz.1 0) (sNs Bz.1) x0)), Bz.2)).2)).1) 2 (upd (sPt ((uPt ((uPt Bz.1 (va_up (sPt Bz.1) 0 (upd (sPt Bz.1 0) (sNs Bz.1) x0)), Bz.2)).1 (va_up (sPt ((uPt Bz.1 (va_up (sPt Bz.1) 0 (upd (sPt Bz.1 0) (sNs Bz.1) x0)), Bz.2)).1) 1 (upd (sPt ((uPt Bz.1 (va_up (sPt Bz.1) 0 (upd (sPt Bz.1 0) (sNs Bz.1) x0)), Bz.2)).1 1) ((sNs Bz.1)) x1)), ((uPt Bz.1 (va_up (sPt Bz.1) 0 (upd (sPt Bz.1 0) (sNs Bz.1) x0)), Bz.2)).2)).1 2) ((sNs Bz.1)) x2)), ((uPt ((uPt Bz.1 (va_up (sPt Bz.1) 0 (upd (sPt Bz.1 0) (sNs Bz.1) x0)), Bz.2)).1 (va_up (sPt ((uPt Bz.1 (va_up (sPt Bz.1) 0 (upd (sPt Bz.1 0) (sNs Bz.1) x0)), Bz.2)).1) 1 (upd (sPt ((uPt Bz.1 (va_up (sPt Bz.1) 0 (upd (sPt Bz.1 0) (sNs Bz.1) x0)), Bz.2)).1 1) ((sNs Bz.1)) x1)), ((uPt Bz.1 (va_up (sPt Bz.1) 0 (upd (sPt Bz.1 0) (sNs Bz.1) x0)), Bz.2)).2)).2)).1 (va_up (sPt ((uPt ((uPt ((uPt Bz.1 (va_up (sPt Bz.1) 0 (upd (sPt Bz.1 0) (sNs Bz.1) x0)), Bz.2)).1 (va_up (sPt ((uPt Bz.1 (va_up (sPt Bz.1) 0 (upd (sPt Bz.1 0) (sNs Bz.1) x0)), Bz.2)).1) 1 (upd (sPt ((uPt Bz.1 (va_up (sPt Bz.1) 0 (upd (sPt Bz.1 0) (sNs Bz.1) x0)), Bz.2)).1 1) ((sNs Bz.1)) x1)), ((uPt Bz.1 (va_up (sPt Bz.1) 0 (upd (sPt Bz.1 0) (sNs Bz.1) x0)), Bz.2)).2)).1 (va_up (sPt ((uPt ((uPt Bz.1 (va_up (sPt Bz.1) 0 (upd (sPt Bz.1 0) (sNs Bz.1) x0)), Bz.2)).1 (va_up (sPt ((uPt Bz.1 (va_up (sPt Bz.1) 0 (upd (sPt Bz.1 0) (sNs Bz.1) x0)), Bz.2)).1) 1 (upd (sPt ((uPt Bz.1 (va_up (sPt Bz.1) 0 (upd (sPt Bz.1 0) (sNs Bz.1) x0)), Bz.2)).1 1) ((sNs Bz.1)) x1)), ((uPt Bz.1 (va_up (sPt Bz.1) 0 (upd (sPt Bz.1 0) (sNs Bz.1) x0)), Bz.2)).2)).1) 2 (upd (sPt ((uPt ((uPt Bz.1 (va_up (sPt Bz.1) 0 (upd (sPt Bz.1 0) (sNs Bz.1) x0)), Bz.2)).1 (va_up (sPt ((uPt Bz.1 (va_up (sPt Bz.1) 0 (upd (sPt Bz.1 0) (sNs Bz.1) x0)), Bz.2)).1) 1 (upd (sPt ((uPt Bz.1 (va_up (sPt Bz.1) 0 (upd (sPt Bz.1 0) (sNs Bz.1) x0)), Bz.2)).1 1) ((sNs Bz.1)) x1)), ((uPt Bz.1 (va_up (sPt Bz.1) 0 (upd (sPt Bz.1 0) (sNs Bz.1) x0)), Bz.2)).2)).1 2) ((sNs Bz.1)) x2)), ((uPt ((uPt Bz.1 (va_up (sPt Bz.1) 0 (upd (sPt Bz.1 0) (sNs Bz.1) x0)), Bz.2)).1 (va_up (sPt ((uPt Bz.1 (va_up (sPt Bz.1) 0 (upd (sPt Bz.1 0) (sNs Bz.1) x0)), Bz.2)).1) 1 (upd (sPt ((uPt Bz.1 (va_up (sPt Bz.1) 0 (upd (sPt Bz.1 0) (sNs Bz.1) x0)), Bz.2)).1 1) ((sNs Bz.1)) x1)), ((uPt Bz.1 (va_up (sPt Bz.1) 0 (upd (sPt Bz.1 0) (sNs Bz.1) x0)), Bz.2)).2)).2)).1) 3 (upd (sPt ((uPt ((uPt ((uPt Bz.1 (va_up (sPt Bz.1) 0 (upd (sPt Bz.1 0) (sNs Bz.1) x0)), Bz.2)).1 (va_up (sPt ((uPt Bz.1 (va_up (sPt Bz.1) 0 (upd (sPt Bz.1 0) (sNs Bz.1) x0)), Bz.2)).1) 1 (upd (sPt ((uPt Bz.1 (va_up (sPt Bz.1) 0 (upd (sPt Bz.1 0) (sNs Bz.1) x0)), Bz.2)).1 1) ((sNs Bz.1)) x1)), ((uPt Bz.1 (va_up (sPt Bz.1) 0 (upd (sPt Bz.1 0) (sNs Bz.1) x0)), Bz.2)).2)).1 (va_up (sPt ((uPt ((uPt Bz.1 (va_up (sPt Bz.1) 0 (upd (sPt Bz.1 0) (sNs Bz.1) x0)), Bz.2)).1 (va_up (sPt ((uPt Bz.1 (va_up (sPt Bz.1) 0 (upd (sPt Bz.1 0) (sNs Bz.1) x0)), Bz.2)).1) 1 (upd (sPt ((uPt Bz.1 (va_up (sPt Bz.1) 0 (upd (sPt Bz.1 0) (sNs Bz.1) x0)), Bz.2)).1 1) ((sNs Bz.1)) x1)), ((uPt Bz.1 (va_up (sPt Bz.1) 0 (upd (sPt Bz.1 0) (sNs Bz.1) x0)), Bz.2)).2)).1) 2 (upd (sPt ((uPt ((uPt Bz.1 (va_up (sPt Bz.1) 0 (upd (sPt Bz.1 0) (sNs Bz.1) x0)), Bz.2)).1 (va_up (sPt ((uPt Bz.1 (va_up (sPt Bz.1) 0 (upd (sPt Bz.1 0) (sNs Bz.1) x0)), Bz.2)).1) 1 (upd (sPt ((uPt Bz.1 (va_up (sPt Bz.1) 0 (upd (sPt Bz.1 0) (sNs Bz.1) x0)), Bz.2)).1 1) ((sNs Bz.1)) x1)), ((uPt Bz.1 (va_up (sPt Bz.1) 0 (upd (sPt Bz.1 0) (sNs Bz.1) x0)), Bz.2)).2)).1 2) ((sNs Bz.1)) x2)), ((uPt ((uPt Bz.1 (va_up (sPt Bz.1) 0 (upd (sPt Bz.1 0) (sNs Bz.1) x0)), Bz.2)).1 (va_up (sPt ((uPt Bz.1 (va_up (sPt Bz.1) 0 (upd (sPt Bz.1 0) (sNs Bz.1) x0)), Bz.2)).1) 1 (upd (sPt ((uPt Bz.1 (va_up (sPt Bz.1) 0 (upd (sPt Bz.1 0) (sNs Bz.1) x0)), Bz.2)).1 1) ((sNs Bz.1)) x1)), ((uPt Bz.1 (va_up (sPt Bz.1) 0 (upd (sPt Bz.1 0) (sNs Bz.1) x0)), Bz.2)).2)).2)).1 3) ((sNs Bz.1)) x3)), ((uPt ((uPt ((uPt Bz.1 (va_up (sPt Bz.1) 0 (upd (sPt Bz.1 0) (sNs Bz.1) x0)), Bz.2)).1 (va_up (sPt ((uPt Bz.1 (va_up (sPt Bz.1) 0 (upd (sPt Bz.1 0) (sNs Bz.1) x0)), Bz.2)).1) 1 (upd (sPt ((uPt Bz.1 (va_up (sPt Bz.1) 0 (upd (sPt Bz.1 0) (sNs Bz.1) x0)), Bz.2)).1 1) ((sNs Bz.1)) x1)), ((uPt Bz.1 (va_up (sPt Bz.1) 0 (upd (sPt Bz.1 0) (sNs Bz.1) x0)), Bz.2)).2)).1 (va_up (sPt ((uPt ((uPt Bz.1 (va_up (sPt Bz.1) 0 (upd (sPt Bz.1 0) (sNs Bz.1) x0)), Bz.2)).1 (va_up (sPt ((uPt Bz.1 (va_up (sPt Bz.1) 0 (upd (sPt Bz.1 0) (sNs Bz.1) x0)), Bz.2)).1) 1 (upd (sPt ((uPt Bz.1 (va_up (sPt Bz.1) 0 (upd (sPt Bz.1 0) (sNs Bz.1) x0)), Bz.2)).1 1) ((sNs Bz.1)) x1)), ((uPt Bz.1 (va_up (sPt Bz.1) 0 (upd (sPt Bz.1 0) (sNs Bz.1) x0)), Bz.2)).2)).1) 2 (upd (sPt ((uPt ((uPt Bz.1 (va_up (sPt Bz.1) 0 (upd (sPt Bz.1 0) (sNs Bz.1) x0)), Bz.2)).1 (va_up (sPt ((uPt Bz.1 (va_up (sPt Bz.1) 0 (upd (sPt Bz.1 0) (sNs Bz.1) x0)), Bz.2)).1) 1 (upd (sPt ((uPt Bz.1 (va_up (sPt Bz.1) 0 (upd (sPt Bz.1 0) (sNs Bz.1) x0)), Bz.2)).1 1) ((sNs Bz.1)) x1)), ((uPt Bz.1 (va_up (sPt Bz.1) 0 (upd (sPt Bz.1 0) (sNs Bz.1) x0)), Bz.2)).2)).1 2) ((sNs Bz.1)) x2)), ((uPt ((uPt Bz.1 (va_up (sPt Bz.1) 0 (upd (sPt Bz.1 0) (sNs Bz.1) x0)), Bz.2)).1 (va_up (sPt ((uPt Bz.1 (va_up (sPt Bz.1) 0 (upd (sPt Bz.1 0) (sNs Bz.1) x0)), Bz.2)).1) 1 (upd (sPt ((uPt Bz.1 (va_up (sPt Bz.1) 0 (upd (sPt Bz.1 0) (sNs Bz.1) x0)), Bz.2)).1 1) ((sNs Bz.1)) x1)), ((uPt Bz.1 (va_up (sPt Bz.1) 0 (upd (sPt Bz.1 0) (sNs Bz.1) x0)), Bz.2)).2)).2)).2)).1 (va_up (sPt ((uPt ((uPt ((uPt ((uPt Bz.1 (va_up (sPt Bz.1) 0 (upd (sPt Bz.1 0) (sNs Bz.1) x0)), Bz.2)).1 (va_up (sPt ((uPt Bz.1 (va_up (sPt Bz.1) 0 (upd (sPt Bz.1 0) (sNs Bz.1) x0)), Bz.2)).1) 1 (upd (sPt ((uPt Bz.1 (va_up (sPt Bz.1) 0 (upd (sPt Bz.1 0) (sNs Bz.1) x0)), Bz.2)).1 1) ((sNs Bz.1)) x1)), ((uPt Bz.1 (va_up (sPt Bz.1) 0 (upd (sPt Bz.1 0) (sNs Bz.1) x0)), Bz.2)).2)).1 (va_up (sPt ((uPt ((uPt Bz.1 (va_up (sPt Bz.1) 0 (upd (sPt Bz.1 0) (sNs Bz.1) x0)), Bz.2)).1 (va_up (sPt ((uPt Bz.1 (va_up (sPt Bz.1) 0 (upd (sPt Bz.1 0) (sNs Bz.1) x0)), Bz.2)).1) 1 (upd (sPt ((uPt Bz.1 (va_up (sPt Bz.1) 0 (upd (sPt Bz.1 0) (sNs Bz.1) x0)), Bz.2)).1 1) ((sNs Bz.1)) x1)), ((uPt Bz.1 (va_up (sPt Bz.1) 0 (upd (sPt Bz.1 0) (sNs Bz.1) x0)), Bz.2)).2)).1) 2 (upd (sPt ((uPt ((uPt Bz.1 (va_up (sPt Bz.1) 0 (upd (sPt Bz.1 0) (sNs Bz.1) x0)), Bz.2)).1 (va_up (sPt ((uPt Bz.1 (va_up (sPt Bz.1) 0 (upd (sPt Bz.1 0) (sNs Bz.1) x0)), Bz.2)).1) 1 (upd (sPt ((uPt Bz.1 (va_up (sPt Bz.1) 0 (upd (sPt Bz.1 0) (sNs Bz.1) x0)), Bz.2)).1 1) ((sNs Bz.1)) x1)), ((uPt Bz.1 (va_up (sPt Bz.1) 0 (upd (sPt Bz.1 0) (sNs Bz.1) x0)), Bz.2)).2)).1 2) ((sNs Bz.1)) x2)), ((uPt ((uPt Bz.1 (va_up (sPt Bz.1) 0 (upd (sPt Bz.1 0) (sNs Bz.1) x0)), Bz.2)).1 (va_up (sPt ((uPt Bz.1 (va_up (sPt Bz.1) 0 (upd (sPt Bz.1 0) (sNs Bz.1) x0)), Bz.2)).1) 1 (upd (sPt ((uPt Bz.1 (va_up (sPt Bz.1) 0 (upd (sPt Bz.1 0) (sNs Bz.1) x0)), Bz.2)).1 1) ((sNs Bz.1)) x1)), ((uPt Bz.1 (va_up (sPt Bz.1) 0 (upd (sPt Bz.1 0) (sNs Bz.1) x0)), Bz.2)).2)).2)).1 (va_up (sPt ((uPt ((uPt ((uPt Bz.1 (va_up (sPt Bz.1) 0 (upd (sPt Bz.1 0) (sNs Bz.1) x0)), Bz.2)).1 (va_up (sPt ((uPt Bz.1 (va_up (sPt Bz.1) 0 (upd (sPt Bz.1 0) (sNs Bz.1) x0)), Bz.2)).1) 1 (upd (sPt ((uPt Bz.1 (va_up (sPt Bz.1) 0 (upd (sPt Bz.1 0) (sNs Bz.1) x0)), Bz.2)).1 1) ((sNs Bz.1)) x1)), ((uPt Bz.1 (va_up (sPt Bz.1) 0 (upd (sPt Bz.1 0) (sNs Bz.1) x0)), Bz.2)).2)).1 (va_up (sPt ((uPt ((uPt Bz.1 (va_up (sPt Bz.1) 0 (upd (sPt Bz.1 0) (sNs Bz.1) x0)), Bz.2)).1 (va_up (sPt ((uPt Bz.1 (va_up (sPt Bz.1) 0 (upd (sPt Bz.1 0) (sNs Bz.1) x0)), Bz.2)).1) 1 (upd (sPt ((uPt Bz.1 (va_up (sPt Bz.1) 0 (upd (sPt Bz.1 0) (sNs Bz.1) x0)), Bz.2)).1 1) ((sNs Bz.1)) x1)), ((uPt Bz.1 (va_up (sPt Bz.1) 0 (upd (sPt Bz.1 0) (sNs Bz.1) x0)), Bz.2)).2)).1) 2 (upd (sPt ((uPt ((uPt Bz.1 (va_up (sPt Bz.1) 0 (upd (sPt Bz.1 0) (sNs Bz.1) x0)), Bz.2)).1 (va_up (sPt ((uPt Bz.1 (va_up (sPt Bz.1) 0 (upd (sPt Bz.1 0) (sNs Bz.1) x0)), Bz.2)).1) 1 (upd (sPt ((uPt Bz.1 (va_up (sPt Bz.1) 0 (upd (sPt Bz.1 0) (sNs Bz.1) x0)), Bz.2)).1 1) ((sNs Bz.1)) x1)), ((uPt Bz.1 (va_up (sPt Bz.1) 0 (upd (sPt Bz.1 0) (sNs Bz.1) x0)), Bz.2)).2)).1 2) ((sNs Bz.1)) x2)), ((uPt ((uPt Bz.1 (va_up (sPt Bz.1) 0 (upd (sPt Bz.1 0) (sNs Bz.1) x0)), Bz.2)).1 (va_up (sPt ((uPt Bz.1 (va_up (sPt Bz.1) 0 (upd (sPt Bz.1 0) (sNs Bz.1) x0)), Bz.2)).1) 1 (upd (sPt ((uPt Bz.1 (va_up (sPt Bz.1) 0 (upd (sPt Bz.1 0) (sNs Bz.1) x0)), Bz.2)).1 1) ((sNs Bz.1)) x1)), ((uPt Bz.1 (va_up (sPt Bz.1) 0 (upd (sPt Bz.1 0) (sNs Bz.1) x0)), Bz.2)).2)).2)).1) 3 (upd (sPt ((uPt ((uPt ((uPt Bz.1 (va_up (sPt Bz.1) 0 (upd (sPt Bz.1 0) (sNs Bz.1) x0)), Bz.2)).1 (va_up (sPt ((uPt Bz.1 (va_up (sPt Bz.1) 0 (upd (sPt Bz.1 0) (sNs Bz.1) x0)), Bz.2)).1) 1 (upd (sPt ((uPt Bz.1 (va_up (sPt Bz.1) 0 (upd (sPt Bz.1 0) (sNs Bz.1) x0)), Bz.2)).1 1) ((sNs Bz.1)) x1)), ((uPt Bz.1 (va_up (sPt Bz.1) 0 (upd (sPt Bz.1 0) (sNs Bz.1) x0)), Bz.2)).2)).1 (va_up (sPt ((uPt ((uPt Bz.1 (va_up (sPt Bz.1) 0 (upd (sPt Bz.1 0) (sNs Bz.1) x0)), Bz.2)).1 (va_up (sPt ((uPt Bz.1 (va_up (sPt Bz.1) 0 (upd (sPt Bz.1 0) (sNs Bz.1) x0)), Bz.2)).1) 1 (upd (sPt ((uPt Bz.1 (va_up (sPt Bz.1) 0 (upd (sPt Bz.1 0) (sNs Bz.1) x0)), Bz.2)).1 1) ((sNs Bz.1)) x1)), ((uPt Bz.1 (va_up (sPt Bz.1) 0 (upd (sPt Bz.1 0) (sNs Bz.1) x0)), Bz.2)).2)).1) 2 (upd (sPt ((uPt ((uPt Bz.1 (va_up (sPt Bz.1) 0 (upd (sPt Bz.1 0) (sNs Bz.1) x0)), Bz.2)).1 (va_up (sPt ((uPt Bz.1 (va_up (sPt Bz.1) 0 (upd (sPt Bz.1 0) (sNs Bz.1) x0)), Bz.2)).1) 1 (upd (sPt ((uPt Bz.1 (va_up (sPt Bz.1) 0 (upd (sPt Bz.1 0) (sNs Bz.1) x0)), Bz.2)).1 1) ((sNs Bz.1)) x1)), ((uPt Bz.1 (va_up (sPt Bz.1) 0 (upd (sPt Bz.1 0) (sNs Bz.1) x0)), Bz.2)).2)).1 2) ((sNs Bz.1)) x2)), ((uPt ((uPt Bz.1 (va_up (sPt Bz.1) 0 (upd (sPt Bz.1 0) (sNs Bz.1) x0)), Bz.2)).1 (va_up (sPt ((uPt Bz.1 (va_up (sPt Bz.1) 0 (upd (sPt Bz.1 0) (sNs Bz.1) x0)), Bz.2)).1) 1 (upd (sPt ((uPt Bz.1 (va_up (sPt Bz.1) 0 (upd (sPt Bz.1 0) (sNs Bz.1) x0)), Bz.2)).1 1) ((sNs Bz.1)) x1)), ((uPt Bz.1 (va_up (sPt Bz.1) 0 (upd (sPt Bz.1 0) (sNs Bz.1) x0)), Bz.2)).2)).2)).1 3) ((sNs Bz.1)) x3)), ((uPt ((uPt ((uPt Bz.1 (va_up (sPt Bz.1) 0 (upd (sPt Bz.1 0) (sNs Bz.1) x0)), Bz.2)).1 (va_up (sPt ((uPt Bz.1 (va_up (sPt Bz.1) 0 (upd (sPt Bz.1 0) (sNs Bz.1) x0)), Bz.2)).1) 1 (upd (sPt ((uPt Bz.1 (va_up (sPt Bz.1) 0 (upd (sPt Bz.1 0) (sNs Bz.1) x0)), Bz.2)).1 1) ((sNs Bz.1)) x1)), ((uPt Bz.1 (va_up (sPt Bz.1) 0 (upd (sPt Bz.1 0) (sNs Bz.1) x0)), Bz.2)).2)).1 (va_up (sPt ((uPt ((uPt Bz.1 (va_up (sPt Bz.1) 0 (upd (sPt Bz.1 0) (sNs Bz.1) x0)), Bz.2)).1 (va_up (sPt ((uPt Bz.1 (va_up (sPt Bz.1) 0 (upd (sPt Bz.1 0) (sNs Bz.1) x0)), Bz.2)).1) 1 (upd (sPt ((uPt Bz.1 (va_up (sPt Bz.1) 0 (upd (sPt Bz.1 0) (sNs Bz.1) x0)), Bz.2)).1 1) ((sNs Bz.1)) x1)), ((uPt Bz.1 (va_up (sPt Bz.1) 0 (upd (sPt Bz.1 0) (sNs Bz.1) x0)), Bz.2)).2)).1) 2 (upd (sPt ((uPt ((uPt Bz.1 (va_up (sPt Bz.1) 0 (upd (sPt Bz.1 0) (sNs Bz.1) x0)), Bz.2)).1 (va_up (sPt ((uPt Bz.1 (va_up (sPt Bz.1) 0 (upd (sPt Bz.1 0) (sNs Bz.1) x0)), Bz.2)).1) 1 (upd (sPt ((uPt Bz.1 (va_up (sPt Bz.1) 0 (upd (sPt Bz.1 0) (sNs Bz.1) x0)), Bz.2)).1 1) ((sNs Bz.1)) x1)), ((uPt Bz.1 (va_up (sPt Bz.1) 0 (upd (sPt Bz.1 0) (sNs Bz.1) x0)), Bz.2)).2)).1 2) ((sNs Bz.1)) x2)), ((uPt ((uPt Bz.1 (va_up (sPt Bz.1) 0 (upd (sPt Bz.1 0) (sNs Bz.1) x0)), Bz.2)).1 (va_up (sPt ((uPt Bz.1 (va_up (sPt Bz.1) 0 (upd (sPt Bz.1 0) (sNs Bz.1) x0)), Bz.2)).1) 1 (upd (sPt ((uPt Bz.1 (va_up (sPt Bz.1) 0 (upd (sPt Bz.1 0) (sNs Bz.1) x0)), Bz.2)).1 1) ((sNs Bz.1)) x1)), ((uPt Bz.1 (va_up (sPt Bz.1) 0 (upd (sPt Bz.1 0) (sNs Bz.1) x0)), Bz.2)).2)).2)).2)).1) 4 (upd (sPt ((uPt ((uPt ((uPt ((uPt Bz.1 (va_up (sPt Bz.1) 0 (upd (sPt Bz.1 0) (sNs Bz.1) x0)), Bz.2)).1 (va_up (sPt ((uPt Bz.1 (va_up (sPt Bz.1) 0 (upd (sPt Bz.1 0) (sNs Bz.1) x0)), Bz.2)).1) 1 (upd (sPt ((uPt Bz.1 (va_up (sPt Bz.1) 0 (upd (sPt Bz.1 0) (sNs Bz.1) x0)), Bz.2)).1 1) ((sNs Bz.1)) x1)), ((uPt Bz.1 (va_up (sPt Bz.1) 0 (upd (sPt Bz.1 0) (sNs Bz.1) x0)), Bz.2)).2)).1 (va_up (sPt ((uPt ((uPt Bz.1 (va_up (sPt Bz.1) 0 (upd (sPt Bz.1 0) (sNs Bz.1) x0)), Bz.2)).1 (va_up (sPt ((uPt Bz.1 (va_up (sPt Bz.1) 0 (upd (sPt Bz.1 0) (sNs Bz.1) x0)), Bz.2)).1) 1 (upd (sPt ((uPt Bz.1 (va_up (sPt Bz.1) 0 (upd (sPt Bz.1 0) (sNs Bz.1) x0)), Bz.2)).1 1) ((sNs Bz.1)) x1)), ((uPt Bz.1 (va_up (sPt Bz.1) 0 (upd (sPt Bz.1 0) (sNs Bz.1) x0)), Bz.2)).2)).1) 2 (upd (sPt ((uPt ((uPt Bz.1 (va_up (sPt Bz.1) 0 (upd (sPt Bz.1 0) (sNs Bz.1) x0)), Bz.2)).1 (va_up (sPt ((uPt Bz.1 (va_up (sPt Bz.1) 0 (upd (sPt Bz.1 0) (sNs Bz.1) x0)), Bz.2)).1) 1 (upd (sPt ((uPt Bz.1 (va_up (sPt Bz.1) 0 (upd (sPt Bz.1 0) (sNs Bz.1) x0)), Bz.2)).1 1) ((sNs Bz.1)) x1)), ((uPt Bz.1 (va_up (sPt Bz.1) 0 (upd (sPt Bz.1 0) (sNs Bz.1) x0)), Bz.2)).2)).1 2) ((sNs Bz.1)) x2)), ((uPt ((uPt Bz.1 (va_up (sPt Bz.1) 0 (upd (sPt Bz.1 0) (sNs Bz.1) x0)), Bz.2)).1 (va_up (sPt ((uPt Bz.1 (va_up (sPt Bz.1) 0 (upd (sPt Bz.1 0) (sNs Bz.1) x0)), Bz.2)).1) 1 (upd (sPt ((uPt Bz.1 (va_up (sPt Bz.1) 0 (upd (sPt Bz.1 0) (sNs Bz.1) x0)), Bz.2)).1 1) ((sNs Bz.1)) x1)), ((uPt Bz.1 (va_up (sPt Bz.1) 0 (upd (sPt Bz.1 0) (sNs Bz.1) x0)), Bz.2)).2)).2)).1 (va_up (sPt ((uPt ((uPt ((uPt Bz.1 (va_up (sPt Bz.1) 0 (upd (sPt Bz.1 0) (sNs Bz.1) x0)), Bz.2)).1 (va_up (sPt ((uPt Bz.1 (va_up (sPt Bz.1) 0 (upd (sPt Bz.1 0) (sNs Bz.1) x0)), Bz.2)).1) 1 (upd (sPt ((uPt Bz.1 (va_up (sPt Bz.1) 0 (upd (sPt Bz.1 0) (sNs Bz.1) x0)), Bz.2)).1 1) ((sNs Bz.1)) x1)), ((uPt Bz.1 (va_up (sPt Bz.1) 0 (upd (sPt Bz.1 0) (sNs Bz.1) x0)), Bz.2)).2)).1 (va_up (sPt ((uPt ((uPt Bz.1 (va_up (sPt Bz.1) 0 (upd (sPt Bz.1 0) (sNs Bz.1) x0)), Bz.2)).1 (va_up (sPt ((uPt Bz.1 (va_up (sPt Bz.1) 0 (upd (sPt Bz.1 0) (sNs Bz.1) x0)), Bz.2)).1) 1 (upd (sPt ((uPt Bz.1 (va_up (sPt Bz.1) 0 (upd (sPt Bz.1 0) (sNs Bz.1) x0)), Bz.2)).1 1) ((sNs Bz.1)) x1)), ((uPt Bz.1 (va_up (sPt Bz.1) 0 (upd (sPt Bz.1 0) (sNs Bz.1) x0)), Bz.2)).2)).1) 2 (upd (sPt ((uPt ((uPt Bz.1 (va_up (sPt Bz.1) 0 (upd (sPt Bz.1 0) (sNs Bz.1) x0)), Bz.2)).1 (va_up (sPt ((uPt Bz.1 (va_up (sPt Bz.1) 0 (upd (sPt Bz.1 0) (sNs Bz.1) x0)), Bz.2)).1) 1 (upd (sPt ((uPt Bz.1 (va_up (sPt Bz.1) 0 (upd (sPt Bz.1 0) (sNs Bz.1) x0)), Bz.2)).1 1) ((sNs Bz.1)) x1)), ((uPt Bz.1 (va_up (sPt Bz.1) 0 (upd (sPt Bz.1 0) (sNs Bz.1) x0)), Bz.2)).2)).1 2) ((sNs Bz.1)) x2)), ((uPt ((uPt Bz.1 (va_up (sPt Bz.1) 0 (upd (sPt Bz.1 0) (sNs Bz.1) x0)), Bz.2)).1 (va_up (sPt ((uPt Bz.1 (va_up (sPt Bz.1) 0 (upd (sPt Bz.1 0) (sNs Bz.1) x0)), Bz.2)).1) 1 (upd (sPt ((uPt Bz.1 (va_up (sPt Bz.1) 0 (upd (sPt Bz.1 0) (sNs Bz.1) x0)), Bz.2)).1 1) ((sNs Bz.1)) x1)), ((uPt Bz.1 (va_up (sPt Bz.1) 0 (upd (sPt Bz.1 0) (sNs Bz.1) x0)), Bz.2)).2)).2)).1) 3 (upd (sPt ((uPt ((uPt ((uPt Bz.1 (va_up (sPt Bz.1) 0 (upd (sPt Bz.1 0) (sNs Bz.1) x0)), Bz.2)).1 (va_up (sPt ((uPt Bz.1 (va_up (sPt Bz.1) 0 (upd (sPt Bz.1 0) (sNs Bz.1) x0)), Bz.2)).1) 1 (upd (sPt ((uPt Bz.1 (va_up (sPt Bz.1) 0 (upd (sPt Bz.1 0) (sNs Bz.1) x0)), Bz.2)).1 1) ((sNs Bz.1)) x1)), ((uPt Bz.1 (va_up (sPt Bz.1) 0 (upd (sPt Bz.1 0) (sNs Bz.1) x0)), Bz.2)).2)).1 (va_up (sPt ((uPt ((uPt Bz.1 (va_up (sPt Bz.1) 0 (upd (sPt Bz.1 0) (sNs Bz.1) x0)), Bz.2)).1 (va_up (sPt ((uPt Bz.1 (va_up (sPt Bz.1) 0 (upd (sPt Bz.1 0) (sNs Bz.1) x0)), Bz.2)).1) 1 (upd (sPt ((uPt Bz.1 (va_up (sPt Bz.1) 0 (upd (sPt Bz.1 0) (sNs Bz.1) x0)), Bz.2)).1 1) ((sNs Bz.1)) x1)), ((uPt Bz.1 (va_up (sPt Bz.1) 0 (upd (sPt Bz.1 0) (sNs Bz.1) x0)), Bz.2)).2)).1) 2 (upd (sPt ((uPt ((uPt Bz.1 (va_up (sPt Bz.1) 0 (upd (sPt Bz.1 0) (sNs Bz.1) x0)), Bz.2)).1 (va_up (sPt ((uPt Bz.1 (va_up (sPt Bz.1) 0 (upd (sPt Bz.1 0) (sNs Bz.1) x0)), Bz.2)).1) 1 (upd (sPt ((uPt Bz.1 (va_up (sPt Bz.1) 0 (upd (sPt Bz.1 0) (sNs Bz.1) x0)), Bz.2)).1 1) ((sNs Bz.1)) x1)), ((uPt Bz.1 (va_up (sPt Bz.1) 0 (upd (sPt Bz.1 0) (sNs Bz.1) x0)), Bz.2)).2)).1 2) ((sNs Bz.1)) x2)), ((uPt ((uPt Bz.1 (va_up (sPt Bz.1) 0 (upd (sPt Bz.1 0) (sNs Bz.1) x0)), Bz.2)).1 (va_up (sPt ((uPt Bz.1 (va_up (sPt Bz.1) 0 (upd (sPt Bz.1 0) (sNs Bz.1) x0)), Bz.2)).1) 1 (upd (sPt ((uPt Bz.1 (va_up (sPt Bz.1) 0 (upd (sPt Bz.1 0) (sNs Bz.1) x0)), Bz.2)).1 1) ((sNs Bz.1)) x1)), ((uPt Bz.1 (va_up (sPt Bz.1) 0 (upd (sPt Bz.1 0) (sNs Bz.1) x0)), Bz.2)).2)).2)).1 3) ((sNs Bz.1)) x3)), ((uPt ((uPt ((uPt Bz.1 (va_up (sPt Bz.1) 0 (upd (sPt Bz.1 0) (sNs Bz.1) x0)), Bz.2)).1 (va_up (sPt ((uPt Bz.1 (va_up (sPt Bz.1) 0 (upd (sPt Bz.1 0) (sNs Bz.1) x0)), Bz.2)).1) 1 (upd (sPt ((uPt Bz.1 (va_up (sPt Bz.1) 0 (upd (sPt Bz.1 0) (sNs Bz.1) x0)), Bz.2)).1 1) ((sNs Bz.1)) x1)), ((uPt Bz.1 (va_up (sPt Bz.1) 0 (upd (sPt Bz.1 0) (sNs Bz.1) x0)), Bz.2)).2)).1 (va_up (sPt ((uPt ((uPt Bz.1 (va_up (sPt Bz.1) 0 (upd (sPt Bz.1 0) (sNs Bz.1) x0)), Bz.2)).1 (va_up (sPt ((uPt Bz.1 (va_up (sPt Bz.1) 0 (upd (sPt Bz.1 0) (sNs Bz.1) x0)), Bz.2)).1) 1 (upd (sPt ((uPt Bz.1 (va_up (sPt Bz.1) 0 (upd (sPt Bz.1 0) (sNs Bz.1) x0)), Bz.2)).1 1) ((sNs Bz.1)) x1)), ((uPt Bz.1 (va_up (sPt Bz.1) 0 (upd (sPt Bz.1 0) (sNs Bz.1) x0)), Bz.2)).2)).1) 2 (upd (sPt ((uPt ((uPt Bz.1 (va_up (sPt Bz.1) 0 (upd (sPt Bz.1 0) (sNs Bz.1) x0)), Bz.2)).1 (va_up (sPt ((uPt Bz.1 (va_up (sPt Bz.1) 0 (upd (sPt Bz.1 0) (sNs Bz.1) x0)), Bz.2)).1) 1 (upd (sPt ((uPt Bz.1 (va_up (sPt Bz.1) 0 (upd (sPt Bz.1 0) (sNs Bz.1) x0)), Bz.2)).1 1) ((sNs Bz.1)) x1)), ((uPt Bz.1 (va_up (sPt Bz.1) 0 (upd (sPt Bz.1 0) (sNs Bz.1) x0)), Bz.2)).2)).1 2) ((sNs Bz.1)) x2)), ((uPt ((uPt Bz.1 (va_up (sPt Bz.1) 0 (upd (sPt Bz.1 0) (sNs Bz.1) x0)), Bz.2)).1 (va_up (sPt ((uPt Bz.1 (va_up (sPt Bz.1) 0 (upd (sPt Bz.1 0) (sNs Bz.1) x0)), Bz.2)).1) 1 (upd (sPt ((uPt Bz.1 (va_up (sPt Bz.1) 0 (upd (sPt Bz.1 0) (sNs Bz.1) x0)), Bz.2)).1 1) ((sNs Bz.1)) x1)), ((uPt Bz.1 (va_up (sPt Bz.1) 0 (upd (sPt Bz.1 0) (sNs Bz.1) x0)), Bz.2)).2)).2)).2)).1 4) ((sNs Bz.1)) x4)), ((uPt ((uPt ((uPt ((uPt Bz.1 (va_up (sPt Bz.1) 0 (upd (sPt Bz.1 0) (sNs Bz.1) x0)), Bz.2)).1 (va_up (sPt ((uPt Bz.1 (va_up (sPt Bz.1) 0 (upd (sPt Bz.1 0) (sNs Bz.1) x0)), Bz.2)).1) 1 (upd (sPt ((uPt Bz.1 (va_up (sPt Bz.1) 0 (upd (sPt Bz.1 0) (sNs Bz.1) x0)), Bz.2)).1 1) ((sNs Bz.1)) x1)), ((uPt Bz.1 (va_up (sPt Bz.1) 0 (upd (sPt Bz.1 0) (sNs Bz.1) x0)), Bz.2)).2)).1 (va_up (sPt ((uPt ((uPt Bz.1 (va_up (sPt Bz.1) 0 (upd (sPt Bz.1 0) (sNs Bz.1) x0)), Bz.2)).1 (va_up (sPt ((uPt Bz.1 (va_up (sPt Bz.1) 0 (upd (sPt Bz.1 0) (sNs Bz.1) x0)), Bz.2)).1) 1 (upd (sPt ((uPt Bz.1 (va_up (sPt Bz.1) 0 (upd (sPt Bz.1 0) (sNs Bz.1) x0)), Bz.2)).1 1) ((sNs Bz.1)) x1)), ((uPt Bz.1 (va_up (sPt Bz.1) 0 (upd (sPt Bz.1 0) (sNs Bz.1) x0)), Bz.2)).2)).1) 2 (upd (sPt ((uPt ((uPt Bz.1 (va_up (sPt Bz.1) 0 (upd (sPt Bz.1 0) (sNs Bz.1) x0)), Bz.2)).1 (va_up (sPt ((uPt Bz.1 (va_up (sPt Bz.1) 0 (upd (sPt Bz.1 0) (sNs Bz.1) x0)), Bz.2)).1) 1 (upd (sPt ((uPt Bz.1 (va_up (sPt Bz.1) 0 (upd (sPt Bz.1 0) (sNs Bz.1) x0)), Bz.2)).1 1) ((sNs Bz.1)) x1)), ((uPt Bz.1 (va_up (sPt Bz.1) 0 (upd (sPt Bz.1 0) (sNs Bz.1) x0)), Bz.2)).2)).1 2) ((sNs Bz.1)) x2)), ((uPt ((uPt Bz.1 (va_up (sPt Bz.1) 0 (upd (sPt Bz.1 0) (sNs Bz.1) x0)), Bz.2)).1 (va_up (sPt ((uPt Bz.1 (va_up (sPt Bz.1) 0 (upd (sPt Bz.1 0) (sNs Bz.1) x0)), Bz.2)).1) 1 (upd (sPt ((uPt Bz.1 (va_up (sPt Bz.1) 0 (upd (sPt Bz.1 0) (sNs Bz.1) x0)), Bz.2)).1 1) ((sNs Bz.1)) x1)), ((uPt Bz.1 (va_up (sPt Bz.1) 0 (upd (sPt Bz.1 0) (sNs Bz.1) x0)), Bz.2)).2)).2)).1 (va_up (sPt ((uPt ((uPt ((uPt Bz.1 (va_up (sPt Bz.1) 0 (upd (sPt Bz.1 0) (sNs Bz.1) x0)), Bz.2)).1 (va_up (sPt ((uPt Bz.1 (va_up (sPt Bz.1) 0 (upd (sPt Bz.1 0) (sNs Bz.1) x0)), Bz.2)).1) 1 (upd (sPt ((uPt Bz.1 (va_up (sPt Bz.1) 0 (upd (sPt Bz.1 0) (sNs Bz.1) x0)), Bz.2)).1 1) ((sNs Bz.1)) x1)), ((uPt Bz.1 (va_up (sPt Bz.1) 0 (upd (sPt Bz.1 0) (sNs Bz.1) x0)), Bz.2)).2)).1 (va_up (sPt ((uPt ((uPt Bz.1 (va_up (sPt Bz.1) 0 (upd (sPt Bz.1 0) (sNs Bz.1) x0)), Bz.2)).1 (va_up (sPt ((uPt Bz.1 (va_up (sPt Bz.1) 0 (upd (sPt Bz.1 0) (sNs Bz.1) x0)), Bz.2)).1) 1 (upd (sPt ((uPt Bz.1 (va_up (sPt Bz.1) 0 (upd (sPt Bz.1 0) (sNs Bz.1) x0)), Bz.2)).1 1) ((sNs Bz.1)) x1)), ((uPt Bz.1 (va_up (sPt Bz.1) 0 (upd (sPt Bz.1 0) (sNs Bz.1) x0)), Bz.2)).2)).1) 2 (upd (sPt ((uPt ((uPt Bz.1 (va_up (sPt Bz.1) 0 (upd (sPt Bz.1 0) (sNs Bz.1) x0)), Bz.2)).1 (va_up (sPt ((uPt Bz.1 (va_up (sPt Bz.1) 0 (upd (sPt Bz.1 0) (sNs Bz.1) x0)), Bz.2)).1) 1 (upd (sPt ((uPt Bz.1 (va_up (sPt Bz.1) 0 (upd (sPt Bz.1 0) (sNs Bz.1) x0)), Bz.2)).1 1) ((sNs Bz.1)) x1)), ((uPt Bz.1 (va_up (sPt Bz.1) 0 (upd (sPt Bz.1 0) (sNs Bz.1) x0)), Bz.2)).2)).1 2) ((sNs Bz.1)) x2)), ((uPt ((uPt Bz.1 (va_up (sPt Bz.1) 0 (upd (sPt Bz.1 0) (sNs Bz.1) x0)), Bz.2)).1 (va_up (sPt ((uPt Bz.1 (va_up (sPt Bz.1) 0 (upd (sPt Bz.1 0) (sNs Bz.1) x0)), Bz.2)).1) 1 (upd (sPt ((uPt Bz.1 (va_up (sPt Bz.1) 0 (upd (sPt Bz.1 0) (sNs Bz.1) x0)), Bz.2)).1 1) ((sNs Bz.1)) x1)), ((uPt Bz.1 (va_up (sPt Bz.1) 0 (upd (sPt Bz.1 0) (sNs Bz.1) x0)), Bz.2)).2)).2)).1) 3 (upd (sPt ((uPt ((uPt ((uPt Bz.1 (va_up (sPt Bz.1) 0 (upd (sPt Bz.1 0) (sNs Bz.1) x0)), Bz.2)).1 (va_up (sPt ((uPt Bz.1 (va_up (sPt Bz.1) 0 (upd (sPt Bz.1 0) (sNs Bz.1) x0)), Bz.2)).1) 1 (upd (sPt ((uPt Bz.1 (va_up (sPt Bz.1) 0 (upd (sPt Bz.1 0) (sNs Bz.1) x0)), Bz.2)).1 1) ((sNs Bz.1)) x1)), ((uPt Bz.1 (va_up (sPt Bz.1) 0 (upd (sPt Bz.1 0) (sNs Bz.1) x0)), Bz.2)).2)).1 (va_up (sPt ((uPt ((uPt Bz.1 (va_up (sPt Bz.1) 0 (upd (sPt Bz.1 0) (sNs Bz.1) x0)), Bz.2)).1 (va_up (sPt ((uPt Bz.1 (va_up (sPt Bz.1) 0 (upd (sPt Bz.1 0) (sNs Bz.1) x0)), Bz.2)).1) 1 (upd (sPt ((uPt Bz.1 (va_up (sPt Bz.1) 0 (upd (sPt Bz.1 0) (sNs Bz.1) x0)), Bz.2)).1 1) ((sNs Bz.1)) x1)), ((uPt Bz.1 (va_up (sPt Bz.1) 0 (upd (sPt Bz.1 0) (sNs Bz.1) x0)), Bz.2)).2)).1) 2 (upd (sPt ((uPt ((uPt Bz.1 (va_up (sPt Bz.1) 0 (upd (sPt Bz.1 0) (sNs Bz.1) x0)), Bz.2)).1 (va_up (sPt ((uPt Bz.1 (va_up (sPt Bz.1) 0 (upd (sPt Bz.1 0) (sNs Bz.1) x0)), Bz.2)).1) 1 (upd (sPt ((uPt Bz.1 (va_up (sPt Bz.1) 0 (upd (sPt Bz.1 0) (sNs Bz.1) x0)), Bz.2)).1 1) ((sNs Bz.1)) x1)), ((uPt Bz.1 (va_up (sPt Bz.1) 0 (upd (sPt Bz.1 0) (sNs Bz.1) x0)), Bz.2)).2)).1 2) ((sNs Bz.1)) x2)), ((uPt ((uPt Bz.1 (va_up (sPt Bz.1) 0 (upd (sPt Bz.1 0) (sNs Bz.1) x0)), Bz.2)).1 (va_up (sPt ((uPt Bz.1 (va_up (sPt Bz.1) 0 (upd (sPt Bz.1 0) (sNs Bz.1) x0)), Bz.2)).1) 1 (upd (sPt ((uPt Bz.1 (va_up (sPt Bz.1) 0 (upd (sPt Bz.1 0) (sNs Bz.1) x0)), Bz.2)).1 1) ((sNs Bz.1)) x1)), ((uPt Bz.1 (va_up (sPt Bz.1) 0 (upd (sPt Bz.1 0) (sNs Bz.1) x0)), Bz.2)).2)).2)).1 3) ((sNs Bz.1)) x3)), ((uPt ((uPt ((uPt Bz.1 (va_up (sPt Bz.1) 0 (upd (sPt Bz.1 0) (sNs Bz.1) x0)), Bz.2)).1 (va_up (sPt ((uPt Bz.1 (va_up (sPt Bz.1) 0 (upd (sPt Bz.1 0) (sNs Bz.1) x0)), Bz.2)).1) 1 (upd (sPt ((uPt Bz.1 (va_up (sPt Bz.1) 0 (upd (sPt Bz.1 0) (sNs Bz.1) x0)), Bz.2)).1 1) ((sNs Bz.1)) x1)), ((uPt Bz.1 (va_up (sPt Bz.1) 0 (upd (sPt Bz.1 0) (sNs Bz.1) x0)), Bz.2)).2)).1 (va_up (sPt ((uPt ((uPt Bz.1 (va_up (sPt Bz.1) 0 (upd (sPt Bz.1 0) (sNs Bz.1) x0)), Bz.2)).1 (va_up (sPt ((uPt Bz.1 (va_up (sPt Bz.1) 0 (upd (sPt Bz.1 0) (sNs Bz.1) x0)), Bz.2)).1) 1 (upd (sPt ((uPt Bz.1 (va_up (sPt Bz.1) 0 (upd (sPt Bz.1 0) (sNs Bz.1) x0)), Bz.2)).1 1) ((sNs Bz.1)) x1)), ((uPt Bz.1 (va_up (sPt Bz.1) 0 (upd (sPt Bz.1 0) (sNs Bz.1) x0)), Bz.2)).2)).1) 2 (upd (sPt ((uPt ((uPt Bz.1 (va_up (sPt Bz.1) 0 (upd (sPt Bz.1 0) (sNs Bz.1) x0)), Bz.2)).1 (va_up (sPt ((uPt Bz.1 (va_up (sPt Bz.1) 0 (upd (sPt Bz.1 0) (sNs Bz.1) x0)), Bz.2)).1) 1 (upd (sPt ((uPt Bz.1 (va_up (sPt Bz.1) 0 (upd (sPt Bz.1 0) (sNs Bz.1) x0)), Bz.2)).1 1) ((sNs Bz.1)) x1)), ((uPt Bz.1 (va_up (sPt Bz.1) 0 (upd (sPt Bz.1 0) (sNs Bz.1) x0)), Bz.2)).2)).1 2) ((sNs Bz.1)) x2)), ((uPt ((uPt Bz.1 (va_up (sPt Bz.1) 0 (upd (sPt Bz.1 0) (sNs Bz.1) x0)), Bz.2)).1 (va_up (sPt ((uPt Bz.1 (va_up (sPt Bz.1) 0 (upd (sPt Bz.1 0) (sNs Bz.1) x0)), Bz.2)).1) 1 (upd (sPt ((uPt Bz.1 (va_up (sPt Bz.1) 0 (upd (sPt Bz.1 0) (sNs Bz.1) x0)), Bz.2)).1 1) ((sNs Bz.1)) x1)), ((uPt Bz.1 (va_up (sPt Bz.1) 0 (upd (sPt Bz.1 0) (sNs Bz.1) x0)), Bz.2)).2)).2)).2)).2)).1) : Int32) = nI ((sNs Bz.1)) from rfl) ?_
  refine lv_iconst (v := nI 1) hx hb dX0_append_65 (by decide) ?_
  refine lv_iadd hx hb dX0_append_66 ?_
  refine lw_ti (show ((nI ((sNs Bz.1))) + (nI 1) : Int32) = nI (sNs Bz.1 + 1) from nI_add _ _) ?_
  refine fp_X0_27 C h hS dX0_append_67 (fun H locs h hS => ?_)
  exact eV C hret hlk (appS Bz.1 x0 x1 x2 x3 x4, Bz.2) (HB_eq h ⟨fun _ _ => ⟨rfl, rfl⟩, fun _ _ _ _ => rfl, fun _ _ _ _ => rfl, rfl, fun _ _ => rfl, fun _ _ => rfl, rfl, fun t q ht hq => by rcases (show t = 0 ∨ t = 1 ∨ t = 2 ∨ t = 3 ∨ t = 4 by omega) with rfl | rfl | rfl | rfl | rfl <;> by_cases hq2 : q = sNs Bz.1 <;> simp [appS, ptA, va_up, upd, hq2, sKd, sPl, sCe, sNb, sCo, sPe, sNs, sPt, sCm, sMv, sWv, uKd, uPl, uCe, uNb, uCo, uPe, uNs, uPt, uCm, uMv, uWv], rfl, fun _ _ => rfl, rfl⟩) hS rfl dX0_append_70

set_option maxHeartbeats 4000000 in
set_option maxRecDepth 100000 in
theorem c_colourOf (l : Launch) (G : Gx) (a : Nat → Nat) (Bz : BS) (hI : Inv Bz.1) (xz : Int64) : CtI l G 35 a (EB G a) yX2_colourOf cX2_colourOf 3 (some .int) 1 22 [.ref (a 0), .long xz] Bz (fun v u => Bz = u ∧ v = colO Bz.1 xz) := by
  refine ent_of (by decide) (Nat.le_of_ble_eq_true rfl) ?_
  intro p e s m below meth c ls C h hS hret hlk hl
  have C : Cx p s m _ c cX2_colourOf RX2 3 G := C
  have hx := C.1
  have hb := C.2.1
  have hl : lv_has ls 3 [(0, .ref (a 0)), (1, .long xz)] := hl
  refine lv_aload_n hx hb dX2_colourOf_0 rfl (lv_at hl 0 rfl) ?_
  refine lv_lload_n hx hb dX2_colourOf_1 rfl (lv_at hl 1 rfl) ?_
  refine kI (rV (As := [.long xz]) (rest := []) C h lk_X2_55 0 (by decide) rfl rfl rfl (c_isBead l G a _ hI.2.1 xz) ⟨Nat.le_of_ble_eq_true rfl, Nat.le_of_ble_eq_true rfl⟩ hl.1 rfl rfl (Nat.le_of_ble_eq_true rfl) dX2_colourOf_2 ⟨Nat.zero_le _, Nat.zero_le _⟩) hS (fun rv u H locs hp h hS => ?_)
  obtain ⟨rfl, rfl⟩ := hp
  rcases ixl_cases xz (n := sNb Bz.1) (by have := hI.2.1; omega) with hbd | ⟨j, hj, hxj, hbd⟩
  · refine lw_ti (b2i_f (fun q => q hbd)) ?_
    refine lv_if_eq (tgt := 18) hx hb dX2_colourOf_5 (by decide) (fun _ => ?_) (fun c0 => absurd c0 (by decide))
    refine lv_iconst (v := nI 0) hx hb dX2_colourOf_18 (by decide) ?_
    exact eI C hret hlk (Bz) h hS (⟨rfl, by simp [colO, hbd]⟩) dX2_colourOf_19
  · refine lw_ti (b2i_t (by rw [hbd]; exact fun q => by cases q)) ?_
    have hN := hI.2.1
    subst hxj
    refine lv_if_eq (tgt := 18) hx hb dX2_colourOf_5 (by decide) (fun c0 => absurd c0 (by decide)) (fun _ => ?_)
    refine lv_aload_n hx hb dX2_colourOf_8 rfl (lv_at hl 0 rfl) ?_
    refine fg_X2_15 C h dX2_colourOf_9 ?_
    refine lv_lload_n hx hb dX2_colourOf_12 rfl (lv_at hl 1 rfl) ?_
    refine lv_l2i hx hb dX2_colourOf_13 rfl ?_
    refine lw_ti (lN_i _) ?_
    refine al_co C h (by first | assumption | omega) dX2_colourOf_14 ?_
    refine lv_goto (tgt := 19) hx hb dX2_colourOf_15 (by decide) ?_
    exact eI C hret hlk (Bz) h hS (⟨rfl, by simp [colO, hbd]⟩) dX2_colourOf_19

set_option maxHeartbeats 4000000 in
set_option maxRecDepth 100000 in
theorem c_mayLie (l : Launch) (G : Gx) (a : Nat → Nat) (Bz : BS) (hI : Inv Bz.1) (k : Nat) (hk : k ≤ 9) (vz : Int64) : CtI l G 35 a (EB G a) yX2_mayLie cX2_mayLie 4 (some .boolean) 1 22 [.ref (a 0), .int (nI k), .long vz] Bz (fun v u => Bz = u ∧ v = b2i (mayL Bz.1 k vz)) := by
  refine ent_of (by decide) (Nat.le_of_ble_eq_true rfl) ?_
  intro p e s m below meth c ls C h hS hret hlk hl
  have C : Cx p s m _ c cX2_mayLie RX2 4 G := C
  have hx := C.1
  have hb := C.2.1
  have hl : lv_has ls 4 [(0, .ref (a 0)), (1, .int (nI k)), (2, .long vz)] := hl
  refine lv_iload_n hx hb dX2_mayLie_0 rfl (lv_at hl 1 rfl) ?_
  refine kI (rS (As := [.int (nI k)]) (rest := []) C h lk_X2_131 (c_holdsBeads l G a _ k hk) ⟨Nat.le_of_ble_eq_true rfl, Nat.le_of_ble_eq_true rfl⟩ hl.1 rfl rfl (Nat.le_of_ble_eq_true rfl) dX2_mayLie_1 ⟨Nat.zero_le _, Nat.zero_le _⟩) hS (fun rv u H locs hp h hS => ?_)
  obtain ⟨rfl, rfl⟩ := hp
  by_cases hP : k = 7 ∨ k = 8
  · refine lw_ti (b2i_t hP) ?_
    refine lv_if_eq (tgt := 15) hx hb dX2_mayLie_4 (by decide) (fun c0 => absurd c0 (by decide)) (fun _ => ?_)
    refine lv_lload_n hx hb dX2_mayLie_7 rfl (lv_at hl 2 rfl) ?_
    refine lv_ldc2 (v := -1) hx hb C.2.2.2.1 (C.2.2.2.2.1 _ (by decide +kernel)) dX2_mayLie_8 ?_
    refine W.lcmp hx hb dX2_mayLie_11 ?_
    refine lv_if_ne (tgt := 17) hx hb dX2_mayLie_12 (by decide) (fun c12 => ?_) (fun c12 => ?_)
    · have c12 : ¬ vz = (-1) := fun q => c12 ((lg_cmp_eq _ _).mpr q)
      refine lv_aload_n hx hb dX2_mayLie_17 rfl (lv_at hl 0 rfl) ?_
      refine lv_lload_n hx hb dX2_mayLie_18 rfl (lv_at hl 2 rfl) ?_
      refine kI (rV (As := [.long vz]) (rest := []) C h lk_X2_55 0 (by decide) rfl rfl rfl (c_isBead l G a _ hI.2.1 vz) ⟨Nat.le_of_ble_eq_true rfl, Nat.le_of_ble_eq_true rfl⟩ hl.1 rfl rfl (Nat.le_of_ble_eq_true rfl) dX2_mayLie_19 ⟨Nat.zero_le _, Nat.zero_le _⟩) hS (fun rv u H locs hp h hS => ?_)
      obtain ⟨rfl, rfl⟩ := hp
      rcases ixl_cases vz (n := sNb Bz.1) (by have := hI.2.1; omega) with hbd | ⟨j, hj, hxj, hbd⟩
      · refine lw_ti (b2i_f (fun q => q hbd)) ?_
        refine lv_if_eq (tgt := 45) hx hb dX2_mayLie_22 (by decide) (fun _ => ?_) (fun c0 => absurd c0 (by decide))
        refine lv_iconst (v := nI 0) hx hb dX2_mayLie_45 (by decide) ?_
        exact eZ C hret hlk (Bz) h hS (rfl) (⟨rfl, (b2i_f (by rintro (q | q | ⟨i, q, _⟩); exact q hP; exact c12 q; rw [hbd] at q; cases q)).symm⟩) dX2_mayLie_46
      · refine lw_ti (b2i_t (by rw [hbd]; exact fun q => by cases q)) ?_
        have hN := hI.2.1
        subst hxj
        refine lv_if_eq (tgt := 45) hx hb dX2_mayLie_22 (by decide) (fun c0 => absurd c0 (by decide)) (fun _ => ?_)
        refine lv_iload_n hx hb dX2_mayLie_25 rfl (lv_at hl 1 rfl) ?_
        refine lv_bipush (v := nI 7) hx hb dX2_mayLie_26 (by decide) ?_
        refine lv_icmp_eq (tgt := 41) hx hb dX2_mayLie_28 (by decide) (fun c28 => ?_) (fun c28 => ?_)
        · skip
          refine lv_iconst (v := nI 1) hx hb dX2_mayLie_41 (by decide) ?_
          refine lv_goto (tgt := 46) hx hb dX2_mayLie_42 (by decide) ?_
          exact eZ C hret hlk (Bz) h hS (rfl) (⟨rfl, (b2i_t (Or.inr (Or.inr ⟨j, hbd, Or.inl ((nI_eq (by omega) (by decide)).mp c28)⟩))).symm⟩) dX2_mayLie_46
        · skip
          refine lv_aload_n hx hb dX2_mayLie_31 rfl (lv_at hl 0 rfl) ?_
          refine fg_X2_19 C h dX2_mayLie_32 ?_
          refine lv_lload_n hx hb dX2_mayLie_35 rfl (lv_at hl 2 rfl) ?_
          refine lv_l2i hx hb dX2_mayLie_36 rfl ?_
          refine lw_ti (lN_i _) ?_
          refine al_pe C h (by first | assumption | omega) dX2_mayLie_37 ?_
          refine lv_if_eq (tgt := 45) hx hb dX2_mayLie_38 (by decide) (fun c38 => ?_) (fun c38 => ?_)
          · skip
            refine lv_iconst (v := nI 0) hx hb dX2_mayLie_45 (by decide) ?_
            exact eZ C hret hlk (Bz) h hS (rfl) (⟨rfl, (b2i_f (by rintro (q | q | ⟨i, q, q2⟩); exact q hP; exact c12 q; rw [hbd] at q; cases q; rcases q2 with q2 | q2; exact c28 (by rw [q2]); exact q2 c38)).symm⟩) dX2_mayLie_46
          · skip
            refine lv_iconst (v := nI 1) hx hb dX2_mayLie_41 (by decide) ?_
            refine lv_goto (tgt := 46) hx hb dX2_mayLie_42 (by decide) ?_
            exact eZ C hret hlk (Bz) h hS (rfl) (⟨rfl, (b2i_t (Or.inr (Or.inr ⟨j, hbd, Or.inr c38⟩))).symm⟩) dX2_mayLie_46
    · have c12 : vz = (-1) := (lg_cmp_eq _ _).mp c12
      refine lv_iconst (v := nI 1) hx hb dX2_mayLie_15 (by decide) ?_
      exact eZ C hret hlk (Bz) h hS (rfl) (⟨rfl, (b2i_t (Or.inr (Or.inl c12))).symm⟩) dX2_mayLie_16
  · refine lw_ti (b2i_f hP) ?_
    refine lv_if_eq (tgt := 15) hx hb dX2_mayLie_4 (by decide) (fun _ => ?_) (fun c0 => absurd c0 (by decide))
    refine lv_iconst (v := nI 1) hx hb dX2_mayLie_15 (by decide) ?_
    exact eZ C hret hlk (Bz) h hS (rfl) (⟨rfl, (b2i_t (Or.inl hP)).symm⟩) dX2_mayLie_16

set_option maxHeartbeats 4000000 in
set_option maxRecDepth 100000 in
theorem c_mayExchange (l : Launch) (G : Gx) (a : Nat → Nat) (Bz : BS) (k q : Nat) (hk : k ≤ 9) (hq : q ≤ 9) : CtI l G 35 a (EB G a) yX2_mayExchange cX2_mayExchange 2 (some .boolean) 1 20 [.int (nI k), .int (nI q)] Bz (fun v u => Bz = u ∧ v = b2i (exchP k q)) := by
  refine ent_of (by decide) (Nat.le_of_ble_eq_true rfl) ?_
  intro p e s m below meth c ls C h hS hret hlk hl
  have C : Cx p s m _ c cX2_mayExchange RX2 2 G := C
  have hx := C.1
  have hb := C.2.1
  have hl : lv_has ls 2 [(0, .int (nI k)), (1, .int (nI q))] := hl
  refine lv_iload_n hx hb dX2_mayExchange_0 rfl (lv_at hl 0 rfl) ?_
  refine lv_iload_n hx hb dX2_mayExchange_1 rfl (lv_at hl 1 rfl) ?_
  refine lv_icmp_eq (tgt := 19) hx hb dX2_mayExchange_2 (by decide) (fun c2 => ?_) (fun c2 => ?_)
  · skip
    refine lv_iconst (v := nI 1) hx hb dX2_mayExchange_19 (by decide) ?_
    refine lv_goto (tgt := 24) hx hb dX2_mayExchange_20 (by decide) ?_
    exact eZ C hret hlk (Bz) h hS (rfl) (⟨rfl, (b2i_t (Or.inl ((nI_eq (by omega) (by omega)).mp c2))).symm⟩) dX2_mayExchange_24
  · skip
    refine lv_iload_n hx hb dX2_mayExchange_5 rfl (lv_at hl 0 rfl) ?_
    refine kI (rS (As := [.int (nI k)]) (rest := []) C h lk_X2_131 (c_holdsBeads l G a _ k hk) ⟨Nat.le_of_ble_eq_true rfl, Nat.le_of_ble_eq_true rfl⟩ hl.1 rfl rfl (Nat.le_of_ble_eq_true rfl) dX2_mayExchange_6 ⟨Nat.zero_le _, Nat.zero_le _⟩) hS (fun rv u H locs hp h hS => ?_)
    obtain ⟨rfl, rfl⟩ := hp
    by_cases hP : k = 7 ∨ k = 8
    · refine lw_ti (b2i_t hP) ?_
      refine lv_if_eq (tgt := 23) hx hb dX2_mayExchange_9 (by decide) (fun c0 => absurd c0 (by decide)) (fun _ => ?_)
      refine lv_iload_n hx hb dX2_mayExchange_12 rfl (lv_at hl 1 rfl) ?_
      refine kI (rS (As := [.int (nI q)]) (rest := []) C h lk_X2_131 (c_holdsBeads l G a _ q hq) ⟨Nat.le_of_ble_eq_true rfl, Nat.le_of_ble_eq_true rfl⟩ hl.1 rfl rfl (Nat.le_of_ble_eq_true rfl) dX2_mayExchange_13 ⟨Nat.zero_le _, Nat.zero_le _⟩) hS (fun rv u H locs hp h hS => ?_)
      obtain ⟨rfl, rfl⟩ := hp
      by_cases hQ : q = 7 ∨ q = 8
      · refine lw_ti (b2i_t hQ) ?_
        refine lv_if_eq (tgt := 23) hx hb dX2_mayExchange_16 (by decide) (fun c0 => absurd c0 (by decide)) (fun _ => ?_)
        refine lv_iconst (v := nI 1) hx hb dX2_mayExchange_19 (by decide) ?_
        refine lv_goto (tgt := 24) hx hb dX2_mayExchange_20 (by decide) ?_
        exact eZ C hret hlk (Bz) h hS (rfl) (⟨rfl, (b2i_t (Or.inr ⟨hP, hQ⟩)).symm⟩) dX2_mayExchange_24
      · refine lw_ti (b2i_f hQ) ?_
        refine lv_if_eq (tgt := 23) hx hb dX2_mayExchange_16 (by decide) (fun _ => ?_) (fun c0 => absurd c0 (by decide))
        refine lv_iconst (v := nI 0) hx hb dX2_mayExchange_23 (by decide) ?_
        exact eZ C hret hlk (Bz) h hS (rfl) (⟨rfl, (b2i_f (by rintro (z | z); exact c2 (by rw [z]); exact hQ z.2)).symm⟩) dX2_mayExchange_24
    · refine lw_ti (b2i_f hP) ?_
      refine lv_if_eq (tgt := 23) hx hb dX2_mayExchange_9 (by decide) (fun _ => ?_) (fun c0 => absurd c0 (by decide))
      refine lv_iconst (v := nI 0) hx hb dX2_mayExchange_23 (by decide) ?_
      exact eZ C hret hlk (Bz) h hS (rfl) (⟨rfl, (b2i_f (by rintro (z | z); exact c2 (by rw [z]); exact hP z.1)).symm⟩) dX2_mayExchange_24

set_option maxHeartbeats 4000000 in
set_option maxRecDepth 100000 in
theorem c_mayCompare (l : Launch) (G : Gx) (a : Nat → Nat) (Bz : BS) (k q : Nat) (hk : k ≤ 9) (hq : q ≤ 9) : CtI l G 35 a (EB G a) yX2_mayCompare cX2_mayCompare 2 (some .boolean) 2 41 [.int (nI k), .int (nI q)] Bz (fun v u => Bz = u ∧ v = b2i (cmpP k q)) := by
  refine ent_of (by decide) (Nat.le_of_ble_eq_true rfl) ?_
  intro p e s m below meth c ls C h hS hret hlk hl
  have C : Cx p s m _ c cX2_mayCompare RX2 2 G := C
  have hx := C.1
  have hb := C.2.1
  have hl : lv_has ls 2 [(0, .int (nI k)), (1, .int (nI q))] := hl
  refine lv_iload_n hx hb dX2_mayCompare_0 rfl (lv_at hl 0 rfl) ?_
  refine lv_iload_n hx hb dX2_mayCompare_1 rfl (lv_at hl 1 rfl) ?_
  refine kI (rS (As := [.int (nI k), .int (nI q)]) (rest := []) C h lk_X2_139 (c_mayExchange l G a _ k q hk hq) ⟨Nat.le_of_ble_eq_true rfl, Nat.le_of_ble_eq_true rfl⟩ hl.1 rfl rfl (Nat.le_of_ble_eq_true rfl) dX2_mayCompare_2 ⟨Nat.zero_le _, Nat.zero_le _⟩) hS (fun rv u H locs hp h hS => ?_)
  obtain ⟨rfl, rfl⟩ := hp
  by_cases hE : exchP k q
  · refine lw_ti (b2i_t hE) ?_
    refine lv_if_ne (tgt := 22) hx hb dX2_mayCompare_5 (by decide) (fun _ => ?_) (fun c0 => absurd c0 (by decide))
    refine lv_iconst (v := nI 1) hx hb dX2_mayCompare_22 (by decide) ?_
    refine lv_goto (tgt := 27) hx hb dX2_mayCompare_23 (by decide) ?_
    exact eZ C hret hlk (Bz) h hS (rfl) (⟨rfl, (b2i_t (Or.inl hE)).symm⟩) dX2_mayCompare_27
  · refine lw_ti (b2i_f hE) ?_
    refine lv_if_ne (tgt := 22) hx hb dX2_mayCompare_5 (by decide) (fun c0 => absurd c0 (by decide)) (fun _ => ?_)
    refine lv_iload_n hx hb dX2_mayCompare_8 rfl (lv_at hl 0 rfl) ?_
    refine kI (rS (As := [.int (nI k)]) (rest := []) C h lk_X2_142 (c_holdsNumbers l G a _ k hk) ⟨Nat.le_of_ble_eq_true rfl, Nat.le_of_ble_eq_true rfl⟩ hl.1 rfl rfl (Nat.le_of_ble_eq_true rfl) dX2_mayCompare_9 ⟨Nat.zero_le _, Nat.zero_le _⟩) hS (fun rv u H locs hp h hS => ?_)
    obtain ⟨rfl, rfl⟩ := hp
    by_cases hP : 1 ≤ k ∧ k ≤ 5
    · refine lw_ti (b2i_t hP) ?_
      refine lv_if_eq (tgt := 26) hx hb dX2_mayCompare_12 (by decide) (fun c0 => absurd c0 (by decide)) (fun _ => ?_)
      refine lv_iload_n hx hb dX2_mayCompare_15 rfl (lv_at hl 1 rfl) ?_
      refine kI (rS (As := [.int (nI q)]) (rest := []) C h lk_X2_142 (c_holdsNumbers l G a _ q hq) ⟨Nat.le_of_ble_eq_true rfl, Nat.le_of_ble_eq_true rfl⟩ hl.1 rfl rfl (Nat.le_of_ble_eq_true rfl) dX2_mayCompare_16 ⟨Nat.zero_le _, Nat.zero_le _⟩) hS (fun rv u H locs hp h hS => ?_)
      obtain ⟨rfl, rfl⟩ := hp
      by_cases hQ : 1 ≤ q ∧ q ≤ 5
      · refine lw_ti (b2i_t hQ) ?_
        refine lv_if_eq (tgt := 26) hx hb dX2_mayCompare_19 (by decide) (fun c0 => absurd c0 (by decide)) (fun _ => ?_)
        refine lv_iconst (v := nI 1) hx hb dX2_mayCompare_22 (by decide) ?_
        refine lv_goto (tgt := 27) hx hb dX2_mayCompare_23 (by decide) ?_
        exact eZ C hret hlk (Bz) h hS (rfl) (⟨rfl, (b2i_t (Or.inr ⟨hP, hQ⟩)).symm⟩) dX2_mayCompare_27
      · refine lw_ti (b2i_f hQ) ?_
        refine lv_if_eq (tgt := 26) hx hb dX2_mayCompare_19 (by decide) (fun _ => ?_) (fun c0 => absurd c0 (by decide))
        refine lv_iconst (v := nI 0) hx hb dX2_mayCompare_26 (by decide) ?_
        exact eZ C hret hlk (Bz) h hS (rfl) (⟨rfl, (b2i_f (by rintro (z | z); exact hE z; exact hQ z.2)).symm⟩) dX2_mayCompare_27
    · refine lw_ti (b2i_f hP) ?_
      refine lv_if_eq (tgt := 26) hx hb dX2_mayCompare_12 (by decide) (fun _ => ?_) (fun c0 => absurd c0 (by decide))
      refine lv_iconst (v := nI 0) hx hb dX2_mayCompare_26 (by decide) ?_
      exact eZ C hret hlk (Bz) h hS (rfl) (⟨rfl, (b2i_f (by rintro (z | z); exact hE z; exact hP z.1)).symm⟩) dX2_mayCompare_27

set_option maxHeartbeats 4000000 in
set_option maxRecDepth 100000 in
theorem c_hindrance (l : Launch) (G : Gx) (a : Nat → Nat) (Bz : BS) (hI : Inv Bz.1) (q r : Nat) (hq : q < 8) (hr : r < 8) (iz jz nz : Int64) : CtI l G 35 a (EB G a) yX2_hindrance cX2_hindrance 8 (some .int) 2 41 [.ref (a (q + 11)), .long iz, .ref (a (r + 11)), .long jz, .long nz] Bz (fun v u => Bz = u ∧ v = nI (hind Bz.1 q r iz jz nz)) := by
  refine ent_of (by decide) (Nat.le_of_ble_eq_true rfl) ?_
  intro p e s m below meth c ls C h hS hret hlk hl
  have C : Cx p s m _ c cX2_hindrance RX2 8 G := C
  have hx := C.1
  have hb := C.2.1
  have hl : lv_has ls 8 [(0, .ref (a (q + 11))), (1, .long iz), (3, .ref (a (r + 11))), (4, .long jz), (6, .long nz)] := hl
  have hkq := hI.1 q hq
  have hkr := hI.1 r hr
  refine lv_aload_n hx hb dX2_hindrance_0 rfl (lv_at hl 0 rfl) ?_
  refine fg_X2_52 C h (by first | assumption | omega) dX2_hindrance_1 ?_
  refine lv_if_eq (tgt := 14) hx hb dX2_hindrance_4 (by decide) (fun c4 => ?_) (fun c4 => ?_)
  · skip
    refine lv_iconst (v := nI 1) hx hb dX2_hindrance_14 (by decide) ?_
    exact eI C hret hlk (Bz) h hS (⟨rfl, by unfold hind; rw [if_pos (Or.inl ((nI_z (by omega)).mp c4))]⟩) dX2_hindrance_15
  · skip
    refine lv_aload_n hx hb dX2_hindrance_7 rfl (lv_at hl 2 rfl) ?_
    refine fg_X2_52 C h (by first | assumption | omega) dX2_hindrance_8 ?_
    refine lv_if_ne (tgt := 16) hx hb dX2_hindrance_11 (by decide) (fun c11 => ?_) (fun c11 => ?_)
    · skip
      refine lv_aload_n hx hb dX2_hindrance_16 rfl (lv_at hl 0 rfl) ?_
      refine kI (rVN (As := []) (rest := []) C h lk_X2_134 (q + 11) (by omega) (EB_r _ _ _ (by first | assumption | omega)) rfl rfl (c_hasRow l G a _ q hq hkq.1) ⟨Nat.le_of_ble_eq_true rfl, Nat.le_of_ble_eq_true rfl⟩ hl.1 rfl rfl (Nat.le_of_ble_eq_true rfl) dX2_hindrance_17 ⟨Nat.zero_le _, Nat.zero_le _⟩) hS (fun rv u H locs hp h hS => ?_)
      obtain ⟨rfl, rfl⟩ := hp
      by_cases hP : ¬ (sKd Bz.1 q = 0 ∨ sKd Bz.1 q = 9)
      · refine lw_ti (b2i_t hP) ?_
        refine lv_if_eq (tgt := 44) hx hb dX2_hindrance_20 (by decide) (fun c0 => absurd c0 (by decide)) (fun _ => ?_)
        refine lv_aload_n hx hb dX2_hindrance_23 rfl (lv_at hl 2 rfl) ?_
        refine kI (rVN (As := []) (rest := []) C h lk_X2_134 (r + 11) (by omega) (EB_r _ _ _ (by first | assumption | omega)) rfl rfl (c_hasRow l G a _ r hr hkr.1) ⟨Nat.le_of_ble_eq_true rfl, Nat.le_of_ble_eq_true rfl⟩ hl.1 rfl rfl (Nat.le_of_ble_eq_true rfl) dX2_hindrance_24 ⟨Nat.zero_le _, Nat.zero_le _⟩) hS (fun rv u H locs hp h hS => ?_)
        obtain ⟨rfl, rfl⟩ := hp
        by_cases hQ : ¬ (sKd Bz.1 r = 0 ∨ sKd Bz.1 r = 9)
        · refine lw_ti (b2i_t hQ) ?_
          refine lv_if_eq (tgt := 44) hx hb dX2_hindrance_27 (by decide) (fun c0 => absurd c0 (by decide)) (fun _ => ?_)
          refine lv_aload_n hx hb dX2_hindrance_30 rfl (lv_at hl 0 rfl) ?_
          refine fg_X2_52 C h (by first | assumption | omega) dX2_hindrance_31 ?_
          refine lv_aload_n hx hb dX2_hindrance_34 rfl (lv_at hl 2 rfl) ?_
          refine fg_X2_52 C h (by first | assumption | omega) dX2_hindrance_35 ?_
          refine kI (rS (As := [.int (nI (sKd Bz.1 q)), .int (nI (sKd Bz.1 r))]) (rest := []) C h lk_X2_139 (c_mayExchange l G a _ _ _ hkq.1 hkr.1) ⟨Nat.le_of_ble_eq_true rfl, Nat.le_of_ble_eq_true rfl⟩ hl.1 rfl rfl (Nat.le_of_ble_eq_true rfl) dX2_hindrance_38 ⟨Nat.zero_le _, Nat.zero_le _⟩) hS (fun rv u H locs hp h hS => ?_)
          obtain ⟨rfl, rfl⟩ := hp
          by_cases hE : exchP (sKd Bz.1 q) (sKd Bz.1 r)
          · refine lw_ti (b2i_t hE) ?_
            refine lv_if_ne (tgt := 46) hx hb dX2_hindrance_41 (by decide) (fun _ => ?_) (fun c0 => absurd c0 (by decide))
            refine lv_aload_n hx hb dX2_hindrance_46 rfl (lv_at hl 0 rfl) ?_
            refine lv_lload_n hx hb dX2_hindrance_47 rfl (lv_at hl 1 rfl) ?_
            refine lv_lload hx hb dX2_hindrance_48 (lv_at hl 4 rfl) ?_
            refine kI (rVN (As := [.long iz, .long nz]) (rest := []) C h lk_X2_158 (q + 11) (by omega) (EB_r _ _ _ (by first | assumption | omega)) rfl rfl (c_hasStretch l G a _ q hq hkq.2 iz nz) ⟨Nat.le_of_ble_eq_true rfl, Nat.le_of_ble_eq_true rfl⟩ hl.1 rfl rfl (Nat.le_of_ble_eq_true rfl) dX2_hindrance_50 ⟨Nat.zero_le _, Nat.zero_le _⟩) hS (fun rv u H locs hp h hS => ?_)
            obtain ⟨rfl, rfl⟩ := hp
            by_cases hX : strP Bz.1 q iz nz
            · refine lw_ti (b2i_t hX) ?_
              refine lv_if_eq (tgt := 67) hx hb dX2_hindrance_53 (by decide) (fun c0 => absurd c0 (by decide)) (fun _ => ?_)
              refine lv_aload_n hx hb dX2_hindrance_56 rfl (lv_at hl 2 rfl) ?_
              refine lv_lload hx hb dX2_hindrance_57 (lv_at hl 3 rfl) ?_
              refine lv_lload hx hb dX2_hindrance_59 (lv_at hl 4 rfl) ?_
              refine kI (rVN (As := [.long jz, .long nz]) (rest := []) C h lk_X2_158 (r + 11) (by omega) (EB_r _ _ _ (by first | assumption | omega)) rfl rfl (c_hasStretch l G a _ r hr hkr.2 jz nz) ⟨Nat.le_of_ble_eq_true rfl, Nat.le_of_ble_eq_true rfl⟩ hl.1 rfl rfl (Nat.le_of_ble_eq_true rfl) dX2_hindrance_61 ⟨Nat.zero_le _, Nat.zero_le _⟩) hS (fun rv u H locs hp h hS => ?_)
              obtain ⟨rfl, rfl⟩ := hp
              by_cases hY : strP Bz.1 r jz nz
              · refine lw_ti (b2i_t hY) ?_
                refine lv_if_ne (tgt := 69) hx hb dX2_hindrance_64 (by decide) (fun _ => ?_) (fun c0 => absurd c0 (by decide))
                refine lv_iconst (v := nI 0) hx hb dX2_hindrance_69 (by decide) ?_
                exact eI C hret hlk (Bz) h hS (⟨rfl, by unfold hind; rw [if_neg (by rintro (z | z); exact c4 ((nI_z (by omega)).mpr z); exact c11 ((nI_z (by omega)).mpr z)), cif_f (by rintro (z | z | z); exact hP (Or.inr z); exact hQ (Or.inr z); exact z hE), cif_t ⟨hX, hY⟩]⟩) dX2_hindrance_70
              · refine lw_ti (b2i_f hY) ?_
                refine lv_if_ne (tgt := 69) hx hb dX2_hindrance_64 (by decide) (fun c0 => absurd c0 (by decide)) (fun _ => ?_)
                refine lv_iconst (v := nI 3) hx hb dX2_hindrance_67 (by decide) ?_
                exact eI C hret hlk (Bz) h hS (⟨rfl, by unfold hind; rw [if_neg (by rintro (z | z); exact c4 ((nI_z (by omega)).mpr z); exact c11 ((nI_z (by omega)).mpr z)), cif_f (by rintro (z | z | z); exact hP (Or.inr z); exact hQ (Or.inr z); exact z hE), cif_f (fun z => hY z.2)]⟩) dX2_hindrance_68
            · refine lw_ti (b2i_f hX) ?_
              refine lv_if_eq (tgt := 67) hx hb dX2_hindrance_53 (by decide) (fun _ => ?_) (fun c0 => absurd c0 (by decide))
              refine lv_iconst (v := nI 3) hx hb dX2_hindrance_67 (by decide) ?_
              exact eI C hret hlk (Bz) h hS (⟨rfl, by unfold hind; rw [if_neg (by rintro (z | z); exact c4 ((nI_z (by omega)).mpr z); exact c11 ((nI_z (by omega)).mpr z)), cif_f (by rintro (z | z | z); exact hP (Or.inr z); exact hQ (Or.inr z); exact z hE), cif_f (fun z => hX z.1)]⟩) dX2_hindrance_68
          · refine lw_ti (b2i_f hE) ?_
            refine lv_if_ne (tgt := 46) hx hb dX2_hindrance_41 (by decide) (fun c0 => absurd c0 (by decide)) (fun _ => ?_)
            refine lv_iconst (v := nI 2) hx hb dX2_hindrance_44 (by decide) ?_
            exact eI C hret hlk (Bz) h hS (⟨rfl, by unfold hind; rw [if_neg (by rintro (z | z); exact c4 ((nI_z (by omega)).mpr z); exact c11 ((nI_z (by omega)).mpr z)), cif_t (Or.inr (Or.inr hE))]⟩) dX2_hindrance_45
        · refine lw_ti (b2i_f hQ) ?_
          refine lv_if_eq (tgt := 44) hx hb dX2_hindrance_27 (by decide) (fun _ => ?_) (fun c0 => absurd c0 (by decide))
          refine lv_iconst (v := nI 2) hx hb dX2_hindrance_44 (by decide) ?_
          exact eI C hret hlk (Bz) h hS (⟨rfl, by unfold hind; rw [if_neg (by rintro (z | z); exact c4 ((nI_z (by omega)).mpr z); exact c11 ((nI_z (by omega)).mpr z)), cif_t (by rcases Classical.not_not.mp hQ with z | z; exact absurd ((nI_z (by omega)).mpr z) c11; exact Or.inr (Or.inl z))]⟩) dX2_hindrance_45
      · refine lw_ti (b2i_f hP) ?_
        refine lv_if_eq (tgt := 44) hx hb dX2_hindrance_20 (by decide) (fun _ => ?_) (fun c0 => absurd c0 (by decide))
        refine lv_iconst (v := nI 2) hx hb dX2_hindrance_44 (by decide) ?_
        exact eI C hret hlk (Bz) h hS (⟨rfl, by unfold hind; rw [if_neg (by rintro (z | z); exact c4 ((nI_z (by omega)).mpr z); exact c11 ((nI_z (by omega)).mpr z)), cif_t (by rcases Classical.not_not.mp hP with z | z; exact absurd ((nI_z (by omega)).mpr z) c4; exact Or.inl z)]⟩) dX2_hindrance_45
    · skip
      refine lv_iconst (v := nI 1) hx hb dX2_hindrance_14 (by decide) ?_
      exact eI C hret hlk (Bz) h hS (⟨rfl, by unfold hind; rw [if_pos (Or.inr ((nI_z (by omega)).mp c11))]⟩) dX2_hindrance_15

theorem cmn_step {S : St} {f : Nat → Int64} {i n k : Nat} (h : k < n) (hm : mayL S 8 (f (i + k))) : cmn S f i (n - k) k = cmn S f i (n - (k + 1)) (k + 1) := by
  rw [show n - k = (n - (k + 1)) + 1 by omega]
  exact cif_t hm
theorem cmn_stop {S : St} {f : Nat → Int64} {i n k : Nat} (h : k < n) (hm : ¬ mayL S 8 (f (i + k))) : cmn S f i (n - k) k = k := by
  rw [show n - k = (n - (k + 1)) + 1 by omega]
  exact cif_f hm

set_option maxHeartbeats 4000000 in
set_option maxRecDepth 100000 in
theorem c_mayCome (l : Launch) (G : Gx) (a : Nat → Nat) (Bz : BS) (hI : Inv Bz.1) (q r : Nat) (hq : q < 8) (hr : r < 8) (iz nz : Nat) (hin : iz + nz ≤ 40) : CtI l G 35 a (EB G a) yX2_mayCome cX2_mayCome 6 (some .int) 2 45 [.ref (a 0), .ref (a (q + 11)), .int (nI iz), .ref (a (r + 11)), .int (nI nz)] Bz (fun v u => Bz = u ∧ v = nI (comeC Bz.1 q r iz nz)) := by
  refine ent_of (by decide) (Nat.le_of_ble_eq_true rfl) ?_
  intro p e s m below meth c ls C h hS hret hlk hl
  have C : Cx p s m _ c cX2_mayCome RX2 6 G := C
  have hx := C.1
  have hb := C.2.1
  have hl : lv_has ls 6 [(0, .ref (a 0)), (1, .ref (a (q + 11))), (2, .int (nI iz)), (3, .ref (a (r + 11))), (4, .int (nI nz))] := hl
  have hkr := (hI.1 r hr).1
  have lp : ∀ (n : Nat) (kz : Nat) (H : Heap) (locs : List Loc) (ls : Array Slot), (kz ≤ nz) → (nz < kz + n) → (nI (sKd Bz.1 r) = nI 8) → (cmn Bz.1 (sCe Bz.1 q) iz (nz - kz) kz = cmn Bz.1 (sCe Bz.1 q) iz nz 0) →  HW G.1 35 a (EB G a (Bz)) H → va_S (Aw 35 a) s.heap H locs → lv_has ls 6 [(0, .ref (a 0)), (1, .ref (a (q + 11))), (2, .int (nI iz)), (3, .ref (a (r + 11))), (4, .int (nI nz)), (5, .int (nI kz))] → W p l e (rmB 2 45) s m ([.ref (a 0), .ref (a (q + 11)), .int (nI iz), .ref (a (r + 11)), .int (nI nz)].toArray) below meth c H locs 0 0 (MQ below (va_Qi (fun v u => Bz = u ∧ v = nI (comeC Bz.1 q r iz nz)) (fun u t => HW G.1 35 a (EB G a u) t.heap) (Aw 35 a)) ([.ref (a 0), .ref (a (q + 11)), .int (nI iz), .ref (a (r + 11)), .int (nI nz)].toArray) s 0 0 (Aw 35 a)) (F0 m 15 ls []) := by
    intro n
    induction n with
    | zero =>
      intro kz H locs ls hk hn c6 hc
      exact absurd hn (by omega)
    | succ n ih =>
      intro kz H locs ls hk hn c6 hc h hS hl
      refine lv_iload hx hb dX2_mayCome_15 (lv_at hl 5 rfl) ?_
      refine lv_iload hx hb dX2_mayCome_17 (lv_at hl 4 rfl) ?_
      refine lv_icmp_ge (tgt := 46) hx hb dX2_mayCome_19 (by decide) (fun c19 => ?_) (fun c19 => ?_)
      · skip
        refine lv_iload hx hb dX2_mayCome_46 (lv_at hl 5 rfl) ?_
        exact eI C hret hlk (Bz) h hS (⟨rfl, by unfold comeC; rw [if_pos ((nI_eq (by omega) (by decide)).mp c6), ← hc, show nz - kz = 0 by rw [nI_leI (by omega) (by omega)] at c19; omega, cmn]⟩) dX2_mayCome_48
      · skip
        have hkn : kz < nz := by rw [nI_leI (by omega) (by omega)] at c19; omega
        refine lv_aload_n hx hb dX2_mayCome_22 rfl (lv_at hl 0 rfl) ?_
        refine lv_bipush (v := nI 8) hx hb dX2_mayCome_23 (by decide) ?_
        refine lv_aload_n hx hb dX2_mayCome_25 rfl (lv_at hl 1 rfl) ?_
        refine fg_X2_74 C h (by first | assumption | omega) dX2_mayCome_26 ?_
        refine lv_iload_n hx hb dX2_mayCome_29 rfl (lv_at hl 2 rfl) ?_
        refine lv_iload hx hb dX2_mayCome_30 (lv_at hl 5 rfl) ?_
        refine lv_iadd hx hb dX2_mayCome_32 ?_
        refine lw_ti (show ((nI iz) + (nI kz) : Int32) = nI (iz + kz) from nI_add _ _) ?_
        refine al_ce C h (by first | assumption | omega) (by first | assumption | omega) dX2_mayCome_33 ?_
        refine kI (rV (As := [.int (nI 8), .long (sCe Bz.1 q (iz + kz))]) (rest := []) C h lk_X2_70 0 (by decide) rfl rfl rfl (c_mayLie l G a _ hI 8 (by decide) _) ⟨Nat.le_of_ble_eq_true rfl, Nat.le_of_ble_eq_true rfl⟩ hl.1 rfl rfl (Nat.le_of_ble_eq_true rfl) dX2_mayCome_34 ⟨Nat.zero_le _, Nat.zero_le _⟩) hS (fun rv u H locs hp h hS => ?_)
        obtain ⟨rfl, rfl⟩ := hp
        by_cases hm : mayL Bz.1 8 (sCe Bz.1 q (iz + kz))
        · refine lw_ti (b2i_t hm) ?_
          refine lv_if_eq (tgt := 46) hx hb dX2_mayCome_37 (by decide) (fun c0 => absurd c0 (by decide)) (fun _ => ?_)
          refine lv_iinc (v := nI (kz + 1)) (lv' := [(5, .int (nI (kz + 1))), (0, .ref (a 0)), (1, .ref (a (q + 11))), (2, .int (nI iz)), (3, .ref (a (r + 11))), (4, .int (nI nz))]) hx hb dX2_mayCome_40 hl (k := 5) rfl (nI_1 kz) (by decide) rfl (fun ls hl => ?_)
          refine lv_goto (tgt := 15) hx hb dX2_mayCome_43 (by decide) ?_
          exact ih (kz + 1) _ _ _ (by omega) (by omega) c6 ((cmn_step hkn hm).symm.trans hc) h hS (lv_sub hl [1, 2, 3, 4, 5, 0] rfl)
        · refine lw_ti (b2i_f hm) ?_
          refine lv_if_eq (tgt := 46) hx hb dX2_mayCome_37 (by decide) (fun _ => ?_) (fun c0 => absurd c0 (by decide))
          refine lv_iload hx hb dX2_mayCome_46 (lv_at hl 5 rfl) ?_
          exact eI C hret hlk (Bz) h hS (⟨rfl, by unfold comeC; rw [if_pos ((nI_eq (by omega) (by decide)).mp c6), ← hc, cmn_stop hkn hm]⟩) dX2_mayCome_48
  refine lv_aload_n hx hb dX2_mayCome_0 rfl (lv_at hl 3 rfl) ?_
  refine fg_X2_52 C h (by first | assumption | omega) dX2_mayCome_1 ?_
  refine lv_bipush (v := nI 8) hx hb dX2_mayCome_4 (by decide) ?_
  refine lv_icmp_eq (tgt := 12) hx hb dX2_mayCome_6 (by decide) (fun c6 => ?_) (fun c6 => ?_)
  · skip
    refine lv_iconst (v := nI 0) hx hb dX2_mayCome_12 (by decide) ?_
    refine lv_istore (lv' := [(5, .int (nI 0)), (0, .ref (a 0)), (1, .ref (a (q + 11))), (2, .int (nI iz)), (3, .ref (a (r + 11))), (4, .int (nI nz))]) hx hb dX2_mayCome_13 hl (by decide) rfl (fun ls hl => ?_)
    exact lp (nz + 1) 0 _ _ _ (by omega) (by omega) c6 rfl h hS (lv_sub hl [1, 2, 3, 4, 5, 0] rfl)
  · skip
    refine lv_iload hx hb dX2_mayCome_9 (lv_at hl 4 rfl) ?_
    exact eI C hret hlk (Bz) h hS (⟨rfl, by unfold comeC; rw [if_neg (fun z => c6 (by rw [z]))]⟩) dX2_mayCome_11

set_option maxHeartbeats 4000000 in
set_option maxRecDepth 100000 in
theorem c_blankPlace (l : Launch) (G : Gx) (a : Nat → Nat) (Bz : BS) (hI : Inv Bz.1) (r : Nat) (hr : r < 8) (q : Nat) (hq : q < sPl Bz.1 r) : CtV l G 35 a (EB G a) yX1_blankPlace cX1_blankPlace 2 none 2 40 [.ref (a (r + 11)), .int (nI q)] Bz (fun u => (putC Bz.1 r q (blk (sKd Bz.1 r)), Bz.2) = u) := by
  refine ent_of (by decide) (Nat.le_of_ble_eq_true rfl) ?_
  intro p e s m below meth c ls C h hS hret hlk hl
  have C : Cx p s m _ c cX1_blankPlace RX1 2 G := C
  have hx := C.1
  have hb := C.2.1
  have hl : lv_has ls 2 [(0, .ref (a (r + 11))), (1, .int (nI q))] := hl
  have hkr := hI.1 r hr
  refine lv_aload_n hx hb dX1_blankPlace_0 rfl (lv_at hl 0 rfl) ?_
  refine lv_iload_n hx hb dX1_blankPlace_1 rfl (lv_at hl 1 rfl) ?_
  refine kI (rV (As := [.int (nI q)]) (rest := []) C h lk_X1_29 (r + 11) (by omega) (EB_r _ _ _ (by first | assumption | omega)) rfl rfl (c_hasPlace l G a _ r hr hkr.2 (nI q)) ⟨Nat.le_of_ble_eq_true rfl, Nat.le_of_ble_eq_true rfl⟩ hl.1 rfl rfl (Nat.le_of_ble_eq_true rfl) dX1_blankPlace_2 ⟨Nat.zero_le _, Nat.zero_le _⟩) hS (fun rv u H locs hp h hS => ?_)
  obtain ⟨rfl, rfl⟩ := hp
  refine lw_ti (b2i_t (by rw [ix_nI hq (by omega)]; exact fun z => by cases z)) ?_
  refine lv_if_eq (tgt := 21) hx hb dX1_blankPlace_5 (by decide) (fun c0 => absurd c0 (by decide)) (fun _ => ?_)
  refine lv_aload_n hx hb dX1_blankPlace_8 rfl (lv_at hl 0 rfl) ?_
  refine fg_X1_9 C h (by first | assumption | omega) dX1_blankPlace_9 ?_
  refine lv_iload_n hx hb dX1_blankPlace_12 rfl (lv_at hl 1 rfl) ?_
  refine lv_aload_n hx hb dX1_blankPlace_13 rfl (lv_at hl 0 rfl) ?_
  refine fg_X1_18 C h (by first | assumption | omega) dX1_blankPlace_14 ?_
  refine kL (rSN (As := [.int (nI (sKd Bz.1 r))]) (rest := [.int (nI q), .ref (a (r + 19))]) C h lk_X1_25 (c_blank l G a _ _ hkr.1) ⟨Nat.le_of_ble_eq_true rfl, Nat.le_of_ble_eq_true rfl⟩ hl.1 rfl rfl (Nat.le_of_ble_eq_true rfl) dX1_blankPlace_17 ⟨Nat.zero_le _, Nat.zero_le _⟩) hS (fun rv u H locs hp h hS => ?_)
  obtain ⟨rfl, rfl⟩ := hp
  refine as_ce C h hS (by first | assumption | omega) (by first | assumption | omega) dX1_blankPlace_20 (fun H locs h hS => ?_)
  exact eV C hret hlk ((uCe Bz.1 (va_up (sCe Bz.1) r (vp_updL (sCe Bz.1 r) q (blk (sKd Bz.1 r)))), Bz.2)) h hS (rfl) dX1_blankPlace_21
