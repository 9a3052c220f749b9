set_option maxHeartbeats 4000000 in
set_option maxRecDepth 100000 in
theorem c_rackAt (l : Launch) (G : Gx) (a : Nat → Nat) (Bz : BS) (xz : Int32) : CtQ l G 35 a (EB G a) yX2_rackAt cX2_rackAt 2 (some (.object "BeadLoom$Rack")) 0 0 [.ref (a 0), .int xz] Bz (fun o u => Bz = u ∧ ((ix xz 8 = none ∧ o = none) ∨ ∃ r, r < 8 ∧ xz = nI r ∧ ix xz 8 = some r ∧ o = some (a (r + 11)))) := by
  refine ent_of (by decide) (Nat.le_of_ble_eq_true rfl) ?_
  intro p e s m below meth c ls C h hS hret hlk hl
  have C : Cx p s m _ c cX2_rackAt RX2 2 G := C
  have hx := C.1
  have hb := C.2.1
  have hl : lv_has ls 2 [(0, .ref (a 0)), (1, .int xz)] := hl
  refine lv_iload_n hx hb dX2_rackAt_0 rfl (lv_at hl 1 rfl) ?_
  refine lv_if_lt (tgt := 19) hx hb dX2_rackAt_1 (by decide) (fun c1 => ?_) (fun c1 => ?_)
  · skip
    refine lv_null hx hb dX2_rackAt_19 ?_
    exact eQ (none) C hret hlk (Bz) h hS (⟨rfl, Or.inl ⟨ix_neg c1, rfl⟩⟩) dX2_rackAt_20
  · skip
    refine lv_iload_n hx hb dX2_rackAt_4 rfl (lv_at hl 1 rfl) ?_
    refine lv_bipush (v := nI 8) hx hb dX2_rackAt_5 (by decide) ?_
    refine lv_icmp_ge (tgt := 19) hx hb dX2_rackAt_7 (by decide) (fun c7 => ?_) (fun c7 => ?_)
    · skip
      refine lv_null hx hb dX2_rackAt_19 ?_
      exact eQ (none) C hret hlk (Bz) h hS (⟨rfl, Or.inl ⟨ix_ge c7, rfl⟩⟩) dX2_rackAt_20
    · skip
      obtain ⟨r, hr, hxr, hrk⟩ := ix_of (by decide) c1 c7
      subst hxr
      refine lv_aload_n hx hb dX2_rackAt_10 rfl (lv_at hl 0 rfl) ?_
      refine fg_X2_11 C h dX2_rackAt_11 ?_
      refine lv_iload_n hx hb dX2_rackAt_14 rfl (lv_at hl 1 rfl) ?_
      refine al_rk C h (by first | assumption | omega) dX2_rackAt_15 ?_
      refine lv_goto (tgt := 20) hx hb dX2_rackAt_16 (by decide) ?_
      exact eQ (some (a (r + 11))) C hret hlk (Bz) h hS (⟨rfl, Or.inr ⟨r, hr, rfl, hrk, rfl⟩⟩) dX2_rackAt_20

set_option maxHeartbeats 4000000 in
set_option maxRecDepth 100000 in
theorem c_hasRow (l : Launch) (G : Gx) (a : Nat → Nat) (Bz : BS) (r : Nat) (hr : r < 8) (hk : sKd Bz.1 r ≤ 9) : CtI l G 35 a (EB G a) yX1_hasRow cX1_hasRow 1 (some .boolean) 0 0 [.ref (a (r + 11))] Bz (fun v u => Bz = u ∧ v = b2i (¬ (sKd Bz.1 r = 0 ∨ sKd Bz.1 r = 9))) := by
  refine ent_of (by decide) (Nat.le_of_ble_eq_true rfl) ?_
  intro p e s m below meth c ls C h hS hret hlk hl
  have C : Cx p s m _ c cX1_hasRow RX1 1 G := C
  have hx := C.1
  have hb := C.2.1
  have hl : lv_has ls 1 [(0, .ref (a (r + 11)))] := hl
  refine lv_aload_n hx hb dX1_hasRow_0 rfl (lv_at hl 0 rfl) ?_
  refine fg_X1_18 C h (by first | assumption | omega) dX1_hasRow_1 ?_
  refine lv_if_eq (tgt := 20) hx hb dX1_hasRow_4 (by decide) (fun c4 => ?_) (fun c4 => ?_)
  · skip
    refine lv_iconst (v := nI 0) hx hb dX1_hasRow_20 (by decide) ?_
    exact eZ C hret hlk (Bz) h hS (rfl) (⟨rfl, (b2i_f (by rw [nI_z (by omega)] at c4; omega)).symm⟩) dX1_hasRow_21
  · skip
    refine lv_aload_n hx hb dX1_hasRow_7 rfl (lv_at hl 0 rfl) ?_
    refine fg_X1_18 C h (by first | assumption | omega) dX1_hasRow_8 ?_
    refine lv_bipush (v := nI 9) hx hb dX1_hasRow_11 (by decide) ?_
    refine lv_icmp_eq (tgt := 20) hx hb dX1_hasRow_13 (by decide) (fun c13 => ?_) (fun c13 => ?_)
    · skip
      refine lv_iconst (v := nI 0) hx hb dX1_hasRow_20 (by decide) ?_
      exact eZ C hret hlk (Bz) h hS (rfl) (⟨rfl, (b2i_f (by rw [nI_eq (by omega) (by decide)] at c13; omega)).symm⟩) dX1_hasRow_21
    · skip
      refine lv_iconst (v := nI 1) hx hb dX1_hasRow_16 (by decide) ?_
      refine lv_goto (tgt := 21) hx hb dX1_hasRow_17 (by decide) ?_
      exact eZ C hret hlk (Bz) h hS (rfl) (⟨rfl, (b2i_t (by rw [nI_z (by omega)] at c4; rw [nI_eq (by omega) (by decide)] at c13; omega)).symm⟩) dX1_hasRow_21

set_option maxHeartbeats 4000000 in
set_option maxRecDepth 100000 in
theorem c_hasPlace (l : Launch) (G : Gx) (a : Nat → Nat) (Bz : BS) (r : Nat) (hr : r < 8) (hk : sPl Bz.1 r ≤ 40) (xz : Int32) : CtI l G 35 a (EB G a) yX1_hasPlace cX1_hasPlace 2 (some .boolean) 0 0 [.ref (a (r + 11)), .int xz] Bz (fun v u => Bz = u ∧ v = b2i (¬ ix xz (sPl Bz.1 r) = none)) := by
  refine ent_of (by decide) (Nat.le_of_ble_eq_true rfl) ?_
  intro p e s m below meth c ls C h hS hret hlk hl
  have C : Cx p s m _ c cX1_hasPlace RX1 2 G := C
  have hx := C.1
  have hb := C.2.1
  have hl : lv_has ls 2 [(0, .ref (a (r + 11))), (1, .int xz)] := hl
  refine lv_iload_n hx hb dX1_hasPlace_0 rfl (lv_at hl 1 rfl) ?_
  refine lv_if_lt (tgt := 16) hx hb dX1_hasPlace_1 (by decide) (fun c1 => ?_) (fun c1 => ?_)
  · skip
    refine lv_iconst (v := nI 0) hx hb dX1_hasPlace_16 (by decide) ?_
    exact eZ C hret hlk (Bz) h hS (rfl) (⟨rfl, (b2i_f (fun q => q (ix_neg c1))).symm⟩) dX1_hasPlace_17
  · skip
    refine lv_iload_n hx hb dX1_hasPlace_4 rfl (lv_at hl 1 rfl) ?_
    refine lv_aload_n hx hb dX1_hasPlace_5 rfl (lv_at hl 0 rfl) ?_
    refine fg_X1_22 C h (by first | assumption | omega) dX1_hasPlace_6 ?_
    refine lv_icmp_ge (tgt := 16) hx hb dX1_hasPlace_9 (by decide) (fun c9 => ?_) (fun c9 => ?_)
    · skip
      refine lv_iconst (v := nI 0) hx hb dX1_hasPlace_16 (by decide) ?_
      exact eZ C hret hlk (Bz) h hS (rfl) (⟨rfl, (b2i_f (fun q => q (ix_ge c9))).symm⟩) dX1_hasPlace_17
    · skip
      refine lv_iconst (v := nI 1) hx hb dX1_hasPlace_12 (by decide) ?_
      refine lv_goto (tgt := 17) hx hb dX1_hasPlace_13 (by decide) ?_
      exact eZ C hret hlk (Bz) h hS (rfl) (⟨rfl, (b2i_t (by obtain ⟨j, _, _, hj⟩ := ix_of (by omega) c1 c9; rw [hj]; exact fun q => by cases q)).symm⟩) dX1_hasPlace_17

set_option maxHeartbeats 4000000 in
set_option maxRecDepth 100000 in
theorem c_hasStretch (l : Launch) (G : Gx) (a : Nat → Nat) (Bz : BS) (r : Nat) (hr : r < 8) (hk : sPl Bz.1 r ≤ 40) (xz nz : Int64) : CtI l G 35 a (EB G a) yX1_hasStretch cX1_hasStretch 5 (some .boolean) 0 0 [.ref (a (r + 11)), .long xz, .long nz] Bz (fun v u => Bz = u ∧ v = b2i (strP Bz.1 r xz nz)) := by
  refine ent_of (by decide) (Nat.le_of_ble_eq_true rfl) ?_
  intro p e s m below meth c ls C h hS hret hlk hl
  have C : Cx p s m _ c cX1_hasStretch RX1 5 G := C
  have hx := C.1
  have hb := C.2.1
  have hl : lv_has ls 5 [(0, .ref (a (r + 11))), (1, .long xz), (3, .long nz)] := hl
  refine lv_lload_n hx hb dX1_hasStretch_0 rfl (lv_at hl 1 rfl) ?_
  refine lv_lconst (v := lN 0) hx hb dX1_hasStretch_1 rfl ?_
  refine W.lcmp hx hb dX1_hasStretch_2 ?_
  refine lv_if_lt (tgt := 28) hx hb dX1_hasStretch_3 (by decide) (fun c3 => ?_) (fun c3 => ?_)
  · have c3 := (lg_cmp_lt _ _).mp c3
    refine lv_iconst (v := nI 0) hx hb dX1_hasStretch_28 (by decide) ?_
    exact eZ C hret hlk (Bz) h hS (rfl) (⟨rfl, (b2i_f (fun q => q.1 c3)).symm⟩) dX1_hasStretch_29
  · have c3 : ¬ xz < (lN 0) := fun q => c3 ((lg_cmp_lt _ _).mpr q)
    refine lv_lload_n hx hb dX1_hasStretch_6 rfl (lv_at hl 2 rfl) ?_
    refine lv_lconst (v := lN 0) hx hb dX1_hasStretch_7 rfl ?_
    refine W.lcmp hx hb dX1_hasStretch_8 ?_
    refine lv_if_lt (tgt := 28) hx hb dX1_hasStretch_9 (by decide) (fun c9 => ?_) (fun c9 => ?_)
    · have c9 := (lg_cmp_lt _ _).mp c9
      refine lv_iconst (v := nI 0) hx hb dX1_hasStretch_28 (by decide) ?_
      exact eZ C hret hlk (Bz) h hS (rfl) (⟨rfl, (b2i_f (fun q => q.2.1 c9)).symm⟩) dX1_hasStretch_29
    · have c9 : ¬ nz < (lN 0) := fun q => c9 ((lg_cmp_lt _ _).mpr q)
      refine lv_lload_n hx hb dX1_hasStretch_12 rfl (lv_at hl 1 rfl) ?_
      refine lv_lload_n hx hb dX1_hasStretch_13 rfl (lv_at hl 2 rfl) ?_
      refine lv_ladd hx hb dX1_hasStretch_14 ?_
      refine lv_aload_n hx hb dX1_hasStretch_15 rfl (lv_at hl 0 rfl) ?_
      refine fg_X1_22 C h (by first | assumption | omega) dX1_hasStretch_16 ?_
      refine lv_i2l hx hb dX1_hasStretch_19 rfl ?_
      refine lw_tl (nI_l (by omega)) ?_
      refine W.lcmp hx hb dX1_hasStretch_20 ?_
      refine lv_if_gt (tgt := 28) hx hb dX1_hasStretch_21 (by decide) (fun c21 => ?_) (fun c21 => ?_)
      · have c21 := (lg_cmp_gt _ _).mp c21
        refine lv_iconst (v := nI 0) hx hb dX1_hasStretch_28 (by decide) ?_
        exact eZ C hret hlk (Bz) h hS (rfl) (⟨rfl, (b2i_f (fun q => q.2.2 c21)).symm⟩) dX1_hasStretch_29
      · have c21 : ¬ (lN (sPl Bz.1 r)) < (xz + nz) := fun q => c21 ((lg_cmp_gt _ _).mpr q)
        refine lv_iconst (v := nI 1) hx hb dX1_hasStretch_24 (by decide) ?_
        refine lv_goto (tgt := 29) hx hb dX1_hasStretch_25 (by decide) ?_
        exact eZ C hret hlk (Bz) h hS (rfl) (⟨rfl, (b2i_t (⟨c3, c9, c21⟩)).symm⟩) dX1_hasStretch_29

set_option maxHeartbeats 4000000 in
set_option maxRecDepth 100000 in
theorem c_isFull (l : Launch) (G : Gx) (a : Nat → Nat) (Bz : BS) (hk : sNs Bz.1 ≤ 24) : CtI l G 35 a (EB G a) yX0_isFull cX0_isFull 1 (some .boolean) 0 0 [.ref (a 4)] Bz (fun v u => Bz = u ∧ v = b2i (24 ≤ sNs Bz.1)) := by
  refine ent_of (by decide) (Nat.le_of_ble_eq_true rfl) ?_
  intro p e s m below meth c ls C h hS hret hlk hl
  have C : Cx p s m _ c cX0_isFull RX0 1 G := C
  have hx := C.1
  have hb := C.2.1
  have hl : lv_has ls 1 [(0, .ref (a 4))] := hl
  refine lv_aload_n hx hb dX0_isFull_0 rfl (lv_at hl 0 rfl) ?_
  refine fg_X0_27 C h dX0_isFull_1 ?_
  refine lv_bipush (v := nI 24) hx hb dX0_isFull_4 (by decide) ?_
  refine lv_icmp_lt (tgt := 13) hx hb dX0_isFull_6 (by decide) (fun c6 => ?_) (fun c6 => ?_)
  · skip
    refine lv_iconst (v := nI 0) hx hb dX0_isFull_13 (by decide) ?_
    exact eZ C hret hlk (Bz) h hS (rfl) (⟨rfl, (b2i_f (by rw [nI_ltI (by omega) (by decide)] at c6; omega)).symm⟩) dX0_isFull_14
  · skip
    refine lv_iconst (v := nI 1) hx hb dX0_isFull_9 (by decide) ?_
    refine lv_goto (tgt := 14) hx hb dX0_isFull_10 (by decide) ?_
    exact eZ C hret hlk (Bz) h hS (rfl) (⟨rfl, (b2i_t (by rw [nI_ltI (by omega) (by decide)] at c6; omega)).symm⟩) dX0_isFull_14

set_option maxHeartbeats 4000000 in
set_option maxRecDepth 100000 in
theorem c_isBead (l : Launch) (G : Gx) (a : Nat → Nat) (Bz : BS) (hk : sNb Bz.1 ≤ 200) (xz : Int64) : CtI l G 35 a (EB G a) yX2_isBead cX2_isBead 3 (some .boolean) 0 0 [.ref (a 0), .long xz] Bz (fun v u => Bz = u ∧ v = b2i (¬ ixl xz (sNb Bz.1) = none)) := by
  refine ent_of (by decide) (Nat.le_of_ble_eq_true rfl) ?_
  intro p e s m below meth c ls C h hS hret hlk hl
  have C : Cx p s m _ c cX2_isBead RX2 3 G := C
  have hx := C.1
  have hb := C.2.1
  have hl : lv_has ls 3 [(0, .ref (a 0)), (1, .long xz)] := hl
  refine lv_lload_n hx hb dX2_isBead_0 rfl (lv_at hl 1 rfl) ?_
  refine lv_lconst (v := lN 0) hx hb dX2_isBead_1 rfl ?_
  refine W.lcmp hx hb dX2_isBead_2 ?_
  refine lv_if_lt (tgt := 20) hx hb dX2_isBead_3 (by decide) (fun c3 => ?_) (fun c3 => ?_)
  · have c3 := (lg_cmp_lt _ _).mp c3
    refine lv_iconst (v := nI 0) hx hb dX2_isBead_20 (by decide) ?_
    exact eZ C hret hlk (Bz) h hS (rfl) (⟨rfl, (b2i_f (fun q => q (ixl_neg c3))).symm⟩) dX2_isBead_21
  · have c3 : ¬ xz < (lN 0) := fun q => c3 ((lg_cmp_lt _ _).mpr q)
    refine lv_lload_n hx hb dX2_isBead_6 rfl (lv_at hl 1 rfl) ?_
    refine lv_aload_n hx hb dX2_isBead_7 rfl (lv_at hl 0 rfl) ?_
    refine fg_X2_33 C h dX2_isBead_8 ?_
    refine lv_i2l hx hb dX2_isBead_11 rfl ?_
    refine lw_tl (nI_l (by omega)) ?_
    refine W.lcmp hx hb dX2_isBead_12 ?_
    refine lv_if_ge (tgt := 20) hx hb dX2_isBead_13 (by decide) (fun c13 => ?_) (fun c13 => ?_)
    · have c13 := (lg_cmp_ge _ _).mp c13
      refine lv_iconst (v := nI 0) hx hb dX2_isBead_20 (by decide) ?_
      exact eZ C hret hlk (Bz) h hS (rfl) (⟨rfl, (b2i_f (fun q => q (ixl_ge c13))).symm⟩) dX2_isBead_21
    · have c13 : ¬ (lN (sNb Bz.1)) ≤ xz := fun q => c13 ((lg_cmp_ge _ _).mpr q)
      refine lv_iconst (v := nI 1) hx hb dX2_isBead_16 (by decide) ?_
      refine lv_goto (tgt := 21) hx hb dX2_isBead_17 (by decide) ?_
      exact eZ C hret hlk (Bz) h hS (rfl) (⟨rfl, (b2i_t (by obtain ⟨j, _, _, hj⟩ := ixl_of (by omega) c3 c13; rw [hj]; exact fun q => by cases q)).symm⟩) dX2_isBead_21

set_option maxHeartbeats 4000000 in
set_option maxRecDepth 100000 in
theorem c_holdsBeads (l : Launch) (G : Gx) (a : Nat → Nat) (Bz : BS) (k : Nat) (hk : k ≤ 9) : CtI l G 35 a (EB G a) yX2_holdsBeads cX2_holdsBeads 1 (some .boolean) 0 0 [.int (nI k)] Bz (fun v u => Bz = u ∧ v = b2i (k = 7 ∨ k = 8)) := by
  refine ent_of (by decide) (Nat.le_of_ble_eq_true rfl) ?_
  intro p e s m below meth c ls C h hS hret hlk hl
  have C : Cx p s m _ c cX2_holdsBeads RX2 1 G := C
  have hx := C.1
  have hb := C.2.1
  have hl : lv_has ls 1 [(0, .int (nI k))] := hl
  refine lv_iload_n hx hb dX2_holdsBeads_0 rfl (lv_at hl 0 rfl) ?_
  refine lv_bipush (v := nI 7) hx hb dX2_holdsBeads_1 (by decide) ?_
  refine lv_icmp_eq (tgt := 12) hx hb dX2_holdsBeads_3 (by decide) (fun c3 => ?_) (fun c3 => ?_)
  · skip
    refine lv_iconst (v := nI 1) hx hb dX2_holdsBeads_12 (by decide) ?_
    refine lv_goto (tgt := 17) hx hb dX2_holdsBeads_13 (by decide) ?_
    exact eZ C hret hlk (Bz) h hS (rfl) (⟨rfl, (b2i_t (by rw [nI_eq (by omega) (by decide)] at c3; omega)).symm⟩) dX2_holdsBeads_17
  · skip
    refine lv_iload_n hx hb dX2_holdsBeads_6 rfl (lv_at hl 0 rfl) ?_
    refine lv_bipush (v := nI 8) hx hb dX2_holdsBeads_7 (by decide) ?_
    refine lv_icmp_ne (tgt := 16) hx hb dX2_holdsBeads_9 (by decide) (fun c9 => ?_) (fun c9 => ?_)
    · skip
      refine lv_iconst (v := nI 0) hx hb dX2_holdsBeads_16 (by decide) ?_
      exact eZ C hret hlk (Bz) h hS (rfl) (⟨rfl, (b2i_f (by rw [nI_eq (by omega) (by decide)] at c3; rw [nI_eq (by omega) (by decide)] at c9; omega)).symm⟩) dX2_holdsBeads_17
    · skip
      refine lv_iconst (v := nI 1) hx hb dX2_holdsBeads_12 (by decide) ?_
      refine lv_goto (tgt := 17) hx hb dX2_holdsBeads_13 (by decide) ?_
      exact eZ C hret hlk (Bz) h hS (rfl) (⟨rfl, (b2i_t (by rw [nI_eq (by omega) (by decide)] at c3; rw [nI_eq (by omega) (by decide)] at c9; omega)).symm⟩) dX2_holdsBeads_17

set_option maxHeartbeats 4000000 in
set_option maxRecDepth 100000 in
theorem c_holdsNumbers (l : Launch) (G : Gx) (a : Nat → Nat) (Bz : BS) (k : Nat) (hk : k ≤ 9) : CtI l G 35 a (EB G a) yX2_holdsNumbers cX2_holdsNumbers 1 (some .boolean) 0 0 [.int (nI k)] Bz (fun v u => Bz = u ∧ v = b2i (1 ≤ k ∧ k ≤ 5)) := by
  refine ent_of (by decide) (Nat.le_of_ble_eq_true rfl) ?_
  intro p e s m below meth c ls C h hS hret hlk hl
  have C : Cx p s m _ c cX2_holdsNumbers RX2 1 G := C
  have hx := C.1
  have hb := C.2.1
  have hl : lv_has ls 1 [(0, .int (nI k))] := hl
  refine lv_iload_n hx hb dX2_holdsNumbers_0 rfl (lv_at hl 0 rfl) ?_
  refine lv_iconst (v := nI 1) hx hb dX2_holdsNumbers_1 (by decide) ?_
  refine lv_icmp_lt (tgt := 14) hx hb dX2_holdsNumbers_2 (by decide) (fun c2 => ?_) (fun c2 => ?_)
  · skip
    refine lv_iconst (v := nI 0) hx hb dX2_holdsNumbers_14 (by decide) ?_
    exact eZ C hret hlk (Bz) h hS (rfl) (⟨rfl, (b2i_f (by rw [nI_ltI (by omega) (by omega)] at c2; omega)).symm⟩) dX2_holdsNumbers_15
  · skip
    refine lv_iload_n hx hb dX2_holdsNumbers_5 rfl (lv_at hl 0 rfl) ?_
    refine lv_iconst (v := nI 5) hx hb dX2_holdsNumbers_6 (by decide) ?_
    refine lv_icmp_gt (tgt := 14) hx hb dX2_holdsNumbers_7 (by decide) (fun c7 => ?_) (fun c7 => ?_)
    · skip
      refine lv_iconst (v := nI 0) hx hb dX2_holdsNumbers_14 (by decide) ?_
      exact eZ C hret hlk (Bz) h hS (rfl) (⟨rfl, (b2i_f (by rw [nI_ltI (by omega) (by omega)] at c2; rw [nI_ltI (by omega) (by omega)] at c7; omega)).symm⟩) dX2_holdsNumbers_15
    · skip
      refine lv_iconst (v := nI 1) hx hb dX2_holdsNumbers_10 (by decide) ?_
      refine lv_goto (tgt := 15) hx hb dX2_holdsNumbers_11 (by decide) ?_
      exact eZ C hret hlk (Bz) h hS (rfl) (⟨rfl, (b2i_t (by rw [nI_ltI (by omega) (by omega)] at c2; rw [nI_ltI (by omega) (by omega)] at c7; omega)).symm⟩) dX2_holdsNumbers_15

set_option maxHeartbeats 4000000 in
set_option maxRecDepth 100000 in
theorem c_blank (l : Launch) (G : Gx) (a : Nat → Nat) (Bz : BS) (k : Nat) (hk : k ≤ 9) : CtL l G 35 a (EB G a) yX2_blank cX2_blank 1 (some .long) 1 20 [.int (nI k)] Bz (fun v u => Bz = u ∧ v = blk k) := by
  refine ent_of (by decide) (Nat.le_of_ble_eq_true rfl) ?_
  intro p e s m below meth c ls C h hS hret hlk hl
  have C : Cx p s m _ c cX2_blank RX2 1 G := C
  have hx := C.1
  have hb := C.2.1
  have hl : lv_has ls 1 [(0, .int (nI k))] := hl
  refine lv_iload_n hx hb dX2_blank_0 rfl (lv_at hl 0 rfl) ?_
  refine kI (rS (As := [.int (nI k)]) (rest := []) C h lk_X2_131 (c_holdsBeads l G a Bz k hk) ⟨Nat.le_of_ble_eq_true rfl, Nat.le_of_ble_eq_true rfl⟩ hl.1 rfl rfl (Nat.le_of_ble_eq_true rfl) dX2_blank_1 ⟨Nat.zero_le _, Nat.zero_le _⟩) hS (fun rv u H locs hp h hS => ?_)
  obtain ⟨rfl, rfl⟩ := hp
  by_cases hP : k = 7 ∨ k = 8
  · refine lw_ti (b2i_t hP) ?_
    refine lv_if_eq (tgt := 13) hx hb dX2_blank_4 (by decide) (fun c0 => absurd c0 (by decide)) (fun _ => ?_)
    refine lv_ldc2 (v := -1) hx hb C.2.2.2.1 (C.2.2.2.2.1 _ (by decide +kernel)) dX2_blank_7 ?_
    refine lv_goto (tgt := 14) hx hb dX2_blank_10 (by decide) ?_
    exact eL C hret hlk (Bz) h hS (⟨rfl, (if_pos hP).symm⟩) dX2_blank_14
  · refine lw_ti (b2i_f hP) ?_
    refine lv_if_eq (tgt := 13) hx hb dX2_blank_4 (by decide) (fun _ => ?_) (fun c0 => absurd c0 (by decide))
    refine lv_lconst (v := lN 0) hx hb dX2_blank_13 rfl ?_
    exact eL C hret hlk (Bz) h hS (⟨rfl, (if_neg hP).symm⟩) dX2_blank_14

set_option maxHeartbeats 4000000 in
set_option maxRecDepth 100000 in
theorem c_thingsBehind (l : Launch) (G : Gx) (a : Nat → Nat) (Bz : BS) (r : Nat) (hr : r < 8) (hk : sPl Bz.1 r ≤ 40) (xz : Int32) : CtL l G 35 a (EB G a) yX2_thingsBehind cX2_thingsBehind 2 (some .long) 0 0 [.ref (a (r + 11)), .int xz] Bz (fun v u => Bz = u ∧ v = lN (sPl Bz.1 r) - lN 1 - xz.toInt64) := by
  refine ent_of (by decide) (Nat.le_of_ble_eq_true rfl) ?_
  intro p e s m below meth c ls C h hS hret hlk hl
  have C : Cx p s m _ c cX2_thingsBehind RX2 2 G := C
  have hx := C.1
  have hb := C.2.1
  have hl : lv_has ls 2 [(0, .ref (a (r + 11))), (1, .int xz)] := hl
  refine lv_aload_n hx hb dX2_thingsBehind_0 rfl (lv_at hl 0 rfl) ?_
  refine fg_X2_94 C h (by first | assumption | omega) dX2_thingsBehind_1 ?_
  refine lv_i2l hx hb dX2_thingsBehind_4 rfl ?_
  refine lw_tl (nI_l (by omega)) ?_
  refine lv_lconst (v := lN 1) hx hb dX2_thingsBehind_5 rfl ?_
  refine lv_lsub hx hb dX2_thingsBehind_6 ?_
  refine lv_iload_n hx hb dX2_thingsBehind_7 rfl (lv_at hl 1 rfl) ?_
  refine lv_i2l hx hb dX2_thingsBehind_8 rfl ?_
  refine lv_lsub hx hb dX2_thingsBehind_9 ?_
  exact eL C hret hlk (Bz) h hS (⟨rfl, rfl⟩) dX2_thingsBehind_10

set_option maxHeartbeats 4000000 in
set_option maxRecDepth 100000 in
theorem c_keepCells (l : Launch) (G : Gx) (a : Nat → Nat) (Bz : BS) (r : Nat) (hr : r < 8) : CtV l G 35 a (EB G a) yX1_keepCells cX1_keepCells 1 none 1 40 [.ref (a (r + 11))] Bz (fun u => u = (Bz.1, va_up Bz.2 r (va_cpy (sCe Bz.1 r) (Bz.2 r) 0 0 40))) := by
  refine ent_of (by decide) (Nat.le_of_ble_eq_true rfl) ?_
  intro p e s m below meth c ls C h hS hret hlk hl
  have C : Cx p s m _ c cX1_keepCells RX1 1 G := C
  have hx := C.1
  have hb := C.2.1
  have hl : lv_has ls 1 [(0, .ref (a (r + 11)))] := hl
  refine lv_aload_n hx hb dX1_keepCells_0 rfl (lv_at hl 0 rfl) ?_
  refine fg_X1_9 C h (by first | assumption | omega) dX1_keepCells_1 ?_
  refine lv_iconst (v := nI 0) hx hb dX1_keepCells_4 (by decide) ?_
  refine lv_aload_n hx hb dX1_keepCells_5 rfl (lv_at hl 0 rfl) ?_
  refine fg_X1_15 C h (by first | assumption | omega) dX1_keepCells_6 ?_
  refine lv_iconst (v := nI 0) hx hb dX1_keepCells_9 (by decide) ?_
  refine lv_bipush (v := nI 40) hx hb dX1_keepCells_10 (by decide) ?_
  refine cp_keep C hl.1 h hS (by first | assumption | omega) (Nat.le_of_ble_eq_true rfl) (Nat.le_of_ble_eq_true rfl) dX1_keepCells_12 (fun H locs h hS => ?_)
  exact eV C hret hlk ((Bz.1, va_up Bz.2 r (va_cpy (sCe Bz.1 r) (Bz.2 r) 0 0 40))) h hS (rfl) dX1_keepCells_15

set_option maxHeartbeats 4000000 in
set_option maxRecDepth 100000 in
theorem c_restoreCells (l : Launch) (G : Gx) (a : Nat → Nat) (Bz : BS) (r : Nat) (hr : r < 8) : CtV l G 35 a (EB G a) yX1_restoreCells cX1_restoreCells 1 none 1 40 [.ref (a (r + 11))] Bz (fun u => u = (uCe Bz.1 (va_up (sCe Bz.1) r (va_cpy (Bz.2 r) (sCe Bz.1 r) 0 0 40)), Bz.2)) := by
  refine ent_of (by decide) (Nat.le_of_ble_eq_true rfl) ?_
  intro p e s m below meth c ls C h hS hret hlk hl
  have C : Cx p s m _ c cX1_restoreCells RX1 1 G := C
  have hx := C.1
  have hb := C.2.1
  have hl : lv_has ls 1 [(0, .ref (a (r + 11)))] := hl
  refine lv_aload_n hx hb dX1_restoreCells_0 rfl (lv_at hl 0 rfl) ?_
  refine fg_X1_15 C h (by first | assumption | omega) dX1_restoreCells_1 ?_
  refine lv_iconst (v := nI 0) hx hb dX1_restoreCells_4 (by decide) ?_
  refine lv_aload_n hx hb dX1_restoreCells_5 rfl (lv_at hl 0 rfl) ?_
  refine fg_X1_9 C h (by first | assumption | omega) dX1_restoreCells_6 ?_
  refine lv_iconst (v := nI 0) hx hb dX1_restoreCells_9 (by decide) ?_
  refine lv_bipush (v := nI 40) hx hb dX1_restoreCells_10 (by decide) ?_
  refine cp_back C hl.1 h hS (by first | assumption | omega) (Nat.le_of_ble_eq_true rfl) (Nat.le_of_ble_eq_true rfl) dX1_restoreCells_12 (fun H locs h hS => ?_)
  exact eV C hret hlk ((uCe Bz.1 (va_up (sCe Bz.1) r (va_cpy (Bz.2 r) (sCe Bz.1 r) 0 0 40)), Bz.2)) h hS (rfl) dX1_restoreCells_15
