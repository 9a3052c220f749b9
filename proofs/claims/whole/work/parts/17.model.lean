set_option maxHeartbeats 4000000 in
set_option maxRecDepth 100000 in
theorem c3_isRack (l : Launch) (G : Gx) (a : Nat → Nat) (Mz : MS) (xz : Int32) : CtI l G 10 a (EM G a) yX3_isRack cX3_isRack 1 (some .boolean) 0 0 [.int xz] Mz (fun v u => Mz = u ∧ v = b2i (¬ ix xz 8 = none)) := by
  refine ent_of (by decide) (Nat.le_of_ble_eq_true rfl) ?_
  intro p e s m below meth c ls C h hS hret hlk hl
  have C : Cx p s m _ c cX3_isRack RX3 1 G := C
  have hx := C.1
  have hb := C.2.1
  have hl : lv_has ls 1 [(0, .int xz)] := hl
  refine lv_iload_n hx hb dX3_isRack_0 rfl (lv_at hl 0 rfl) ?_
  refine lv_if_lt (tgt := 14) hx hb dX3_isRack_1 (by decide) (fun c1 => ?_) (fun c1 => ?_)
  · skip
    refine lv_iconst (v := nI 0) hx hb dX3_isRack_14 (by decide) ?_
    exact eZ C hret hlk (Mz) h hS (rfl) (⟨rfl, (b2i_f (fun q => q (ix_neg c1))).symm⟩) dX3_isRack_15
  · skip
    refine lv_iload_n hx hb dX3_isRack_4 rfl (lv_at hl 0 rfl) ?_
    refine lv_bipush (v := nI 8) hx hb dX3_isRack_5 (by decide) ?_
    refine lv_icmp_ge (tgt := 14) hx hb dX3_isRack_7 (by decide) (fun c7 => ?_) (fun c7 => ?_)
    · skip
      refine lv_iconst (v := nI 0) hx hb dX3_isRack_14 (by decide) ?_
      exact eZ C hret hlk (Mz) h hS (rfl) (⟨rfl, (b2i_f (fun q => q (ix_ge c7))).symm⟩) dX3_isRack_15
    · skip
      refine lv_iconst (v := nI 1) hx hb dX3_isRack_10 (by decide) ?_
      refine lv_goto (tgt := 15) hx hb dX3_isRack_11 (by decide) ?_
      exact eZ C hret hlk (Mz) h hS (rfl) (⟨rfl, (b2i_t (by obtain ⟨j, _, _, hj⟩ := ix_of (by decide) c1 c7; rw [hj]; exact fun q => by cases q)).symm⟩) dX3_isRack_15

set_option maxHeartbeats 4000000 in
set_option maxRecDepth 100000 in
theorem c3_hasRow (l : Launch) (G : Gx) (a : Nat → Nat) (Mz : MS) (hI : Inv Mz.1) (xz : Int32) : CtI l G 10 a (EM G a) yX3_hasRow cX3_hasRow 2 (some .boolean) 1 20 [.ref (a 0), .int xz] Mz (fun v u => Mz = u ∧ v = b2i (¬ row Mz.1 xz = none)) := by
  refine ent_of (by decide) (Nat.le_of_ble_eq_true rfl) ?_
  intro p e s m below meth c ls C h hS hret hlk hl
  have C : Cx p s m _ c cX3_hasRow RX3 2 G := C
  have hx := C.1
  have hb := C.2.1
  have hl : lv_has ls 2 [(0, .ref (a 0)), (1, .int xz)] := hl
  refine lv_iload_n hx hb dX3_hasRow_0 rfl (lv_at hl 1 rfl) ?_
  refine kI (rS (As := [.int xz]) (rest := []) C h lk_X3_39 (c3_isRack l G a Mz xz) ⟨Nat.le_of_ble_eq_true rfl, Nat.le_of_ble_eq_true rfl⟩ hl.1 rfl rfl (Nat.le_of_ble_eq_true rfl) dX3_hasRow_1 ⟨Nat.zero_le _, Nat.zero_le _⟩) hS (fun rv u H locs hp h hS => ?_)
  obtain ⟨rfl, rfl⟩ := hp
  rcases ix_cases xz (n := 8) (by decide) with hrk | ⟨r, hr, rfl, hrk⟩
  · refine lw_ti (b2i_f (fun z => z hrk)) ?_
    refine lv_if_eq (tgt := 31) hx hb dX3_hasRow_4 (by decide) (fun _ => ?_) (fun c0 => absurd c0 (by decide))
    refine lv_iconst (v := nI 0) hx hb dX3_hasRow_31 (by decide) ?_
    exact eZ C hret hlk (Mz) h hS (rfl) (⟨rfl, (b2i_f (fun q => q (by simp [row, hrk]))).symm⟩) dX3_hasRow_32
  · refine lw_ti (b2i_t (by rw [hrk]; exact fun z => by cases z)) ?_
    refine lv_if_eq (tgt := 31) hx hb dX3_hasRow_4 (by decide) (fun c0 => absurd c0 (by decide)) (fun _ => ?_)
    have hk := (hI.1 r hr).1
    refine lv_aload_n hx hb dX3_hasRow_7 rfl (lv_at hl 0 rfl) ?_
    refine fg_X3_7 C h dX3_hasRow_8 ?_
    refine lv_iload_n hx hb dX3_hasRow_11 rfl (lv_at hl 1 rfl) ?_
    refine ml_kd C h (by first | assumption | omega) dX3_hasRow_12 ?_
    refine lv_if_le (tgt := 31) hx hb dX3_hasRow_13 (by decide) (fun c13 => ?_) (fun c13 => ?_)
    · skip
      refine lv_iconst (v := nI 0) hx hb dX3_hasRow_31 (by decide) ?_
      exact eZ C hret hlk (Mz) h hS (rfl) (⟨rfl, (b2i_f (by rw [show (0 : Int32) = nI 0 from rfl, nI_leI (by omega) (by decide)] at c13; simp [row, hrk]; omega)).symm⟩) dX3_hasRow_32
    · skip
      refine lv_aload_n hx hb dX3_hasRow_16 rfl (lv_at hl 0 rfl) ?_
      refine fg_X3_7 C h dX3_hasRow_17 ?_
      refine lv_iload_n hx hb dX3_hasRow_20 rfl (lv_at hl 1 rfl) ?_
      refine ml_kd C h (by first | assumption | omega) dX3_hasRow_21 ?_
      refine lv_bipush (v := nI 9) hx hb dX3_hasRow_22 (by decide) ?_
      refine lv_icmp_ge (tgt := 31) hx hb dX3_hasRow_24 (by decide) (fun c24 => ?_) (fun c24 => ?_)
      · skip
        refine lv_iconst (v := nI 0) hx hb dX3_hasRow_31 (by decide) ?_
        exact eZ C hret hlk (Mz) h hS (rfl) (⟨rfl, (b2i_f (by rw [nI_leI (by decide) (by omega)] at c24; simp [row, hrk]; omega)).symm⟩) dX3_hasRow_32
      · skip
        refine lv_iconst (v := nI 1) hx hb dX3_hasRow_27 (by decide) ?_
        refine lv_goto (tgt := 32) hx hb dX3_hasRow_28 (by decide) ?_
        exact eZ C hret hlk (Mz) h hS (rfl) (⟨rfl, (b2i_t (by rw [show (0 : Int32) = nI 0 from rfl, nI_leI (by omega) (by decide)] at c13; rw [nI_leI (by decide) (by omega)] at c24; simp [row, hrk]; omega)).symm⟩) dX3_hasRow_32

set_option maxHeartbeats 4000000 in
set_option maxRecDepth 100000 in
theorem c3_isNumbers (l : Launch) (G : Gx) (a : Nat → Nat) (Mz : MS) (r : Nat) (hr : r < 8) (hk : sKd Mz.1 r ≤ 9) : CtI l G 10 a (EM G a) yX3_isNumbers cX3_isNumbers 2 (some .boolean) 0 0 [.ref (a 0), .int (nI r)] Mz (fun v u => Mz = u ∧ v = b2i (sKd Mz.1 r < 6)) := by
  refine ent_of (by decide) (Nat.le_of_ble_eq_true rfl) ?_
  intro p e s m below meth c ls C h hS hret hlk hl
  have C : Cx p s m _ c cX3_isNumbers RX3 2 G := C
  have hx := C.1
  have hb := C.2.1
  have hl : lv_has ls 2 [(0, .ref (a 0)), (1, .int (nI r))] := hl
  refine lv_aload_n hx hb dX3_isNumbers_0 rfl (lv_at hl 0 rfl) ?_
  refine fg_X3_7 C h dX3_isNumbers_1 ?_
  refine lv_iload_n hx hb dX3_isNumbers_4 rfl (lv_at hl 1 rfl) ?_
  refine ml_kd C h (by first | assumption | omega) dX3_isNumbers_5 ?_
  refine lv_bipush (v := nI 6) hx hb dX3_isNumbers_6 (by decide) ?_
  refine lv_icmp_ge (tgt := 15) hx hb dX3_isNumbers_8 (by decide) (fun c8 => ?_) (fun c8 => ?_)
  · skip
    refine lv_iconst (v := nI 0) hx hb dX3_isNumbers_15 (by decide) ?_
    exact eZ C hret hlk (Mz) h hS (rfl) (⟨rfl, (b2i_f (by rw [nI_leI (by decide) (by omega)] at c8; omega)).symm⟩) dX3_isNumbers_16
  · skip
    refine lv_iconst (v := nI 1) hx hb dX3_isNumbers_11 (by decide) ?_
    refine lv_goto (tgt := 16) hx hb dX3_isNumbers_12 (by decide) ?_
    exact eZ C hret hlk (Mz) h hS (rfl) (⟨rfl, (b2i_t (by rw [nI_leI (by decide) (by omega)] at c8; omega)).symm⟩) dX3_isNumbers_16

set_option maxHeartbeats 4000000 in
set_option maxRecDepth 100000 in
theorem c3_isBeads (l : Launch) (G : Gx) (a : Nat → Nat) (Mz : MS) (r : Nat) (hr : r < 8) (hk : sKd Mz.1 r ≤ 9) : CtI l G 10 a (EM G a) yX3_isBeads cX3_isBeads 2 (some .boolean) 0 0 [.ref (a 0), .int (nI r)] Mz (fun v u => Mz = u ∧ v = b2i (sKd Mz.1 r = 7 ∨ sKd Mz.1 r = 8)) := by
  refine ent_of (by decide) (Nat.le_of_ble_eq_true rfl) ?_
  intro p e s m below meth c ls C h hS hret hlk hl
  have C : Cx p s m _ c cX3_isBeads RX3 2 G := C
  have hx := C.1
  have hb := C.2.1
  have hl : lv_has ls 2 [(0, .ref (a 0)), (1, .int (nI r))] := hl
  refine lv_aload_n hx hb dX3_isBeads_0 rfl (lv_at hl 0 rfl) ?_
  refine fg_X3_7 C h dX3_isBeads_1 ?_
  refine lv_iload_n hx hb dX3_isBeads_4 rfl (lv_at hl 1 rfl) ?_
  refine ml_kd C h (by first | assumption | omega) dX3_isBeads_5 ?_
  refine lv_bipush (v := nI 7) hx hb dX3_isBeads_6 (by decide) ?_
  refine lv_icmp_eq (tgt := 22) hx hb dX3_isBeads_8 (by decide) (fun c8 => ?_) (fun c8 => ?_)
  · skip
    refine lv_iconst (v := nI 1) hx hb dX3_isBeads_22 (by decide) ?_
    refine lv_goto (tgt := 27) hx hb dX3_isBeads_23 (by decide) ?_
    exact eZ C hret hlk (Mz) h hS (rfl) (⟨rfl, (b2i_t (Or.inl ((nI_eq (by omega) (by decide)).mp c8))).symm⟩) dX3_isBeads_27
  · skip
    refine lv_aload_n hx hb dX3_isBeads_11 rfl (lv_at hl 0 rfl) ?_
    refine fg_X3_7 C h dX3_isBeads_12 ?_
    refine lv_iload_n hx hb dX3_isBeads_15 rfl (lv_at hl 1 rfl) ?_
    refine ml_kd C h (by first | assumption | omega) dX3_isBeads_16 ?_
    refine lv_bipush (v := nI 8) hx hb dX3_isBeads_17 (by decide) ?_
    refine lv_icmp_ne (tgt := 26) hx hb dX3_isBeads_19 (by decide) (fun c19 => ?_) (fun c19 => ?_)
    · skip
      refine lv_iconst (v := nI 0) hx hb dX3_isBeads_26 (by decide) ?_
      exact eZ C hret hlk (Mz) h hS (rfl) (⟨rfl, (b2i_f (by rw [nI_eq (by omega) (by decide)] at c8 c19; omega)).symm⟩) dX3_isBeads_27
    · skip
      refine lv_iconst (v := nI 1) hx hb dX3_isBeads_22 (by decide) ?_
      refine lv_goto (tgt := 27) hx hb dX3_isBeads_23 (by decide) ?_
      exact eZ C hret hlk (Mz) h hS (rfl) (⟨rfl, (b2i_t (Or.inr ((nI_eq (by omega) (by decide)).mp c19))).symm⟩) dX3_isBeads_27

theorem row_cases {S : St} (x : Int32) : row S x = none ∨ ∃ r, r < 8 ∧ x = nI r ∧ row S x = some r ∧ ¬ sKd S r = 0 ∧ ¬ sKd S r = 9 := by
  rcases ix_cases x (n := 8) (by decide) with h | ⟨r, hr, rfl, h⟩
  · left; simp [row, h]
  · by_cases h2 : sKd S r = 0 ∨ sKd S r = 9
    · left; simp [row, h, h2]
    · right; exact ⟨r, hr, rfl, by simp [row, h, h2], fun z => h2 (Or.inl z), fun z => h2 (Or.inr z)⟩

set_option maxHeartbeats 4000000 in
set_option maxRecDepth 100000 in
theorem c3_isPlace (l : Launch) (G : Gx) (a : Nat → Nat) (Mz : MS) (hI : Inv Mz.1) (xz pz : Int32) : CtI l G 10 a (EM G a) yX3_isPlace cX3_isPlace 3 (some .boolean) 2 41 [.ref (a 0), .int xz, .int pz] Mz (fun v u => Mz = u ∧ v = b2i (∃ r q, row Mz.1 xz = some r ∧ ix pz (sPl Mz.1 r) = some q)) := by
  refine ent_of (by decide) (Nat.le_of_ble_eq_true rfl) ?_
  intro p e s m below meth c ls C h hS hret hlk hl
  have C : Cx p s m _ c cX3_isPlace RX3 3 G := C
  have hx := C.1
  have hb := C.2.1
  have hl : lv_has ls 3 [(0, .ref (a 0)), (1, .int xz), (2, .int pz)] := hl
  refine lv_aload_n hx hb dX3_isPlace_0 rfl (lv_at hl 0 rfl) ?_
  refine lv_iload_n hx hb dX3_isPlace_1 rfl (lv_at hl 1 rfl) ?_
  refine kI (rV (As := [.int xz]) (rest := []) C h lk_X3_43 0 (by decide) rfl rfl rfl (c3_hasRow l G a Mz hI xz) ⟨Nat.le_of_ble_eq_true rfl, Nat.le_of_ble_eq_true rfl⟩ hl.1 rfl rfl (Nat.le_of_ble_eq_true rfl) dX3_isPlace_2 ⟨Nat.zero_le _, Nat.zero_le _⟩) hS (fun rv u H locs hp h hS => ?_)
  obtain ⟨rfl, rfl⟩ := hp
  rcases row_cases (S := Mz.1) xz with hrk | ⟨r, hr, rfl, hrk, hrk0, hrk9⟩
  · refine lw_ti (b2i_f (fun z => z hrk)) ?_
    refine lv_if_eq (tgt := 26) hx hb dX3_isPlace_5 (by decide) (fun _ => ?_) (fun c0 => absurd c0 (by decide))
    refine lv_iconst (v := nI 0) hx hb dX3_isPlace_26 (by decide) ?_
    exact eZ C hret hlk (Mz) h hS (rfl) (⟨rfl, (b2i_f (by rintro ⟨t, q, z, _⟩; rw [hrk] at z; cases z)).symm⟩) dX3_isPlace_27
  · refine lw_ti (b2i_t (by rw [hrk]; exact fun z => by cases z)) ?_
    refine lv_if_eq (tgt := 26) hx hb dX3_isPlace_5 (by decide) (fun c0 => absurd c0 (by decide)) (fun _ => ?_)
    have lr := (hI.1 r hr).2
    refine lv_iload_n hx hb dX3_isPlace_8 rfl (lv_at hl 2 rfl) ?_
    refine lv_if_lt (tgt := 26) hx hb dX3_isPlace_9 (by decide) (fun c9 => ?_) (fun c9 => ?_)
    · skip
      refine lv_iconst (v := nI 0) hx hb dX3_isPlace_26 (by decide) ?_
      exact eZ C hret hlk (Mz) h hS (rfl) (⟨rfl, (b2i_f (by rintro ⟨t, q, z, z2⟩; rw [hrk] at z; cases z; rw [ix_neg c9] at z2; cases z2)).symm⟩) dX3_isPlace_27
    · skip
      refine lv_iload_n hx hb dX3_isPlace_12 rfl (lv_at hl 2 rfl) ?_
      refine lv_aload_n hx hb dX3_isPlace_13 rfl (lv_at hl 0 rfl) ?_
      refine fg_X3_13 C h dX3_isPlace_14 ?_
      refine lv_iload_n hx hb dX3_isPlace_17 rfl (lv_at hl 1 rfl) ?_
      refine ml_pl C h (by first | assumption | omega) dX3_isPlace_18 ?_
      refine lv_icmp_ge (tgt := 26) hx hb dX3_isPlace_19 (by decide) (fun c19 => ?_) (fun c19 => ?_)
      · skip
        refine lv_iconst (v := nI 0) hx hb dX3_isPlace_26 (by decide) ?_
        exact eZ C hret hlk (Mz) h hS (rfl) (⟨rfl, (b2i_f (by rintro ⟨t, q, z, z2⟩; rw [hrk] at z; cases z; rw [ix_ge c19] at z2; cases z2)).symm⟩) dX3_isPlace_27
      · skip
        refine lv_iconst (v := nI 1) hx hb dX3_isPlace_22 (by decide) ?_
        refine lv_goto (tgt := 27) hx hb dX3_isPlace_23 (by decide) ?_
        exact eZ C hret hlk (Mz) h hS (rfl) (⟨rfl, (b2i_t (by obtain ⟨j, _, _, hj⟩ := ix_of (by omega) c9 c19; exact ⟨r, j, hrk, hj⟩)).symm⟩) dX3_isPlace_27

set_option maxHeartbeats 4000000 in
set_option maxRecDepth 100000 in
theorem c3_isBead (l : Launch) (G : Gx) (a : Nat → Nat) (Mz : MS) (hk : sNb Mz.1 ≤ 200) (xz : Int64) : CtI l G 10 a (EM G a) yX3_isBead cX3_isBead 3 (some .boolean) 0 0 [.ref (a 0), .long xz] Mz (fun v u => Mz = u ∧ v = b2i (¬ ixl xz (sNb Mz.1) = none)) := by
  refine ent_of (by decide) (Nat.le_of_ble_eq_true rfl) ?_
  intro p e s m below meth c ls C h hS hret hlk hl
  have C : Cx p s m _ c cX3_isBead RX3 3 G := C
  have hx := C.1
  have hb := C.2.1
  have hl : lv_has ls 3 [(0, .ref (a 0)), (1, .long xz)] := hl
  refine lv_lload_n hx hb dX3_isBead_0 rfl (lv_at hl 1 rfl) ?_
  refine lv_lconst (v := lN 0) hx hb dX3_isBead_1 rfl ?_
  refine W.lcmp hx hb dX3_isBead_2 ?_
  refine lv_if_lt (tgt := 20) hx hb dX3_isBead_3 (by decide) (fun c3 => ?_) (fun c3 => ?_)
  · have c3 := (lg_cmp_lt _ _).mp c3
    refine lv_iconst (v := nI 0) hx hb dX3_isBead_20 (by decide) ?_
    exact eZ C hret hlk (Mz) h hS (rfl) (⟨rfl, (b2i_f (fun q => q (ixl_neg c3))).symm⟩) dX3_isBead_21
  · have c3 : ¬ xz < (lN 0) := fun q => c3 ((lg_cmp_lt _ _).mpr q)
    refine lv_lload_n hx hb dX3_isBead_6 rfl (lv_at hl 1 rfl) ?_
    refine lv_aload_n hx hb dX3_isBead_7 rfl (lv_at hl 0 rfl) ?_
    refine fg_X3_46 C h dX3_isBead_8 ?_
    refine lv_i2l hx hb dX3_isBead_11 rfl ?_
    refine lw_tl (nI_l (by omega)) ?_
    refine W.lcmp hx hb dX3_isBead_12 ?_
    refine lv_if_ge (tgt := 20) hx hb dX3_isBead_13 (by decide) (fun c13 => ?_) (fun c13 => ?_)
    · have c13 := (lg_cmp_ge _ _).mp c13
      refine lv_iconst (v := nI 0) hx hb dX3_isBead_20 (by decide) ?_
      exact eZ C hret hlk (Mz) h hS (rfl) (⟨rfl, (b2i_f (fun q => q (ixl_ge c13))).symm⟩) dX3_isBead_21
    · have c13 : ¬ (lN (sNb Mz.1)) ≤ xz := fun q => c13 ((lg_cmp_ge _ _).mpr q)
      refine lv_iconst (v := nI 1) hx hb dX3_isBead_16 (by decide) ?_
      refine lv_goto (tgt := 21) hx hb dX3_isBead_17 (by decide) ?_
      exact eZ C hret hlk (Mz) h hS (rfl) (⟨rfl, (b2i_t (by obtain ⟨j, _, _, hj⟩ := ixl_of (by omega) c3 c13; rw [hj]; exact fun q => by cases q)).symm⟩) dX3_isBead_21

set_option maxHeartbeats 4000000 in
set_option maxRecDepth 100000 in
theorem c3_nothing (l : Launch) (G : Gx) (a : Nat → Nat) (Mz : MS) (r : Nat) (hr : r < 8) (hk : sKd Mz.1 r ≤ 9) : CtL l G 10 a (EM G a) yX3_nothing cX3_nothing 2 (some .long) 1 21 [.ref (a 0), .int (nI r)] Mz (fun v u => Mz = u ∧ v = blk (sKd Mz.1 r)) := by
  refine ent_of (by decide) (Nat.le_of_ble_eq_true rfl) ?_
  intro p e s m below meth c ls C h hS hret hlk hl
  have C : Cx p s m _ c cX3_nothing RX3 2 G := C
  have hx := C.1
  have hb := C.2.1
  have hl : lv_has ls 2 [(0, .ref (a 0)), (1, .int (nI r))] := hl
  refine lv_aload_n hx hb dX3_nothing_0 rfl (lv_at hl 0 rfl) ?_
  refine lv_iload_n hx hb dX3_nothing_1 rfl (lv_at hl 1 rfl) ?_
  refine kI (rV (As := [.int (nI r)]) (rest := []) C h lk_X3_50 0 (by decide) rfl rfl rfl (c3_isBeads l G a Mz r hr hk) ⟨Nat.le_of_ble_eq_true rfl, Nat.le_of_ble_eq_true rfl⟩ hl.1 rfl rfl (Nat.le_of_ble_eq_true rfl) dX3_nothing_2 ⟨Nat.zero_le _, Nat.zero_le _⟩) hS (fun rv u H locs hp h hS => ?_)
  obtain ⟨rfl, rfl⟩ := hp
  by_cases hP : sKd Mz.1 r = 7 ∨ sKd Mz.1 r = 8
  · refine lw_ti (b2i_t hP) ?_
    refine lv_if_eq (tgt := 14) hx hb dX3_nothing_5 (by decide) (fun c0 => absurd c0 (by decide)) (fun _ => ?_)
    refine lv_ldc2 (v := -1) hx hb C.2.2.2.1 (C.2.2.2.2.1 _ (by decide +kernel)) dX3_nothing_8 ?_
    refine lv_goto (tgt := 15) hx hb dX3_nothing_11 (by decide) ?_
    exact eL C hret hlk (Mz) h hS (⟨rfl, (if_pos hP).symm⟩) dX3_nothing_15
  · refine lw_ti (b2i_f hP) ?_
    refine lv_if_eq (tgt := 14) hx hb dX3_nothing_5 (by decide) (fun _ => ?_) (fun c0 => absurd c0 (by decide))
    refine lv_lconst (v := lN 0) hx hb dX3_nothing_14 rfl ?_
    exact eL C hret hlk (Mz) h hS (⟨rfl, (if_neg hP).symm⟩) dX3_nothing_15

set_option maxHeartbeats 4000000 in
set_option maxRecDepth 100000 in
theorem c3_kept1 (l : Launch) (G : Gx) (a : Nat → Nat) (Mz : MS) (vz : Int64) : CtL l G 10 a (EM G a) yX3_kept cX3_kept 3 (some .long) 0 0 [.int (nI 1), .long vz] Mz (fun v u => Mz = u ∧ v = fit 1 vz) := by
  refine ent_of (by decide) (Nat.le_of_ble_eq_true rfl) ?_
  intro p e s m below meth c ls C h hS hret hlk hl
  have C : Cx p s m _ c cX3_kept RX3 3 G := C
  have hx := C.1
  have hb := C.2.1
  have hl : lv_has ls 3 [(0, .int (nI 1)), (1, .long vz)] := hl
  refine lv_iload_n hx hb dX3_kept_0 rfl (lv_at hl 0 rfl) ?_
  refine lv_tableIn (off := 35) (tgt := 36) hx hb dX3_kept_1 (by decide) (by decide) (by decide) (by decide) ?_
  refine lv_lload_n hx hb dX3_kept_36 rfl (lv_at hl 1 rfl) ?_
  refine lv_l2i hx hb dX3_kept_37 rfl ?_
  refine lv_i2b hx hb dX3_kept_38 rfl ?_
  refine lv_i2l hx hb dX3_kept_39 rfl ?_
  exact eL C hret hlk (Mz) h hS (⟨rfl, rfl⟩) dX3_kept_40

set_option maxHeartbeats 4000000 in
set_option maxRecDepth 100000 in
theorem c3_kept2 (l : Launch) (G : Gx) (a : Nat → Nat) (Mz : MS) (vz : Int64) : CtL l G 10 a (EM G a) yX3_kept cX3_kept 3 (some .long) 0 0 [.int (nI 2), .long vz] Mz (fun v u => Mz = u ∧ v = fit 2 vz) := by
  refine ent_of (by decide) (Nat.le_of_ble_eq_true rfl) ?_
  intro p e s m below meth c ls C h hS hret hlk hl
  have C : Cx p s m _ c cX3_kept RX3 3 G := C
  have hx := C.1
  have hb := C.2.1
  have hl : lv_has ls 3 [(0, .int (nI 2)), (1, .long vz)] := hl
  refine lv_iload_n hx hb dX3_kept_0 rfl (lv_at hl 0 rfl) ?_
  refine lv_tableIn (off := 40) (tgt := 41) hx hb dX3_kept_1 (by decide) (by decide) (by decide) (by decide) ?_
  refine lv_lload_n hx hb dX3_kept_41 rfl (lv_at hl 1 rfl) ?_
  refine lv_l2i hx hb dX3_kept_42 rfl ?_
  refine lv_i2s hx hb dX3_kept_43 rfl ?_
  refine lv_i2l hx hb dX3_kept_44 rfl ?_
  exact eL C hret hlk (Mz) h hS (⟨rfl, rfl⟩) dX3_kept_45

set_option maxHeartbeats 4000000 in
set_option maxRecDepth 100000 in
theorem c3_kept3 (l : Launch) (G : Gx) (a : Nat → Nat) (Mz : MS) (vz : Int64) : CtL l G 10 a (EM G a) yX3_kept cX3_kept 3 (some .long) 0 0 [.int (nI 3), .long vz] Mz (fun v u => Mz = u ∧ v = fit 3 vz) := by
  refine ent_of (by decide) (Nat.le_of_ble_eq_true rfl) ?_
  intro p e s m below meth c ls C h hS hret hlk hl
  have C : Cx p s m _ c cX3_kept RX3 3 G := C
  have hx := C.1
  have hb := C.2.1
  have hl : lv_has ls 3 [(0, .int (nI 3)), (1, .long vz)] := hl
  refine lv_iload_n hx hb dX3_kept_0 rfl (lv_at hl 0 rfl) ?_
  refine lv_tableIn (off := 45) (tgt := 46) hx hb dX3_kept_1 (by decide) (by decide) (by decide) (by decide) ?_
  refine lv_lload_n hx hb dX3_kept_46 rfl (lv_at hl 1 rfl) ?_
  refine lv_ldc2 (v := 65535) hx hb C.2.2.2.1 (C.2.2.2.2.1 _ (by decide +kernel)) dX3_kept_47 ?_
  refine lv_land hx hb dX3_kept_50 ?_
  exact eL C hret hlk (Mz) h hS (⟨rfl, char_fit vz⟩) dX3_kept_51

set_option maxHeartbeats 4000000 in
set_option maxRecDepth 100000 in
theorem c3_kept4 (l : Launch) (G : Gx) (a : Nat → Nat) (Mz : MS) (vz : Int64) : CtL l G 10 a (EM G a) yX3_kept cX3_kept 3 (some .long) 0 0 [.int (nI 4), .long vz] Mz (fun v u => Mz = u ∧ v = fit 4 vz) := by
  refine ent_of (by decide) (Nat.le_of_ble_eq_true rfl) ?_
  intro p e s m below meth c ls C h hS hret hlk hl
  have C : Cx p s m _ c cX3_kept RX3 3 G := C
  have hx := C.1
  have hb := C.2.1
  have hl : lv_has ls 3 [(0, .int (nI 4)), (1, .long vz)] := hl
  refine lv_iload_n hx hb dX3_kept_0 rfl (lv_at hl 0 rfl) ?_
  refine lv_tableIn (off := 51) (tgt := 52) hx hb dX3_kept_1 (by decide) (by decide) (by decide) (by decide) ?_
  refine lv_lload_n hx hb dX3_kept_52 rfl (lv_at hl 1 rfl) ?_
  refine lv_l2i hx hb dX3_kept_53 rfl ?_
  refine lv_i2l hx hb dX3_kept_54 rfl ?_
  exact eL C hret hlk (Mz) h hS (⟨rfl, rfl⟩) dX3_kept_55

set_option maxHeartbeats 4000000 in
set_option maxRecDepth 100000 in
theorem c3_kept5 (l : Launch) (G : Gx) (a : Nat → Nat) (Mz : MS) (vz : Int64) : CtL l G 10 a (EM G a) yX3_kept cX3_kept 3 (some .long) 0 0 [.int (nI 5), .long vz] Mz (fun v u => Mz = u ∧ v = fit 5 vz) := by
  refine ent_of (by decide) (Nat.le_of_ble_eq_true rfl) ?_
  intro p e s m below meth c ls C h hS hret hlk hl
  have C : Cx p s m _ c cX3_kept RX3 3 G := C
  have hx := C.1
  have hb := C.2.1
  have hl : lv_has ls 3 [(0, .int (nI 5)), (1, .long vz)] := hl
  refine lv_iload_n hx hb dX3_kept_0 rfl (lv_at hl 0 rfl) ?_
  refine lv_tableIn (off := 55) (tgt := 56) hx hb dX3_kept_1 (by decide) (by decide) (by decide) (by decide) ?_
  refine lv_lload_n hx hb dX3_kept_56 rfl (lv_at hl 1 rfl) ?_
  exact eL C hret hlk (Mz) h hS (⟨rfl, rfl⟩) dX3_kept_57

set_option maxHeartbeats 4000000 in
set_option maxRecDepth 100000 in
theorem c3_kept6 (l : Launch) (G : Gx) (a : Nat → Nat) (Mz : MS) (vz : Int64) : CtL l G 10 a (EM G a) yX3_kept cX3_kept 3 (some .long) 0 0 [.int (nI 6), .long vz] Mz (fun v u => Mz = u ∧ v = fit 6 vz) := by
  refine ent_of (by decide) (Nat.le_of_ble_eq_true rfl) ?_
  intro p e s m below meth c ls C h hS hret hlk hl
  have C : Cx p s m _ c cX3_kept RX3 3 G := C
  have hx := C.1
  have hb := C.2.1
  have hl : lv_has ls 3 [(0, .int (nI 6)), (1, .long vz)] := hl
  refine lv_iload_n hx hb dX3_kept_0 rfl (lv_at hl 0 rfl) ?_
  refine lv_tableOut (tgt := 58) hx hb dX3_kept_1 (by decide) (by decide) ?_
  refine lv_lload_n hx hb dX3_kept_58 rfl (lv_at hl 1 rfl) ?_
  refine lv_lconst (v := lN 0) hx hb dX3_kept_59 rfl ?_
  refine W.lcmp hx hb dX3_kept_60 ?_
  refine lv_if_ne (tgt := 68) hx hb dX3_kept_61 (by decide) (fun c61 => ?_) (fun c61 => ?_)
  · have c61 : ¬ vz = (lN 0) := fun q => c61 ((lg_cmp_eq _ _).mpr q)
    refine lv_lconst (v := lN 1) hx hb dX3_kept_68 rfl ?_
    exact eL C hret hlk (Mz) h hS (⟨rfl, (if_neg c61).symm⟩) dX3_kept_69
  · have c61 : vz = (lN 0) := (lg_cmp_eq _ _).mp c61
    refine lv_lconst (v := lN 0) hx hb dX3_kept_64 rfl ?_
    refine lv_goto (tgt := 69) hx hb dX3_kept_65 (by decide) ?_
    exact eL C hret hlk (Mz) h hS (⟨rfl, (if_pos c61).symm⟩) dX3_kept_69

theorem c3_kept (l : Launch) (G : Gx) (a : Nat → Nat) (Mz : MS) (k : Nat) (h1 : 1 ≤ k) (h6 : k ≤ 6) (vz : Int64) : CtL l G 10 a (EM G a) yX3_kept cX3_kept 3 (some .long) 0 0 [.int (nI k), .long vz] Mz (fun v u => Mz = u ∧ v = fit k vz) := by
  match k, h1, h6 with
  | 1, _, _ => exact c3_kept1 l G a Mz vz
  | 2, _, _ => exact c3_kept2 l G a Mz vz
  | 3, _, _ => exact c3_kept3 l G a Mz vz
  | 4, _, _ => exact c3_kept4 l G a Mz vz
  | 5, _, _ => exact c3_kept5 l G a Mz vz
  | 6, _, _ => exact c3_kept6 l G a Mz vz

set_option maxHeartbeats 4000000 in
set_option maxRecDepth 100000 in
theorem c3_become (l : Launch) (G : Gx) (a : Nat → Nat) (Mz : MS) (hI : Inv Mz.1) (hR : RM Mz) (r : Nat) (hr : r < 8) (k nz : Nat) (hk : k ≤ 9) (hnz : nz ≤ 40) : CtV l G 10 a (EM G a) yX3_become cX3_become 5 none 2 42 [.ref (a 0), .int (nI r), .int (nI k), .int (nI nz)] Mz (fun u => holdS Mz.1 r k nz = u.1 ∧ RM u) := by
  refine ent_of (by decide) (Nat.le_of_ble_eq_true rfl) ?_
  intro p e s m below meth c ls C h hS hret hlk hl
  have C : Cx p s m _ c cX3_become RX3 5 G := C
  have hx := C.1
  have hb := C.2.1
  have hl : lv_has ls 5 [(0, .ref (a 0)), (1, .int (nI r)), (2, .int (nI k)), (3, .int (nI nz))] := hl
  have lp : ∀ (n : Nat) (j : Nat) (g : Nat → Int64) (H : Heap) (locs : List Loc) (ls : Array Slot), (j ≤ nz) → (nz < j + n) → (∀ t, t < j → g (40 * r + t) = blk k) → (∀ i, (i < 40 * r ∨ 40 * r + 40 ≤ i) → g i = mF Mz i) →  HW G.1 10 a (EM G a ((uPl (uKd Mz.1 (va_up (sKd Mz.1) r k)) (va_up (sPl Mz.1) r nz), g, mB Mz, mA Mz, mC Mz, mP Mz))) H → va_S (Aw 10 a) s.heap H locs → lv_has ls 5 [(0, .ref (a 0)), (1, .int (nI r)), (2, .int (nI k)), (3, .int (nI nz)), (4, .int (nI j))] → W p l e (rmB 2 42) s m ([.ref (a 0), .int (nI r), .int (nI k), .int (nI nz)].toArray) below meth c H locs 0 0 (MQ below (va_Qv (fun u => holdS Mz.1 r k nz = u.1 ∧ RM u) (fun u t => HW G.1 10 a (EM G a u) t.heap) (Aw 10 a)) ([.ref (a 0), .int (nI r), .int (nI k), .int (nI nz)].toArray) s 0 0 (Aw 10 a)) (F0 m 17 ls []) := by
    intro n
    induction n with
    | zero =>
      intro j g H locs ls hj hn hg ho
      exact absurd hn (by omega)
    | succ n ih =>
      intro j g H locs ls hj hn hg ho h hS hl
      refine lv_iload hx hb dX3_become_17 (lv_at hl 4 rfl) ?_
      refine lv_iload_n hx hb dX3_become_19 rfl (lv_at hl 3 rfl) ?_
      refine lv_icmp_ge (tgt := 46) hx hb dX3_become_20 (by decide) (fun c20 => ?_) (fun c20 => ?_)
      · skip
        have hjn : j = nz := by rw [nI_leI (by omega) (by omega)] at c20; omega
        subst hjn
        exact eV C hret hlk (holdS Mz.1 r k j, g, mB Mz, mA Mz, mC Mz, mP Mz) h hS ⟨rfl, RM_hold hI hR hr hnz hg ho⟩ dX3_become_46
      · skip
        have hjn : j < nz := by rw [nI_leI (by omega) (by omega)] at c20; omega
        refine lv_aload_n hx hb dX3_become_23 rfl (lv_at hl 0 rfl) ?_
        refine fg_X3_16 C h dX3_become_24 ?_
        refine lv_bipush (v := nI 40) hx hb dX3_become_27 (by decide) ?_
        refine lv_iload_n hx hb dX3_become_29 rfl (lv_at hl 1 rfl) ?_
        refine lv_imul hx hb dX3_become_30 ?_
        refine lw_ti (show _ = nI (40 * r) from pk_mul _ _) ?_
        refine lv_iload hx hb dX3_become_31 (lv_at hl 4 rfl) ?_
        refine lv_iadd hx hb dX3_become_33 ?_
        refine lw_ti (show _ = nI (40 * r + j) from nI_add _ _) ?_
        refine lv_aload_n hx hb dX3_become_34 rfl (lv_at hl 0 rfl) ?_
        refine lv_iload_n hx hb dX3_become_35 rfl (lv_at hl 1 rfl) ?_
        refine kL (rV (As := [.int (nI r)]) (rest := [.int (nI (40 * r + j)), .ref (a 3)]) C h lk_X3_57 0 (by decide) rfl rfl rfl (c3_nothing l G a (uPl (uKd Mz.1 (va_up (sKd Mz.1) r k)) (va_up (sPl Mz.1) r nz), g, mB Mz, mA Mz, mC Mz, mP Mz) r hr (by show va_up (sKd Mz.1) r k r ≤ 9; rw [va_up_self]; exact hk)) ⟨Nat.le_of_ble_eq_true rfl, Nat.le_of_ble_eq_true rfl⟩ hl.1 rfl rfl (Nat.le_of_ble_eq_true rfl) dX3_become_36 ⟨Nat.zero_le _, Nat.zero_le _⟩) hS (fun rv u H locs hp h hS => ?_)
        obtain ⟨rfl, rfl⟩ := hp
        refine lw_tl (show blk (va_up (sKd Mz.1) r k r) = blk k from by rw [va_up_self]) ?_
        refine ms_ce C h hS (by first | assumption | omega) dX3_become_39 (fun H locs h hS => ?_)
        refine lv_iinc (v := nI (j + 1)) (lv' := [(4, .int (nI (j + 1))), (0, .ref (a 0)), (1, .int (nI r)), (2, .int (nI k)), (3, .int (nI nz))]) hx hb dX3_become_40 hl (k := 4) rfl (nI_1 j) (by decide) rfl (fun ls hl => ?_)
        refine lv_goto (tgt := 17) hx hb dX3_become_43 (by decide) ?_
        exact ih (j + 1) _ _ _ _ (by omega) (by omega) (fun t ht => by by_cases e : t = j; (subst e; simp [vp_updL]); (simp only [vp_updL, if_neg (show ¬ 40 * r + t = 40 * r + j by omega)]; exact hg t (by omega))) (fun i hi => by simp only [vp_updL, if_neg (show ¬ i = 40 * r + j by omega)]; exact ho i hi) h hS (lv_sub hl [1, 2, 3, 4, 0] rfl)
  refine lv_aload_n hx hb dX3_become_0 rfl (lv_at hl 0 rfl) ?_
  refine fg_X3_7 C h dX3_become_1 ?_
  refine lv_iload_n hx hb dX3_become_4 rfl (lv_at hl 1 rfl) ?_
  refine lv_iload_n hx hb dX3_become_5 rfl (lv_at hl 2 rfl) ?_
  refine ms_kd C h hS (by first | assumption | omega) dX3_become_6 (fun H locs h hS => ?_)
  refine lv_aload_n hx hb dX3_become_7 rfl (lv_at hl 0 rfl) ?_
  refine fg_X3_13 C h dX3_become_8 ?_
  refine lv_iload_n hx hb dX3_become_11 rfl (lv_at hl 1 rfl) ?_
  refine lv_iload_n hx hb dX3_become_12 rfl (lv_at hl 3 rfl) ?_
  refine ms_pl C h hS (by first | assumption | omega) dX3_become_13 (fun H locs h hS => ?_)
  refine lv_iconst (v := nI 0) hx hb dX3_become_14 (by decide) ?_
  refine lv_istore (lv' := [(4, .int (nI 0)), (0, .ref (a 0)), (1, .int (nI r)), (2, .int (nI k)), (3, .int (nI nz))]) hx hb dX3_become_15 hl (by decide) rfl (fun ls hl => ?_)
  exact lp (nz + 1) 0 (mF Mz) _ _ _ (by omega) (by omega) (fun t ht => absurd ht (by omega)) (fun _ _ => rfl) h hS (lv_sub hl [1, 2, 3, 4, 0] rfl)

set_option maxHeartbeats 4000000 in
set_option maxRecDepth 100000 in
theorem c3_make (l : Launch) (G : Gx) (a : Nat → Nat) (Mz : MS) (hI : Inv Mz.1) (hR : RM Mz) (xz kz nz : Int32) : CtI l G 10 a (EM G a) yX3_make cX3_make 4 (some .boolean) 3 66 [.ref (a 0), .int xz, .int kz, .int nz] Mz (fun v u => v = (spMake Mz.1 xz kz nz).1 ∧ (spMake Mz.1 xz kz nz).2 = u.1 ∧ RM u) := by
  refine ent_of (by decide) (Nat.le_of_ble_eq_true rfl) ?_
  intro p e s m below meth c ls C h hS hret hlk hl
  have C : Cx p s m _ c cX3_make RX3 4 G := C
  have hx := C.1
  have hb := C.2.1
  have hl : lv_has ls 4 [(0, .ref (a 0)), (1, .int xz), (2, .int kz), (3, .int nz)] := hl
  refine lv_iload_n hx hb dX3_make_0 rfl (lv_at hl 1 rfl) ?_
  refine kI (rS (As := [.int xz]) (rest := []) C h lk_X3_39 (c3_isRack l G a Mz xz) ⟨Nat.le_of_ble_eq_true rfl, Nat.le_of_ble_eq_true rfl⟩ hl.1 rfl rfl (Nat.le_of_ble_eq_true rfl) dX3_make_1 ⟨Nat.zero_le _, Nat.zero_le _⟩) hS (fun rv u H locs hp h hS => ?_)
  obtain ⟨rfl, rfl⟩ := hp
  rcases ix_cases xz (n := 8) (by decide) with hrk | ⟨r, hr, rfl, hrk⟩
  · refine lw_ti (b2i_f (fun z => z hrk)) ?_
    refine lv_if_eq (tgt := 28) hx hb dX3_make_4 (by decide) (fun _ => ?_) (fun c0 => absurd c0 (by decide))
    refine lv_iconst (v := nI 0) hx hb dX3_make_28 (by decide) ?_
    exact eZ C hret hlk (Mz) h hS (rfl) (⟨by simp [spMake, hrk], by simp [spMake, hrk], hR⟩) dX3_make_29
  · refine lw_ti (b2i_t (by rw [hrk]; exact fun z => by cases z)) ?_
    refine lv_if_eq (tgt := 28) hx hb dX3_make_4 (by decide) (fun c0 => absurd c0 (by decide)) (fun _ => ?_)
    refine lv_iload_n hx hb dX3_make_7 rfl (lv_at hl 2 rfl) ?_
    refine lv_iconst (v := nI 1) hx hb dX3_make_8 (by decide) ?_
    refine lv_icmp_lt (tgt := 28) hx hb dX3_make_9 (by decide) (fun c9 => ?_) (fun c9 => ?_)
    · skip
      refine lv_iconst (v := nI 0) hx hb dX3_make_28 (by decide) ?_
      exact eZ C hret hlk (Mz) h hS (rfl) (⟨by simp [spMake, hrk, rng_lo c9], by simp [spMake, hrk, rng_lo c9], hR⟩) dX3_make_29
    · skip
      refine lv_iload_n hx hb dX3_make_12 rfl (lv_at hl 2 rfl) ?_
      refine lv_bipush (v := nI 8) hx hb dX3_make_13 (by decide) ?_
      refine lv_icmp_gt (tgt := 28) hx hb dX3_make_15 (by decide) (fun c15 => ?_) (fun c15 => ?_)
      · skip
        refine lv_iconst (v := nI 0) hx hb dX3_make_28 (by decide) ?_
        exact eZ C hret hlk (Mz) h hS (rfl) (⟨by simp [spMake, hrk, rng_hi c15], by simp [spMake, hrk, rng_hi c15], hR⟩) dX3_make_29
      · skip
        refine lv_iload_n hx hb dX3_make_18 rfl (lv_at hl 3 rfl) ?_
        refine lv_if_lt (tgt := 28) hx hb dX3_make_19 (by decide) (fun c19 => ?_) (fun c19 => ?_)
        · skip
          refine lv_iconst (v := nI 0) hx hb dX3_make_28 (by decide) ?_
          exact eZ C hret hlk (Mz) h hS (rfl) (⟨by simp [spMake, hrk, show rng nz 0 40 = none from rng_lo c19], by simp [spMake, hrk, show rng nz 0 40 = none from rng_lo c19], hR⟩) dX3_make_29
        · skip
          refine lv_iload_n hx hb dX3_make_22 rfl (lv_at hl 3 rfl) ?_
          refine lv_bipush (v := nI 40) hx hb dX3_make_23 (by decide) ?_
          refine lv_icmp_le (tgt := 30) hx hb dX3_make_25 (by decide) (fun c25 => ?_) (fun c25 => ?_)
          · skip
            obtain ⟨k, hk1, hk8, rfl, hkk⟩ := rng_of (by decide) (by decide) c9 c15
            obtain ⟨n, _, hn40, rfl, hnn⟩ := rng_of (lo := 0) (by decide) (by decide) c19 (Int32.not_lt.mpr c25)
            refine lv_aload_n hx hb dX3_make_30 rfl (lv_at hl 0 rfl) ?_
            refine lv_iload_n hx hb dX3_make_31 rfl (lv_at hl 1 rfl) ?_
            refine lv_iload_n hx hb dX3_make_32 rfl (lv_at hl 2 rfl) ?_
            refine lv_iload_n hx hb dX3_make_33 rfl (lv_at hl 3 rfl) ?_
            refine kV (rV (As := [.int (nI r), .int (nI k), .int (nI n)]) (rest := []) C h lk_X3_61 0 (by decide) rfl rfl rfl (c3_become l G a Mz hI hR r hr (k) (n) (by omega) (by omega)) ⟨Nat.le_of_ble_eq_true rfl, Nat.le_of_ble_eq_true rfl⟩ hl.1 rfl rfl (Nat.le_of_ble_eq_true rfl) dX3_make_34 ⟨Nat.zero_le _, Nat.zero_le _⟩) hS (fun u H locs hp h hS => ?_)
            obtain ⟨hu, hRu⟩ := hp
            refine lv_iconst (v := nI 1) hx hb dX3_make_37 (by decide) ?_
            exact eZ C hret hlk (u) h hS (rfl) (⟨by simp [spMake, hrk, hkk, hnn], by rw [← hu]; simp [spMake, hrk, hkk, hnn], hRu⟩) dX3_make_38
          · skip
            refine lv_iconst (v := nI 0) hx hb dX3_make_28 (by decide) ?_
            exact eZ C hret hlk (Mz) h hS (rfl) (⟨by simp [spMake, hrk, rng_hi (Int32.not_le.mp c25)], by simp [spMake, hrk, rng_hi (Int32.not_le.mp c25)], hR⟩) dX3_make_29

set_option maxHeartbeats 4000000 in
set_option maxRecDepth 100000 in
theorem c3_lamp (l : Launch) (G : Gx) (a : Nat → Nat) (Mz : MS) (hI : Inv Mz.1) (hR : RM Mz) (xz : Int32) : CtI l G 10 a (EM G a) yX3_lamp cX3_lamp 2 (some .boolean) 3 66 [.ref (a 0), .int xz] Mz (fun v u => v = (spLamp Mz.1 xz).1 ∧ (spLamp Mz.1 xz).2 = u.1 ∧ RM u) := by
  refine ent_of (by decide) (Nat.le_of_ble_eq_true rfl) ?_
  intro p e s m below meth c ls C h hS hret hlk hl
  have C : Cx p s m _ c cX3_lamp RX3 2 G := C
  have hx := C.1
  have hb := C.2.1
  have hl : lv_has ls 2 [(0, .ref (a 0)), (1, .int xz)] := hl
  refine lv_iload_n hx hb dX3_lamp_0 rfl (lv_at hl 1 rfl) ?_
  refine kI (rS (As := [.int xz]) (rest := []) C h lk_X3_39 (c3_isRack l G a Mz xz) ⟨Nat.le_of_ble_eq_true rfl, Nat.le_of_ble_eq_true rfl⟩ hl.1 rfl rfl (Nat.le_of_ble_eq_true rfl) dX3_lamp_1 ⟨Nat.zero_le _, Nat.zero_le _⟩) hS (fun rv u H locs hp h hS => ?_)
  obtain ⟨rfl, rfl⟩ := hp
  rcases ix_cases xz (n := 8) (by decide) with hrk | ⟨r, hr, rfl, hrk⟩
  · refine lw_ti (b2i_f (fun z => z hrk)) ?_
    refine lv_if_ne (tgt := 9) hx hb dX3_lamp_4 (by decide) (fun c0 => absurd c0 (by decide)) (fun _ => ?_)
    refine lv_iconst (v := nI 0) hx hb dX3_lamp_7 (by decide) ?_
    exact eZ C hret hlk (Mz) h hS (rfl) (⟨by simp [spLamp, hrk], by simp [spLamp, hrk], hR⟩) dX3_lamp_8
  · refine lw_ti (b2i_t (by rw [hrk]; exact fun z => by cases z)) ?_
    refine lv_if_ne (tgt := 9) hx hb dX3_lamp_4 (by decide) (fun _ => ?_) (fun c0 => absurd c0 (by decide))
    refine lv_aload_n hx hb dX3_lamp_9 rfl (lv_at hl 0 rfl) ?_
    refine lv_iload_n hx hb dX3_lamp_10 rfl (lv_at hl 1 rfl) ?_
    refine lv_bipush (v := nI 9) hx hb dX3_lamp_11 (by decide) ?_
    refine lv_iconst (v := nI 0) hx hb dX3_lamp_13 (by decide) ?_
    refine kV (rV (As := [.int (nI r), .int (nI 9), .int (nI 0)]) (rest := []) C h lk_X3_61 0 (by decide) rfl rfl rfl (c3_become l G a Mz hI hR r hr (9) (0) (by omega) (by omega)) ⟨Nat.le_of_ble_eq_true rfl, Nat.le_of_ble_eq_true rfl⟩ hl.1 rfl rfl (Nat.le_of_ble_eq_true rfl) dX3_lamp_14 ⟨Nat.zero_le _, Nat.zero_le _⟩) hS (fun u H locs hp h hS => ?_)
    obtain ⟨hu, hRu⟩ := hp
    refine lv_iconst (v := nI 1) hx hb dX3_lamp_17 (by decide) ?_
    exact eZ C hret hlk (u) h hS (rfl) (⟨by simp [spLamp, hrk], by rw [← hu]; simp [spLamp, hrk], hRu⟩) dX3_lamp_18

set_option maxHeartbeats 4000000 in
set_option maxRecDepth 100000 in
theorem c3_empty (l : Launch) (G : Gx) (a : Nat → Nat) (Mz : MS) (hI : Inv Mz.1) (hR : RM Mz) (xz : Int32) : CtI l G 10 a (EM G a) yX3_empty cX3_empty 2 (some .boolean) 3 66 [.ref (a 0), .int xz] Mz (fun v u => v = (spEmpty Mz.1 xz).1 ∧ (spEmpty Mz.1 xz).2 = u.1 ∧ RM u) := by
  refine ent_of (by decide) (Nat.le_of_ble_eq_true rfl) ?_
  intro p e s m below meth c ls C h hS hret hlk hl
  have C : Cx p s m _ c cX3_empty RX3 2 G := C
  have hx := C.1
  have hb := C.2.1
  have hl : lv_has ls 2 [(0, .ref (a 0)), (1, .int xz)] := hl
  refine lv_iload_n hx hb dX3_empty_0 rfl (lv_at hl 1 rfl) ?_
  refine kI (rS (As := [.int xz]) (rest := []) C h lk_X3_39 (c3_isRack l G a Mz xz) ⟨Nat.le_of_ble_eq_true rfl, Nat.le_of_ble_eq_true rfl⟩ hl.1 rfl rfl (Nat.le_of_ble_eq_true rfl) dX3_empty_1 ⟨Nat.zero_le _, Nat.zero_le _⟩) hS (fun rv u H locs hp h hS => ?_)
  obtain ⟨rfl, rfl⟩ := hp
  rcases ix_cases xz (n := 8) (by decide) with hrk | ⟨r, hr, rfl, hrk⟩
  · refine lw_ti (b2i_f (fun z => z hrk)) ?_
    refine lv_if_eq (tgt := 16) hx hb dX3_empty_4 (by decide) (fun _ => ?_) (fun c0 => absurd c0 (by decide))
    refine lv_iconst (v := nI 0) hx hb dX3_empty_16 (by decide) ?_
    exact eZ C hret hlk (Mz) h hS (rfl) (⟨by simp [spEmpty, hrk], by simp [spEmpty, hrk], hR⟩) dX3_empty_17
  · refine lw_ti (b2i_t (by rw [hrk]; exact fun z => by cases z)) ?_
    refine lv_if_eq (tgt := 16) hx hb dX3_empty_4 (by decide) (fun c0 => absurd c0 (by decide)) (fun _ => ?_)
    refine lv_aload_n hx hb dX3_empty_7 rfl (lv_at hl 0 rfl) ?_
    refine fg_X3_7 C h dX3_empty_8 ?_
    refine lv_iload_n hx hb dX3_empty_11 rfl (lv_at hl 1 rfl) ?_
    refine ml_kd C h (by first | assumption | omega) dX3_empty_12 ?_
    refine lv_if_ne (tgt := 18) hx hb dX3_empty_13 (by decide) (fun c13 => ?_) (fun c13 => ?_)
    · skip
      have hk0 : ¬ sKd Mz.1 r = 0 := fun z => c13 ((nI_z (by have := (hI.1 r hr).1; omega)).mpr z)
      refine lv_aload_n hx hb dX3_empty_18 rfl (lv_at hl 0 rfl) ?_
      refine lv_iload_n hx hb dX3_empty_19 rfl (lv_at hl 1 rfl) ?_
      refine lv_iconst (v := nI 0) hx hb dX3_empty_20 (by decide) ?_
      refine lv_iconst (v := nI 0) hx hb dX3_empty_21 (by decide) ?_
      refine kV (rV (As := [.int (nI r), .int (nI 0), .int (nI 0)]) (rest := []) C h lk_X3_61 0 (by decide) rfl rfl rfl (c3_become l G a Mz hI hR r hr (0) (0) (by omega) (by omega)) ⟨Nat.le_of_ble_eq_true rfl, Nat.le_of_ble_eq_true rfl⟩ hl.1 rfl rfl (Nat.le_of_ble_eq_true rfl) dX3_empty_22 ⟨Nat.zero_le _, Nat.zero_le _⟩) hS (fun u H locs hp h hS => ?_)
      obtain ⟨hu, hRu⟩ := hp
      refine lv_iconst (v := nI 1) hx hb dX3_empty_25 (by decide) ?_
      exact eZ C hret hlk (u) h hS (rfl) (⟨by simp [spEmpty, hrk, hk0], by rw [← hu]; simp [spEmpty, hrk, hk0], hRu⟩) dX3_empty_26
    · skip
      refine lv_iconst (v := nI 0) hx hb dX3_empty_16 (by decide) ?_
      exact eZ C hret hlk (Mz) h hS (rfl) (⟨by simp [spEmpty, hrk, (show sKd Mz.1 r = 0 from (nI_z (by have := (hI.1 r hr).1; omega)).mp c13)], by simp [spEmpty, hrk, (show sKd Mz.1 r = 0 from (nI_z (by have := (hI.1 r hr).1; omega)).mp c13)], hR⟩) dX3_empty_17

set_option maxHeartbeats 4000000 in
set_option maxRecDepth 100000 in
theorem c3_bead (l : Launch) (G : Gx) (a : Nat → Nat) (Mz : MS) (hI : Inv Mz.1) (hR : RM Mz) (xz zz : Int32) (hz : vp_nar .boolean zz = zz) : CtI l G 10 a (EM G a) yX3_bead cX3_bead 3 (some .int) 0 0 [.ref (a 0), .int xz, .int zz] Mz (fun v u => v = (spBead Mz.1 xz zz).1 ∧ (spBead Mz.1 xz zz).2 = u.1 ∧ RM u) := by
  refine ent_of (by decide) (Nat.le_of_ble_eq_true rfl) ?_
  intro p e s m below meth c ls C h hS hret hlk hl
  have C : Cx p s m _ c cX3_bead RX3 3 G := C
  have hx := C.1
  have hb := C.2.1
  have hl : lv_has ls 3 [(0, .ref (a 0)), (1, .int xz), (2, .int zz)] := hl
  have hN := hI.2.1
  refine lv_aload_n hx hb dX3_bead_0 rfl (lv_at hl 0 rfl) ?_
  refine fg_X3_46 C h dX3_bead_1 ?_
  refine lv_sipush (v := nI 200) hx hb dX3_bead_4 (by decide) ?_
  refine lv_icmp_ne (tgt := 12) hx hb dX3_bead_7 (by decide) (fun c7 => ?_) (fun c7 => ?_)
  · skip
    have hlt : sNb Mz.1 < 200 := by rw [nI_eq (by omega) (by decide)] at c7; omega
    refine lv_aload_n hx hb dX3_bead_12 rfl (lv_at hl 0 rfl) ?_
    refine fg_X3_26 C h dX3_bead_13 ?_
    refine lv_aload_n hx hb dX3_bead_16 rfl (lv_at hl 0 rfl) ?_
    refine fg_X3_46 C h dX3_bead_17 ?_
    refine lv_iload_n hx hb dX3_bead_20 rfl (lv_at hl 1 rfl) ?_
    refine ms_co C h hS (by first | assumption | omega) dX3_bead_21 (fun H locs h hS => ?_)
    refine lv_aload_n hx hb dX3_bead_22 rfl (lv_at hl 0 rfl) ?_
    refine fg_X3_29 C h dX3_bead_23 ?_
    refine lv_aload_n hx hb dX3_bead_26 rfl (lv_at hl 0 rfl) ?_
    refine fg_X3_46 C h dX3_bead_27 ?_
    refine lw_ti (show (nI (sNb ((uCo Mz.1 (upd (sCo Mz.1) (sNb Mz.1) xz), mF Mz, mB Mz, mA Mz, mC Mz, mP Mz)).1) : Int32) = nI ((sNb Mz.1)) from rfl) ?_
    refine lv_iload_n hx hb dX3_bead_30 rfl (lv_at hl 2 rfl) ?_
    refine ms_pe C h hS (by first | assumption | omega) hz dX3_bead_31 (fun H locs h hS => ?_)
    refine lv_aload_n hx hb dX3_bead_32 rfl (lv_at hl 0 rfl) ?_
    refine lv_dup hx hb dX3_bead_33 rfl ?_
    refine fg_X3_46 C h dX3_bead_34 ?_
    refine lw_ti (show (nI (sNb ((uPe ((uCo Mz.1 (upd (sCo Mz.1) (sNb Mz.1) xz), mF Mz, mB Mz, mA Mz, mC Mz, mP Mz)).1 (upd (sPe ((uCo Mz.1 (upd (sCo Mz.1) (sNb Mz.1) xz), mF Mz, mB Mz, mA Mz, mC Mz, mP Mz)).1) ((sNb Mz.1)) zz), mF ((uCo Mz.1 (upd (sCo Mz.1) (sNb Mz.1) xz), mF Mz, mB Mz, mA Mz, mC Mz, mP Mz)), mB ((uCo Mz.1 (upd (sCo Mz.1) (sNb Mz.1) xz), mF Mz, mB Mz, mA Mz, mC Mz, mP Mz)), mA ((uCo Mz.1 (upd (sCo Mz.1) (sNb Mz.1) xz), mF Mz, mB Mz, mA Mz, mC Mz, mP Mz)), mC ((uCo Mz.1 (upd (sCo Mz.1) (sNb Mz.1) xz), mF Mz, mB Mz, mA Mz, mC Mz, mP Mz)), mP ((uCo Mz.1 (upd (sCo Mz.1) (sNb Mz.1) xz), mF Mz, mB Mz, mA Mz, mC Mz, mP Mz)))).1) : Int32) = nI ((sNb Mz.1)) from rfl) ?_
    refine lv_iconst (v := nI 1) hx hb dX3_bead_37 (by decide) ?_
    refine lv_iadd hx hb dX3_bead_38 ?_
    refine lw_ti (show ((nI ((sNb Mz.1))) + (nI 1) : Int32) = nI (sNb Mz.1 + 1) from nI_add _ _) ?_
    refine fp_X3_46 C h hS dX3_bead_39 (fun H locs h hS => ?_)
    refine lv_aload_n hx hb dX3_bead_42 rfl (lv_at hl 0 rfl) ?_
    refine fg_X3_46 C h dX3_bead_43 ?_
    refine lw_ti (show (nI (sNb ((uNb ((uPe ((uCo Mz.1 (upd (sCo Mz.1) (sNb Mz.1) xz), mF Mz, mB Mz, mA Mz, mC Mz, mP Mz)).1 (upd (sPe ((uCo Mz.1 (upd (sCo Mz.1) (sNb Mz.1) xz), mF Mz, mB Mz, mA Mz, mC Mz, mP Mz)).1) ((sNb Mz.1)) zz), mF ((uCo Mz.1 (upd (sCo Mz.1) (sNb Mz.1) xz), mF Mz, mB Mz, mA Mz, mC Mz, mP Mz)), mB ((uCo Mz.1 (upd (sCo Mz.1) (sNb Mz.1) xz), mF Mz, mB Mz, mA Mz, mC Mz, mP Mz)), mA ((uCo Mz.1 (upd (sCo Mz.1) (sNb Mz.1) xz), mF Mz, mB Mz, mA Mz, mC Mz, mP Mz)), mC ((uCo Mz.1 (upd (sCo Mz.1) (sNb Mz.1) xz), mF Mz, mB Mz, mA Mz, mC Mz, mP Mz)), mP ((uCo Mz.1 (upd (sCo Mz.1) (sNb Mz.1) xz), mF Mz, mB Mz, mA Mz, mC Mz, mP Mz)))).1 (sNb Mz.1 + 1), ((uPe ((uCo Mz.1 (upd (sCo Mz.1) (sNb Mz.1) xz), mF Mz, mB Mz, mA Mz, mC Mz, mP Mz)).1 (upd (sPe ((uCo Mz.1 (upd (sCo Mz.1) (sNb Mz.1) xz), mF Mz, mB Mz, mA Mz, mC Mz, mP Mz)).1) ((sNb Mz.1)) zz), mF ((uCo Mz.1 (upd (sCo Mz.1) (sNb Mz.1) xz), mF Mz, mB Mz, mA Mz, mC Mz, mP Mz)), mB ((uCo Mz.1 (upd (sCo Mz.1) (sNb Mz.1) xz), mF Mz, mB Mz, mA Mz, mC Mz, mP Mz)), mA ((uCo Mz.1 (upd (sCo Mz.1) (sNb Mz.1) xz), mF Mz, mB Mz, mA Mz, mC Mz, mP Mz)), mC ((uCo Mz.1 (upd (sCo Mz.1) (sNb Mz.1) xz), mF Mz, mB Mz, mA Mz, mC Mz, mP Mz)), mP ((uCo Mz.1 (upd (sCo Mz.1) (sNb Mz.1) xz), mF Mz, mB Mz, mA Mz, mC Mz, mP Mz)))).2)).1) : Int32) = nI ((sNb Mz.1 + 1)) from rfl) ?_
    refine lv_iconst (v := nI 1) hx hb dX3_bead_46 (by decide) ?_
    refine lv_isub hx hb dX3_bead_47 ?_
    refine lw_ti (show ((nI ((sNb Mz.1 + 1))) - (nI 1) : Int32) = nI (sNb Mz.1) from nI_m1 (by omega)) ?_
    exact eI C hret hlk ((uNb ((uPe ((uCo Mz.1 (upd (sCo Mz.1) (sNb Mz.1) xz), mF Mz, mB Mz, mA Mz, mC Mz, mP Mz)).1 (upd (sPe ((uCo Mz.1 (upd (sCo Mz.1) (sNb Mz.1) xz), mF Mz, mB Mz, mA Mz, mC Mz, mP Mz)).1) ((sNb Mz.1)) zz), mF ((uCo Mz.1 (upd (sCo Mz.1) (sNb Mz.1) xz), mF Mz, mB Mz, mA Mz, mC Mz, mP Mz)), mB ((uCo Mz.1 (upd (sCo Mz.1) (sNb Mz.1) xz), mF Mz, mB Mz, mA Mz, mC Mz, mP Mz)), mA ((uCo Mz.1 (upd (sCo Mz.1) (sNb Mz.1) xz), mF Mz, mB Mz, mA Mz, mC Mz, mP Mz)), mC ((uCo Mz.1 (upd (sCo Mz.1) (sNb Mz.1) xz), mF Mz, mB Mz, mA Mz, mC Mz, mP Mz)), mP ((uCo Mz.1 (upd (sCo Mz.1) (sNb Mz.1) xz), mF Mz, mB Mz, mA Mz, mC Mz, mP Mz)))).1 (sNb Mz.1 + 1), ((uPe ((uCo Mz.1 (upd (sCo Mz.1) (sNb Mz.1) xz), mF Mz, mB Mz, mA Mz, mC Mz, mP Mz)).1 (upd (sPe ((uCo Mz.1 (upd (sCo Mz.1) (sNb Mz.1) xz), mF Mz, mB Mz, mA Mz, mC Mz, mP Mz)).1) ((sNb Mz.1)) zz), mF ((uCo Mz.1 (upd (sCo Mz.1) (sNb Mz.1) xz), mF Mz, mB Mz, mA Mz, mC Mz, mP Mz)), mB ((uCo Mz.1 (upd (sCo Mz.1) (sNb Mz.1) xz), mF Mz, mB Mz, mA Mz, mC Mz, mP Mz)), mA ((uCo Mz.1 (upd (sCo Mz.1) (sNb Mz.1) xz), mF Mz, mB Mz, mA Mz, mC Mz, mP Mz)), mC ((uCo Mz.1 (upd (sCo Mz.1) (sNb Mz.1) xz), mF Mz, mB Mz, mA Mz, mC Mz, mP Mz)), mP ((uCo Mz.1 (upd (sCo Mz.1) (sNb Mz.1) xz), mF Mz, mB Mz, mA Mz, mC Mz, mP Mz)))).2)) h hS (⟨by unfold spBead; rw [if_neg (by omega)], by unfold spBead; rw [if_neg (by omega)], hR⟩) dX3_bead_48
  · skip
    refine lv_iconst (v := -1) hx hb dX3_bead_10 (by decide) ?_
    exact eI C hret hlk (Mz) h hS (⟨by unfold spBead; rw [if_pos (by rw [nI_eq (by omega) (by decide)] at c7; omega)], by unfold spBead; rw [if_pos (by rw [nI_eq (by omega) (by decide)] at c7; omega)], hR⟩) dX3_bead_11

set_option maxHeartbeats 4000000 in
set_option maxRecDepth 100000 in
theorem c3_paint (l : Launch) (G : Gx) (a : Nat → Nat) (Mz : MS) (hI : Inv Mz.1) (hR : RM Mz) (xz yz : Int32) : CtI l G 10 a (EM G a) yX3_paint cX3_paint 3 (some .boolean) 1 22 [.ref (a 0), .int xz, .int yz] Mz (fun v u => v = (spPaint Mz.1 xz yz).1 ∧ (spPaint Mz.1 xz yz).2 = u.1 ∧ RM u) := by
  refine ent_of (by decide) (Nat.le_of_ble_eq_true rfl) ?_
  intro p e s m below meth c ls C h hS hret hlk hl
  have C : Cx p s m _ c cX3_paint RX3 3 G := C
  have hx := C.1
  have hb := C.2.1
  have hl : lv_has ls 3 [(0, .ref (a 0)), (1, .int xz), (2, .int yz)] := hl
  refine lv_aload_n hx hb dX3_paint_0 rfl (lv_at hl 0 rfl) ?_
  refine lv_iload_n hx hb dX3_paint_1 rfl (lv_at hl 1 rfl) ?_
  refine lv_i2l hx hb dX3_paint_2 rfl ?_
  refine kI (rV (As := [.long xz.toInt64]) (rest := []) C h lk_X3_65 0 (by decide) rfl rfl rfl (c3_isBead l G a Mz hI.2.1 _) ⟨Nat.le_of_ble_eq_true rfl, Nat.le_of_ble_eq_true rfl⟩ hl.1 rfl rfl (Nat.le_of_ble_eq_true rfl) dX3_paint_3 ⟨Nat.zero_le _, Nat.zero_le _⟩) hS (fun rv u H locs hp h hS => ?_)
  obtain ⟨rfl, rfl⟩ := hp
  have hN := hI.2.1
  rcases ix_cases xz (n := sNb Mz.1) (by omega) with hbd | ⟨j, hj, rfl, hbd⟩
  · refine lw_ti (b2i_f (fun q => q (by rw [ixl_i2l (by omega)]; exact hbd))) ?_
    refine lv_if_ne (tgt := 11) hx hb dX3_paint_6 (by decide) (fun c0 => absurd c0 (by decide)) (fun _ => ?_)
    refine lv_iconst (v := nI 0) hx hb dX3_paint_9 (by decide) ?_
    exact eZ C hret hlk (Mz) h hS (rfl) (⟨by simp [spPaint, hbd], by simp [spPaint, hbd], hR⟩) dX3_paint_10
  · refine lw_ti (b2i_t (by rw [ixl_i2l (by omega), hbd]; exact fun q => by cases q)) ?_
    refine lv_if_ne (tgt := 11) hx hb dX3_paint_6 (by decide) (fun _ => ?_) (fun c0 => absurd c0 (by decide))
    refine lv_aload_n hx hb dX3_paint_11 rfl (lv_at hl 0 rfl) ?_
    refine fg_X3_26 C h dX3_paint_12 ?_
    refine lv_iload_n hx hb dX3_paint_15 rfl (lv_at hl 1 rfl) ?_
    refine lv_iload_n hx hb dX3_paint_16 rfl (lv_at hl 2 rfl) ?_
    refine ms_co C h hS (by first | assumption | omega) dX3_paint_17 (fun H locs h hS => ?_)
    refine lv_iconst (v := nI 1) hx hb dX3_paint_18 (by decide) ?_
    exact eZ C hret hlk ((uCo Mz.1 (upd (sCo Mz.1) j yz), mF Mz, mB Mz, mA Mz, mC Mz, mP Mz)) h hS (rfl) (⟨by simp [spPaint, hbd], by simp [spPaint, hbd], hR⟩) dX3_paint_19

set_option maxHeartbeats 4000000 in
set_option maxRecDepth 100000 in
theorem c3_colour (l : Launch) (G : Gx) (a : Nat → Nat) (Mz : MS) (hI : Inv Mz.1) (xz : Int32) : CtI l G 10 a (EM G a) yX3_colour cX3_colour 2 (some .int) 1 22 [.ref (a 0), .int xz] Mz (fun v u => Mz = u ∧ v = spColour Mz.1 xz) := by
  refine ent_of (by decide) (Nat.le_of_ble_eq_true rfl) ?_
  intro p e s m below meth c ls C h hS hret hlk hl
  have C : Cx p s m _ c cX3_colour RX3 2 G := C
  have hx := C.1
  have hb := C.2.1
  have hl : lv_has ls 2 [(0, .ref (a 0)), (1, .int xz)] := hl
  refine lv_aload_n hx hb dX3_colour_0 rfl (lv_at hl 0 rfl) ?_
  refine lv_iload_n hx hb dX3_colour_1 rfl (lv_at hl 1 rfl) ?_
  refine lv_i2l hx hb dX3_colour_2 rfl ?_
  refine kI (rV (As := [.long xz.toInt64]) (rest := []) C h lk_X3_65 0 (by decide) rfl rfl rfl (c3_isBead l G a Mz hI.2.1 _) ⟨Nat.le_of_ble_eq_true rfl, Nat.le_of_ble_eq_true rfl⟩ hl.1 rfl rfl (Nat.le_of_ble_eq_true rfl) dX3_colour_3 ⟨Nat.zero_le _, Nat.zero_le _⟩) hS (fun rv u H locs hp h hS => ?_)
  obtain ⟨rfl, rfl⟩ := hp
  have hN := hI.2.1
  rcases ix_cases xz (n := sNb Mz.1) (by omega) with hbd | ⟨j, hj, rfl, hbd⟩
  · refine lw_ti (b2i_f (fun q => q (by rw [ixl_i2l (by omega)]; exact hbd))) ?_
    refine lv_if_eq (tgt := 18) hx hb dX3_colour_6 (by decide) (fun _ => ?_) (fun c0 => absurd c0 (by decide))
    refine lv_iconst (v := nI 0) hx hb dX3_colour_18 (by decide) ?_
    exact eI C hret hlk (Mz) h hS (⟨rfl, by simp [spColour, hbd]⟩) dX3_colour_19
  · refine lw_ti (b2i_t (by rw [ixl_i2l (by omega), hbd]; exact fun q => by cases q)) ?_
    refine lv_if_eq (tgt := 18) hx hb dX3_colour_6 (by decide) (fun c0 => absurd c0 (by decide)) (fun _ => ?_)
    refine lv_aload_n hx hb dX3_colour_9 rfl (lv_at hl 0 rfl) ?_
    refine fg_X3_26 C h dX3_colour_10 ?_
    refine lv_iload_n hx hb dX3_colour_13 rfl (lv_at hl 1 rfl) ?_
    refine ml_co C h (by first | assumption | omega) dX3_colour_14 ?_
    refine lv_goto (tgt := 19) hx hb dX3_colour_15 (by decide) ?_
    exact eI C hret hlk (Mz) h hS (⟨rfl, by simp [spColour, hbd]⟩) dX3_colour_19

set_option maxHeartbeats 4000000 in
set_option maxRecDepth 100000 in
theorem c3_look (l : Launch) (G : Gx) (a : Nat → Nat) (Mz : MS) (hI : Inv Mz.1) (hR : RM Mz) (xz pz : Int32) : CtL l G 10 a (EM G a) yX3_look cX3_look 3 (some .long) 3 63 [.ref (a 0), .int xz, .int pz] Mz (fun v u => Mz = u ∧ v = spLook Mz.1 xz pz) := by
  refine ent_of (by decide) (Nat.le_of_ble_eq_true rfl) ?_
  intro p e s m below meth c ls C h hS hret hlk hl
  have C : Cx p s m _ c cX3_look RX3 3 G := C
  have hx := C.1
  have hb := C.2.1
  have hl : lv_has ls 3 [(0, .ref (a 0)), (1, .int xz), (2, .int pz)] := hl
  refine lv_aload_n hx hb dX3_look_0 rfl (lv_at hl 0 rfl) ?_
  refine lv_iload_n hx hb dX3_look_1 rfl (lv_at hl 1 rfl) ?_
  refine lv_iload_n hx hb dX3_look_2 rfl (lv_at hl 2 rfl) ?_
  refine kI (rV (As := [.int xz, .int pz]) (rest := []) C h lk_X3_69 0 (by decide) rfl rfl rfl (c3_isPlace l G a Mz hI xz pz) ⟨Nat.le_of_ble_eq_true rfl, Nat.le_of_ble_eq_true rfl⟩ hl.1 rfl rfl (Nat.le_of_ble_eq_true rfl) dX3_look_3 ⟨Nat.zero_le _, Nat.zero_le _⟩) hS (fun rv u H locs hp h hS => ?_)
  obtain ⟨rfl, rfl⟩ := hp
  rcases row_cases (S := Mz.1) xz with hrk | ⟨r, hr, rfl, hrk, hk0, hk9⟩
  · refine lw_ti (b2i_f (by rintro ⟨t, q, z, _⟩; rw [hrk] at z; cases z)) ?_
    refine lv_if_eq (tgt := 23) hx hb dX3_look_6 (by decide) (fun _ => ?_) (fun c0 => absurd c0 (by decide))
    refine lv_lconst (v := lN 0) hx hb dX3_look_23 rfl ?_
    exact eL C hret hlk (Mz) h hS (⟨rfl, by simp [spLook, hrk]⟩) dX3_look_24
  · have lr := (hI.1 r hr).2
    rcases ix_cases pz (n := sPl Mz.1 r) (by omega) with hpl | ⟨q, hq, rfl, hpl⟩
    · refine lw_ti (b2i_f (by rintro ⟨t, q, z, z2⟩; rw [hrk] at z; cases z; rw [hpl] at z2; cases z2)) ?_
      refine lv_if_eq (tgt := 23) hx hb dX3_look_6 (by decide) (fun _ => ?_) (fun c0 => absurd c0 (by decide))
      refine lv_lconst (v := lN 0) hx hb dX3_look_23 rfl ?_
      exact eL C hret hlk (Mz) h hS (⟨rfl, by simp [spLook, hrk, hpl]⟩) dX3_look_24
    · refine lw_ti (b2i_t ⟨r, q, hrk, hpl⟩) ?_
      refine lv_if_eq (tgt := 23) hx hb dX3_look_6 (by decide) (fun c0 => absurd c0 (by decide)) (fun _ => ?_)
      refine lv_aload_n hx hb dX3_look_9 rfl (lv_at hl 0 rfl) ?_
      refine fg_X3_16 C h dX3_look_10 ?_
      refine lv_bipush (v := nI 40) hx hb dX3_look_13 (by decide) ?_
      refine lv_iload_n hx hb dX3_look_15 rfl (lv_at hl 1 rfl) ?_
      refine lv_imul hx hb dX3_look_16 ?_
      refine lw_ti (show _ = nI (40 * r) from pk_mul _ _) ?_
      refine lv_iload_n hx hb dX3_look_17 rfl (lv_at hl 2 rfl) ?_
      refine lv_iadd hx hb dX3_look_18 ?_
      refine lw_ti (show _ = nI (40 * r + q) from nI_add _ _) ?_
      refine ml_ce C h (by first | assumption | omega) dX3_look_19 ?_
      refine lv_goto (tgt := 24) hx hb dX3_look_20 (by decide) ?_
      exact eL C hret hlk (Mz) h hS (⟨rfl, by rw [hR.1 r q hr hq]; simp [spLook, hrk, hpl]⟩) dX3_look_24

theorem fit_bd {k : Nat} {v : Int64} (h : k = 7 ∨ k = 8) : fit k v = v := by
  rcases h with rfl | rfl <;> rfl

set_option maxHeartbeats 4000000 in
set_option maxRecDepth 100000 in
theorem c3_put (l : Launch) (G : Gx) (a : Nat → Nat) (Mz : MS) (hI : Inv Mz.1) (hR : RM Mz) (xz pz : Int32) (vz : Int64) : CtI l G 10 a (EM G a) yX3_put cX3_put 5 (some .boolean) 3 63 [.ref (a 0), .int xz, .int pz, .long vz] Mz (fun v u => v = (spPut Mz.1 xz pz vz).1 ∧ (spPut Mz.1 xz pz vz).2 = u.1 ∧ RM u) := by
  refine ent_of (by decide) (Nat.le_of_ble_eq_true rfl) ?_
  intro p e s m below meth c ls C h hS hret hlk hl
  have C : Cx p s m _ c cX3_put RX3 5 G := C
  have hx := C.1
  have hb := C.2.1
  have hl : lv_has ls 5 [(0, .ref (a 0)), (1, .int xz), (2, .int pz), (3, .long vz)] := hl
  refine lv_aload_n hx hb dX3_put_0 rfl (lv_at hl 0 rfl) ?_
  refine lv_iload_n hx hb dX3_put_1 rfl (lv_at hl 1 rfl) ?_
  refine lv_iload_n hx hb dX3_put_2 rfl (lv_at hl 2 rfl) ?_
  refine kI (rV (As := [.int xz, .int pz]) (rest := []) C h lk_X3_69 0 (by decide) rfl rfl rfl (c3_isPlace l G a Mz hI xz pz) ⟨Nat.le_of_ble_eq_true rfl, Nat.le_of_ble_eq_true rfl⟩ hl.1 rfl rfl (Nat.le_of_ble_eq_true rfl) dX3_put_3 ⟨Nat.zero_le _, Nat.zero_le _⟩) hS (fun rv u H locs hp h hS => ?_)
  obtain ⟨rfl, rfl⟩ := hp
  rcases row_cases (S := Mz.1) xz with hrk | ⟨r, hr, rfl, hrk, hk0, hk9⟩
  · refine lw_ti (b2i_f (by rintro ⟨t, q, z, _⟩; rw [hrk] at z; cases z)) ?_
    refine lv_if_ne (tgt := 11) hx hb dX3_put_6 (by decide) (fun c0 => absurd c0 (by decide)) (fun _ => ?_)
    refine lv_iconst (v := nI 0) hx hb dX3_put_9 (by decide) ?_
    exact eZ C hret hlk (Mz) h hS rfl (⟨by simp [spPut, hrk], by simp [spPut, hrk], hR⟩) dX3_put_10
  · have lr := (hI.1 r hr).2
    rcases ix_cases pz (n := sPl Mz.1 r) (by omega) with hpl | ⟨q, hq, rfl, hpl⟩
    · refine lw_ti (b2i_f (by rintro ⟨t, q, z, z2⟩; rw [hrk] at z; cases z; rw [hpl] at z2; cases z2)) ?_
      refine lv_if_ne (tgt := 11) hx hb dX3_put_6 (by decide) (fun c0 => absurd c0 (by decide)) (fun _ => ?_)
      refine lv_iconst (v := nI 0) hx hb dX3_put_9 (by decide) ?_
      exact eZ C hret hlk (Mz) h hS rfl (⟨by simp [spPut, hrk, hpl], by simp [spPut, hrk, hpl], hR⟩) dX3_put_10
    · refine lw_ti (b2i_t ⟨r, q, hrk, hpl⟩) ?_
      refine lv_if_ne (tgt := 11) hx hb dX3_put_6 (by decide) (fun _ => ?_) (fun c0 => absurd c0 (by decide))
      refine lv_aload_n hx hb dX3_put_11 rfl (lv_at hl 0 rfl) ?_
      refine lv_iload_n hx hb dX3_put_12 rfl (lv_at hl 1 rfl) ?_
      refine kI (rV (As := [.int (nI r)]) (rest := []) C h lk_X3_50 0 (by decide) rfl rfl rfl (c3_isBeads l G a Mz r hr (hI.1 r hr).1) ⟨Nat.le_of_ble_eq_true rfl, Nat.le_of_ble_eq_true rfl⟩ hl.1 rfl rfl (Nat.le_of_ble_eq_true rfl) dX3_put_13 ⟨Nat.zero_le _, Nat.zero_le _⟩) hS (fun rv u H locs hp h hS => ?_)
      obtain ⟨rfl, rfl⟩ := hp
      by_cases hBr : sKd Mz.1 r = 7 ∨ sKd Mz.1 r = 8
      · refine lw_ti (b2i_t hBr) ?_
        refine lv_if_ne (tgt := 42) hx hb dX3_put_16 (by decide) (fun _ => ?_) (fun c0 => absurd c0 (by decide))
        refine lv_lload_n hx hb dX3_put_42 rfl (lv_at hl 3 rfl) ?_
        refine lv_ldc2 (v := -1) hx hb C.2.2.2.1 (C.2.2.2.2.1 _ (by decide +kernel)) dX3_put_43 ?_
        refine W.lcmp hx hb dX3_put_46 ?_
        refine lv_if_eq (tgt := 60) hx hb dX3_put_47 (by decide) (fun c47 => ?_) (fun c47 => ?_)
        · have c47 := (lg_cmp_eq _ _).mp c47
          refine lv_lload_n hx hb dX3_put_60 rfl (lv_at hl 3 rfl) ?_
          refine lv_ldc2 (v := -1) hx hb C.2.2.2.1 (C.2.2.2.2.1 _ (by decide +kernel)) dX3_put_61 ?_
          refine W.lcmp hx hb dX3_put_64 ?_
          refine lv_if_eq (tgt := 91) hx hb dX3_put_65 (by decide) (fun c65 => ?_) (fun c0 => absurd ((lg_cmp_eq _ _).mpr c47) c0)
          refine lv_aload_n hx hb dX3_put_91 rfl (lv_at hl 0 rfl) ?_
          refine fg_X3_16 C h dX3_put_92 ?_
          refine lv_bipush (v := nI 40) hx hb dX3_put_95 (by decide) ?_
          refine lv_iload_n hx hb dX3_put_97 rfl (lv_at hl 1 rfl) ?_
          refine lv_imul hx hb dX3_put_98 ?_
          refine lw_ti (show _ = nI (40 * r) from pk_mul _ _) ?_
          refine lv_iload_n hx hb dX3_put_99 rfl (lv_at hl 2 rfl) ?_
          refine lv_iadd hx hb dX3_put_100 ?_
          refine lw_ti (show _ = nI (40 * r + q) from nI_add _ _) ?_
          refine lv_lload_n hx hb dX3_put_101 rfl (lv_at hl 3 rfl) ?_
          refine ms_ce C h hS (by first | assumption | omega) dX3_put_102 (fun H locs h hS => ?_)
          refine lv_iconst (v := nI 1) hx hb dX3_put_103 (by decide) ?_
          exact eZ C hret hlk ((putC Mz.1 r q vz, vp_updL (mF Mz) (40 * r + q) vz, mB Mz, mA Mz, mC Mz, mP Mz)) h hS rfl (⟨by unfold spPut; rw [hrk]; simp only; rw [hpl]; simp only; rw [cif_t (show  mayL Mz.1 (sKd Mz.1 r) vz from Or.inr (Or.inl c47))] <;> rfl, by unfold spPut; rw [hrk]; simp only; rw [hpl]; simp only; rw [cif_t (show mayL Mz.1 (sKd Mz.1 r) vz from Or.inr (Or.inl c47)), fit_bd hBr], RM_put hI hR hr (by omega) _⟩) dX3_put_104
        · have c47 : ¬ vz = (-1) := fun q => c47 ((lg_cmp_eq _ _).mpr q)
          refine lv_aload_n hx hb dX3_put_50 rfl (lv_at hl 0 rfl) ?_
          refine lv_lload_n hx hb dX3_put_51 rfl (lv_at hl 3 rfl) ?_
          refine kI (rV (As := [.long vz]) (rest := []) C h lk_X3_65 0 (by decide) rfl rfl rfl (c3_isBead l G a Mz hI.2.1 vz) ⟨Nat.le_of_ble_eq_true rfl, Nat.le_of_ble_eq_true rfl⟩ hl.1 rfl rfl (Nat.le_of_ble_eq_true rfl) dX3_put_52 ⟨Nat.zero_le _, Nat.zero_le _⟩) hS (fun rv u H locs hp h hS => ?_)
          obtain ⟨rfl, rfl⟩ := hp
          have hN := hI.2.1
          rcases ixl_cases vz (n := sNb Mz.1) (by omega) with hbd | ⟨j, hj, rfl, hbd⟩
          · refine lw_ti (b2i_f (fun q => q hbd)) ?_
            refine lv_if_ne (tgt := 60) hx hb dX3_put_55 (by decide) (fun c0 => absurd c0 (by decide)) (fun _ => ?_)
            refine lv_iconst (v := nI 0) hx hb dX3_put_58 (by decide) ?_
            exact eZ C hret hlk (Mz) h hS rfl (⟨by unfold spPut; rw [hrk]; simp only; rw [hpl]; simp only; rw [cif_f (show ¬ mayL Mz.1 (sKd Mz.1 r) vz from by rintro (z | z | ⟨i, z, z2⟩); exact z hBr; exact c47 z; rw [hbd] at z; cases z)] <;> rfl, by unfold spPut; rw [hrk]; simp only; rw [hpl]; simp only; rw [cif_f (show ¬ mayL Mz.1 (sKd Mz.1 r) vz from by rintro (z | z | ⟨i, z, z2⟩); exact z hBr; exact c47 z; rw [hbd] at z; cases z)] <;> rfl, hR⟩) dX3_put_59
          · refine lw_ti (b2i_t (by rw [hbd]; exact fun q => by cases q)) ?_
            refine lv_if_ne (tgt := 60) hx hb dX3_put_55 (by decide) (fun _ => ?_) (fun c0 => absurd c0 (by decide))
            refine lv_lload_n hx hb dX3_put_60 rfl (lv_at hl 3 rfl) ?_
            refine lv_ldc2 (v := -1) hx hb C.2.2.2.1 (C.2.2.2.2.1 _ (by decide +kernel)) dX3_put_61 ?_
            refine W.lcmp hx hb dX3_put_64 ?_
            refine lv_if_eq (tgt := 91) hx hb dX3_put_65 (by decide) (fun c0 => absurd c0 (fun z => c47 ((lg_cmp_eq _ _).mp z))) (fun c65 => ?_)
            refine lv_aload_n hx hb dX3_put_68 rfl (lv_at hl 0 rfl) ?_
            refine fg_X3_7 C h dX3_put_69 ?_
            refine lv_iload_n hx hb dX3_put_72 rfl (lv_at hl 1 rfl) ?_
            refine ml_kd C h (by first | assumption | omega) dX3_put_73 ?_
            refine lv_bipush (v := nI 8) hx hb dX3_put_74 (by decide) ?_
            refine lv_icmp_ne (tgt := 91) hx hb dX3_put_76 (by decide) (fun c76 => ?_) (fun c76 => ?_)
            · skip
              refine lv_aload_n hx hb dX3_put_91 rfl (lv_at hl 0 rfl) ?_
              refine fg_X3_16 C h dX3_put_92 ?_
              refine lv_bipush (v := nI 40) hx hb dX3_put_95 (by decide) ?_
              refine lv_iload_n hx hb dX3_put_97 rfl (lv_at hl 1 rfl) ?_
              refine lv_imul hx hb dX3_put_98 ?_
              refine lw_ti (show _ = nI (40 * r) from pk_mul _ _) ?_
              refine lv_iload_n hx hb dX3_put_99 rfl (lv_at hl 2 rfl) ?_
              refine lv_iadd hx hb dX3_put_100 ?_
              refine lw_ti (show _ = nI (40 * r + q) from nI_add _ _) ?_
              refine lv_lload_n hx hb dX3_put_101 rfl (lv_at hl 3 rfl) ?_
              refine ms_ce C h hS (by first | assumption | omega) dX3_put_102 (fun H locs h hS => ?_)
              refine lv_iconst (v := nI 1) hx hb dX3_put_103 (by decide) ?_
              exact eZ C hret hlk ((putC Mz.1 r q (lN j), vp_updL (mF Mz) (40 * r + q) (lN j), mB Mz, mA Mz, mC Mz, mP Mz)) h hS rfl (⟨by unfold spPut; rw [hrk]; simp only; rw [hpl]; simp only; rw [cif_t (show  mayL Mz.1 (sKd Mz.1 r) (lN j) from Or.inr (Or.inr ⟨j, hbd, Or.inl (by rcases hBr with z | z; exact z; exact absurd (by rw [z]) c76)⟩))] <;> rfl, by unfold spPut; rw [hrk]; simp only; rw [hpl]; simp only; rw [cif_t (show mayL Mz.1 (sKd Mz.1 r) (lN j) from Or.inr (Or.inr ⟨j, hbd, Or.inl (by rcases hBr with z | z; exact z; exact absurd (by rw [z]) c76)⟩)), fit_bd hBr], RM_put hI hR hr (by omega) _⟩) dX3_put_104
            · skip
              refine lv_aload_n hx hb dX3_put_79 rfl (lv_at hl 0 rfl) ?_
              refine fg_X3_29 C h dX3_put_80 ?_
              refine lv_lload_n hx hb dX3_put_83 rfl (lv_at hl 3 rfl) ?_
              refine lv_l2i hx hb dX3_put_84 rfl ?_
              refine lw_ti (lN_i _) ?_
              refine ml_pe C h (by first | assumption | omega) dX3_put_85 ?_
              refine lv_if_ne (tgt := 91) hx hb dX3_put_86 (by decide) (fun c86 => ?_) (fun c86 => ?_)
              · skip
                refine lv_aload_n hx hb dX3_put_91 rfl (lv_at hl 0 rfl) ?_
                refine fg_X3_16 C h dX3_put_92 ?_
                refine lv_bipush (v := nI 40) hx hb dX3_put_95 (by decide) ?_
                refine lv_iload_n hx hb dX3_put_97 rfl (lv_at hl 1 rfl) ?_
                refine lv_imul hx hb dX3_put_98 ?_
                refine lw_ti (show _ = nI (40 * r) from pk_mul _ _) ?_
                refine lv_iload_n hx hb dX3_put_99 rfl (lv_at hl 2 rfl) ?_
                refine lv_iadd hx hb dX3_put_100 ?_
                refine lw_ti (show _ = nI (40 * r + q) from nI_add _ _) ?_
                refine lv_lload_n hx hb dX3_put_101 rfl (lv_at hl 3 rfl) ?_
                refine ms_ce C h hS (by first | assumption | omega) dX3_put_102 (fun H locs h hS => ?_)
                refine lv_iconst (v := nI 1) hx hb dX3_put_103 (by decide) ?_
                exact eZ C hret hlk ((putC Mz.1 r q (lN j), vp_updL (mF Mz) (40 * r + q) (lN j), mB Mz, mA Mz, mC Mz, mP Mz)) h hS rfl (⟨by unfold spPut; rw [hrk]; simp only; rw [hpl]; simp only; rw [cif_t (show  mayL Mz.1 (sKd Mz.1 r) (lN j) from Or.inr (Or.inr ⟨j, hbd, Or.inr c86⟩))] <;> rfl, by unfold spPut; rw [hrk]; simp only; rw [hpl]; simp only; rw [cif_t (show mayL Mz.1 (sKd Mz.1 r) (lN j) from Or.inr (Or.inr ⟨j, hbd, Or.inr c86⟩)), fit_bd hBr], RM_put hI hR hr (by omega) _⟩) dX3_put_104
              · skip
                refine lv_iconst (v := nI 0) hx hb dX3_put_89 (by decide) ?_
                exact eZ C hret hlk (Mz) h hS rfl (⟨by unfold spPut; rw [hrk]; simp only; rw [hpl]; simp only; rw [cif_f (show ¬ mayL Mz.1 (sKd Mz.1 r) (lN j) from by have hk8 := (nI_eq (by have := (hI.1 r hr).1; omega) (by decide)).mp c76; rintro (z | z | ⟨i, z, z2⟩); exact z hBr; exact c47 z; rw [hbd] at z; cases z; rcases z2 with z2 | z2; omega; exact z2 c86)] <;> rfl, by unfold spPut; rw [hrk]; simp only; rw [hpl]; simp only; rw [cif_f (show ¬ mayL Mz.1 (sKd Mz.1 r) (lN j) from by have hk8 := (nI_eq (by have := (hI.1 r hr).1; omega) (by decide)).mp c76; rintro (z | z | ⟨i, z, z2⟩); exact z hBr; exact c47 z; rw [hbd] at z; cases z; rcases z2 with z2 | z2; omega; exact z2 c86)] <;> rfl, hR⟩) dX3_put_90
      · refine lw_ti (b2i_f hBr) ?_
        refine lv_if_ne (tgt := 42) hx hb dX3_put_16 (by decide) (fun c0 => absurd c0 (by decide)) (fun _ => ?_)
        refine lv_aload_n hx hb dX3_put_19 rfl (lv_at hl 0 rfl) ?_
        refine fg_X3_16 C h dX3_put_20 ?_
        refine lv_bipush (v := nI 40) hx hb dX3_put_23 (by decide) ?_
        refine lv_iload_n hx hb dX3_put_25 rfl (lv_at hl 1 rfl) ?_
        refine lv_imul hx hb dX3_put_26 ?_
        refine lw_ti (show _ = nI (40 * r) from pk_mul _ _) ?_
        refine lv_iload_n hx hb dX3_put_27 rfl (lv_at hl 2 rfl) ?_
        refine lv_iadd hx hb dX3_put_28 ?_
        refine lw_ti (show _ = nI (40 * r + q) from nI_add _ _) ?_
        refine lv_aload_n hx hb dX3_put_29 rfl (lv_at hl 0 rfl) ?_
        refine fg_X3_7 C h dX3_put_30 ?_
        refine lv_iload_n hx hb dX3_put_33 rfl (lv_at hl 1 rfl) ?_
        refine ml_kd C h (by first | assumption | omega) dX3_put_34 ?_
        refine lv_lload_n hx hb dX3_put_35 rfl (lv_at hl 3 rfl) ?_
        refine kL (rS (As := [.int (nI (sKd Mz.1 r)), .long vz]) (rest := [.int (nI (40 * r + q)), .ref (a 3)]) C h lk_X3_73 (c3_kept l G a Mz (sKd Mz.1 r) (by omega) (by have := (hI.1 r hr).1; omega) vz) ⟨Nat.le_of_ble_eq_true rfl, Nat.le_of_ble_eq_true rfl⟩ hl.1 rfl rfl (Nat.le_of_ble_eq_true rfl) dX3_put_36 ⟨Nat.zero_le _, Nat.zero_le _⟩) hS (fun rv u H locs hp h hS => ?_)
        obtain ⟨rfl, rfl⟩ := hp
        refine ms_ce C h hS (by first | assumption | omega) dX3_put_39 (fun H locs h hS => ?_)
        refine lv_iconst (v := nI 1) hx hb dX3_put_40 (by decide) ?_
        exact eZ C hret hlk ((putC Mz.1 r q (fit (sKd Mz.1 r) vz), vp_updL (mF Mz) (40 * r + q) (fit (sKd Mz.1 r) vz), mB Mz, mA Mz, mC Mz, mP Mz)) h hS rfl (⟨by unfold spPut; rw [hrk]; simp only; rw [hpl]; simp only; rw [cif_t (show  mayL Mz.1 (sKd Mz.1 r) vz from Or.inl hBr)] <;> rfl, by unfold spPut; rw [hrk]; simp only; rw [hpl]; simp only; rw [cif_t (show  mayL Mz.1 (sKd Mz.1 r) vz from Or.inl hBr)] <;> rfl, RM_put hI hR hr (by omega) _⟩) dX3_put_41
