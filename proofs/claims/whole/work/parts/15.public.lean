set_option maxHeartbeats 4000000 in
set_option maxRecDepth 100000 in
theorem c_make (l : Launch) (G : Gx) (a : Nat → Nat) (Bz : BS) (xz kz nz : Int32) : CtI l G 35 a (EB G a) yX2_make cX2_make 5 (some .boolean) 3 63 [.ref (a 0), .int xz, .int kz, .int nz] Bz (fun v u => v = (spMake Bz.1 xz kz nz).1 ∧ (spMake Bz.1 xz kz nz).2 = u.1) := by
  refine ent_of (by decide) (Nat.le_of_ble_eq_true rfl) ?_
  intro p e s m below meth c ls C h hS hret hlk hl
  have C : Cx p s m _ c cX2_make RX2 5 G := C
  have hx := C.1
  have hb := C.2.1
  have hl : lv_has ls 5 [(0, .ref (a 0)), (1, .int xz), (2, .int kz), (3, .int nz)] := hl
  refine lv_aload_n hx hb dX2_make_0 rfl (lv_at hl 0 rfl) ?_
  refine lv_iload_n hx hb dX2_make_1 rfl (lv_at hl 1 rfl) ?_
  refine kQ (rV (As := [.int xz]) (rest := []) C h lk_X2_44 0 (by decide) rfl rfl rfl (c_rackAt l G a Bz xz) ⟨Nat.le_of_ble_eq_true rfl, Nat.le_of_ble_eq_true rfl⟩ hl.1 rfl rfl (Nat.le_of_ble_eq_true rfl) dX2_make_2 ⟨Nat.zero_le _, Nat.zero_le _⟩) hS (fun rv u H locs hp h hS => ?_)
  obtain ⟨rfl, ⟨hrk, rfl⟩ | ⟨r, hr, rfl, hrk, rfl⟩⟩ := hp
  · skip
    refine lv_astoreN (lv' := [(4, .null), (0, .ref (a 0)), (1, .int xz), (2, .int kz), (3, .int nz)]) hx hb dX2_make_5 hl (by decide) rfl (fun ls hl => ?_)
    refine lv_aloadN hx hb dX2_make_7 (lv_at hl 0 rfl) ?_
    refine lv_ifnullN (tgt := 33) hx hb dX2_make_9 (by decide) ?_
    refine lv_iconst (v := nI 0) hx hb dX2_make_33 (by decide) ?_
    exact eZ C hret hlk (Bz) h hS (rfl) (⟨by simp [spMake, hrk], by simp [spMake, hrk]⟩) dX2_make_34
  · skip
    refine lv_astore (lv' := [(4, .ref (a (r + 11))), (0, .ref (a 0)), (1, .int (nI r)), (2, .int kz), (3, .int nz)]) hx hb dX2_make_5 hl (by decide) rfl (fun ls hl => ?_)
    refine lv_aload hx hb dX2_make_7 (lv_at hl 0 rfl) ?_
    refine lv_ifnull hx hb dX2_make_9 ?_
    refine lv_iload_n hx hb dX2_make_12 rfl (lv_at hl 3 rfl) ?_
    refine lv_iconst (v := nI 1) hx hb dX2_make_13 (by decide) ?_
    refine lv_icmp_lt (tgt := 33) hx hb dX2_make_14 (by decide) (fun c14 => ?_) (fun c14 => ?_)
    · skip
      refine lv_iconst (v := nI 0) hx hb dX2_make_33 (by decide) ?_
      exact eZ C hret hlk (Bz) h hS (rfl) (⟨by simp [spMake, hrk, rng_lo c14], by simp [spMake, hrk, rng_lo c14]⟩) dX2_make_34
    · skip
      refine lv_iload_n hx hb dX2_make_17 rfl (lv_at hl 3 rfl) ?_
      refine lv_bipush (v := nI 8) hx hb dX2_make_18 (by decide) ?_
      refine lv_icmp_gt (tgt := 33) hx hb dX2_make_20 (by decide) (fun c20 => ?_) (fun c20 => ?_)
      · skip
        refine lv_iconst (v := nI 0) hx hb dX2_make_33 (by decide) ?_
        exact eZ C hret hlk (Bz) h hS (rfl) (⟨by simp [spMake, hrk, rng_hi c20], by simp [spMake, hrk, rng_hi c20]⟩) dX2_make_34
      · skip
        refine lv_iload_n hx hb dX2_make_23 rfl (lv_at hl 4 rfl) ?_
        refine lv_if_lt (tgt := 33) hx hb dX2_make_24 (by decide) (fun c24 => ?_) (fun c24 => ?_)
        · skip
          refine lv_iconst (v := nI 0) hx hb dX2_make_33 (by decide) ?_
          exact eZ C hret hlk (Bz) h hS (rfl) (⟨by simp [spMake, hrk, show rng nz 0 40 = none from rng_lo c24], by simp [spMake, hrk, show rng nz 0 40 = none from rng_lo c24]⟩) dX2_make_34
        · skip
          refine lv_iload_n hx hb dX2_make_27 rfl (lv_at hl 4 rfl) ?_
          refine lv_bipush (v := nI 40) hx hb dX2_make_28 (by decide) ?_
          refine lv_icmp_le (tgt := 35) hx hb dX2_make_30 (by decide) (fun c30 => ?_) (fun c30 => ?_)
          · skip
            obtain ⟨k, hk1, hk8, rfl, hkk⟩ := rng_of (by decide) (by decide) c14 c20
            obtain ⟨n, _, hn40, rfl, hnn⟩ := rng_of (lo := 0) (by decide) (by decide) c24 (Int32.not_lt.mpr c30)
            refine lv_aload hx hb dX2_make_35 (lv_at hl 0 rfl) ?_
            refine lv_iload_n hx hb dX2_make_37 rfl (lv_at hl 3 rfl) ?_
            refine lv_iload_n hx hb dX2_make_38 rfl (lv_at hl 4 rfl) ?_
            refine kV (rVN (As := [.int (nI k), .int (nI n)]) (rest := []) C h lk_X2_48 (r + 11) (by omega) (EB_r _ _ _ (by first | assumption | omega)) rfl rfl (c_hold l G a Bz r hr k n (by omega) (by omega)) ⟨Nat.le_of_ble_eq_true rfl, Nat.le_of_ble_eq_true rfl⟩ hl.1 rfl rfl (Nat.le_of_ble_eq_true rfl) dX2_make_39 ⟨Nat.zero_le _, Nat.zero_le _⟩) hS (fun u H locs hp h hS => ?_)
            obtain rfl := hp
            refine lv_iconst (v := nI 1) hx hb dX2_make_42 (by decide) ?_
            exact eZ C hret hlk ((holdS Bz.1 r k n, Bz.2)) h hS (rfl) (⟨by simp [spMake, hrk, hkk, hnn], by simp [spMake, hrk, hkk, hnn]⟩) dX2_make_43
          · skip
            refine lv_iconst (v := nI 0) hx hb dX2_make_33 (by decide) ?_
            exact eZ C hret hlk (Bz) h hS (rfl) (⟨by simp [spMake, hrk, rng_hi (Int32.not_le.mp c30)], by simp [spMake, hrk, rng_hi (Int32.not_le.mp c30)]⟩) dX2_make_34

set_option maxHeartbeats 4000000 in
set_option maxRecDepth 100000 in
theorem c_lamp (l : Launch) (G : Gx) (a : Nat → Nat) (Bz : BS) (xz : Int32) : CtI l G 35 a (EB G a) yX2_lamp cX2_lamp 3 (some .boolean) 3 63 [.ref (a 0), .int xz] Bz (fun v u => v = (spLamp Bz.1 xz).1 ∧ (spLamp Bz.1 xz).2 = u.1) := by
  refine ent_of (by decide) (Nat.le_of_ble_eq_true rfl) ?_
  intro p e s m below meth c ls C h hS hret hlk hl
  have C : Cx p s m _ c cX2_lamp RX2 3 G := C
  have hx := C.1
  have hb := C.2.1
  have hl : lv_has ls 3 [(0, .ref (a 0)), (1, .int xz)] := hl
  refine lv_aload_n hx hb dX2_lamp_0 rfl (lv_at hl 0 rfl) ?_
  refine lv_iload_n hx hb dX2_lamp_1 rfl (lv_at hl 1 rfl) ?_
  refine kQ (rV (As := [.int xz]) (rest := []) C h lk_X2_44 0 (by decide) rfl rfl rfl (c_rackAt l G a Bz xz) ⟨Nat.le_of_ble_eq_true rfl, Nat.le_of_ble_eq_true rfl⟩ hl.1 rfl rfl (Nat.le_of_ble_eq_true rfl) dX2_lamp_2 ⟨Nat.zero_le _, Nat.zero_le _⟩) hS (fun rv u H locs hp h hS => ?_)
  obtain ⟨rfl, ⟨hrk, rfl⟩ | ⟨r, hr, rfl, hrk, rfl⟩⟩ := hp
  · skip
    refine lv_astore_nN (lv' := [(2, .null), (0, .ref (a 0)), (1, .int xz)]) hx hb dX2_lamp_5 rfl hl (by decide) rfl (fun ls hl => ?_)
    refine lv_aload_nN hx hb dX2_lamp_6 rfl (lv_at hl 0 rfl) ?_
    refine lv_ifnonnullN hx hb dX2_lamp_7 ?_
    refine lv_iconst (v := nI 0) hx hb dX2_lamp_10 (by decide) ?_
    exact eZ C hret hlk (Bz) h hS (rfl) (⟨by simp [spLamp, hrk], by simp [spLamp, hrk]⟩) dX2_lamp_11
  · skip
    refine lv_astore_n (lv' := [(2, .ref (a (r + 11))), (0, .ref (a 0)), (1, .int (nI r))]) hx hb dX2_lamp_5 rfl hl (by decide) rfl (fun ls hl => ?_)
    refine lv_aload_n hx hb dX2_lamp_6 rfl (lv_at hl 0 rfl) ?_
    refine lv_ifnonnull (tgt := 12) hx hb dX2_lamp_7 (by decide) ?_
    refine lv_aload_n hx hb dX2_lamp_12 rfl (lv_at hl 0 rfl) ?_
    refine lv_bipush (v := nI 9) hx hb dX2_lamp_13 (by decide) ?_
    refine lv_iconst (v := nI 0) hx hb dX2_lamp_15 (by decide) ?_
    refine kV (rVN (As := [.int (nI 9), .int (nI 0)]) (rest := []) C h lk_X2_48 (r + 11) (by omega) (EB_r _ _ _ (by first | assumption | omega)) rfl rfl (c_hold l G a Bz r hr 9 0 (by omega) (by omega)) ⟨Nat.le_of_ble_eq_true rfl, Nat.le_of_ble_eq_true rfl⟩ hl.1 rfl rfl (Nat.le_of_ble_eq_true rfl) dX2_lamp_16 ⟨Nat.zero_le _, Nat.zero_le _⟩) hS (fun u H locs hp h hS => ?_)
    obtain rfl := hp
    refine lv_iconst (v := nI 1) hx hb dX2_lamp_19 (by decide) ?_
    exact eZ C hret hlk ((holdS Bz.1 r 9 0, Bz.2)) h hS (rfl) (⟨by simp [spLamp, hrk], by simp [spLamp, hrk]⟩) dX2_lamp_20

set_option maxHeartbeats 4000000 in
set_option maxRecDepth 100000 in
theorem c_empty (l : Launch) (G : Gx) (a : Nat → Nat) (Bz : BS) (hI : Inv Bz.1) (xz : Int32) : CtI l G 35 a (EB G a) yX2_empty cX2_empty 3 (some .boolean) 3 63 [.ref (a 0), .int xz] Bz (fun v u => v = (spEmpty Bz.1 xz).1 ∧ (spEmpty Bz.1 xz).2 = u.1) := by
  refine ent_of (by decide) (Nat.le_of_ble_eq_true rfl) ?_
  intro p e s m below meth c ls C h hS hret hlk hl
  have C : Cx p s m _ c cX2_empty RX2 3 G := C
  have hx := C.1
  have hb := C.2.1
  have hl : lv_has ls 3 [(0, .ref (a 0)), (1, .int xz)] := hl
  refine lv_aload_n hx hb dX2_empty_0 rfl (lv_at hl 0 rfl) ?_
  refine lv_iload_n hx hb dX2_empty_1 rfl (lv_at hl 1 rfl) ?_
  refine kQ (rV (As := [.int xz]) (rest := []) C h lk_X2_44 0 (by decide) rfl rfl rfl (c_rackAt l G a Bz xz) ⟨Nat.le_of_ble_eq_true rfl, Nat.le_of_ble_eq_true rfl⟩ hl.1 rfl rfl (Nat.le_of_ble_eq_true rfl) dX2_empty_2 ⟨Nat.zero_le _, Nat.zero_le _⟩) hS (fun rv u H locs hp h hS => ?_)
  obtain ⟨rfl, ⟨hrk, rfl⟩ | ⟨r, hr, rfl, hrk, rfl⟩⟩ := hp
  · skip
    refine lv_astore_nN (lv' := [(2, .null), (0, .ref (a 0)), (1, .int xz)]) hx hb dX2_empty_5 rfl hl (by decide) rfl (fun ls hl => ?_)
    refine lv_aload_nN hx hb dX2_empty_6 rfl (lv_at hl 0 rfl) ?_
    refine lv_ifnullN (tgt := 17) hx hb dX2_empty_7 (by decide) ?_
    refine lv_iconst (v := nI 0) hx hb dX2_empty_17 (by decide) ?_
    exact eZ C hret hlk (Bz) h hS (rfl) (⟨by simp [spEmpty, hrk], by simp [spEmpty, hrk]⟩) dX2_empty_18
  · skip
    refine lv_astore_n (lv' := [(2, .ref (a (r + 11))), (0, .ref (a 0)), (1, .int (nI r))]) hx hb dX2_empty_5 rfl hl (by decide) rfl (fun ls hl => ?_)
    refine lv_aload_n hx hb dX2_empty_6 rfl (lv_at hl 0 rfl) ?_
    refine lv_ifnull hx hb dX2_empty_7 ?_
    refine lv_aload_n hx hb dX2_empty_10 rfl (lv_at hl 0 rfl) ?_
    refine fg_X2_52 C h (by first | assumption | omega) dX2_empty_11 ?_
    refine lv_if_ne (tgt := 19) hx hb dX2_empty_14 (by decide) (fun c14 => ?_) (fun c14 => ?_)
    · skip
      refine lv_aload_n hx hb dX2_empty_19 rfl (lv_at hl 0 rfl) ?_
      refine lv_iconst (v := nI 0) hx hb dX2_empty_20 (by decide) ?_
      refine lv_iconst (v := nI 0) hx hb dX2_empty_21 (by decide) ?_
      refine kV (rVN (As := [.int (nI 0), .int (nI 0)]) (rest := []) C h lk_X2_48 (r + 11) (by omega) (EB_r _ _ _ (by first | assumption | omega)) rfl rfl (c_hold l G a Bz r hr 0 0 (by omega) (by omega)) ⟨Nat.le_of_ble_eq_true rfl, Nat.le_of_ble_eq_true rfl⟩ hl.1 rfl rfl (Nat.le_of_ble_eq_true rfl) dX2_empty_22 ⟨Nat.zero_le _, Nat.zero_le _⟩) hS (fun u H locs hp h hS => ?_)
      obtain rfl := hp
      refine lv_iconst (v := nI 1) hx hb dX2_empty_25 (by decide) ?_
      exact eZ C hret hlk ((holdS Bz.1 r 0 0, Bz.2)) h hS (rfl) (⟨by have hk := (hI.1 r hr).1; rw [nI_z (by omega)] at c14; simp [spEmpty, hrk, c14], by have hk := (hI.1 r hr).1; rw [nI_z (by omega)] at c14; simp [spEmpty, hrk, c14]⟩) dX2_empty_26
    · skip
      refine lv_iconst (v := nI 0) hx hb dX2_empty_17 (by decide) ?_
      exact eZ C hret hlk (Bz) h hS (rfl) (⟨by have hk := (hI.1 r hr).1; rw [nI_z (by omega)] at c14; simp [spEmpty, hrk, c14], by have hk := (hI.1 r hr).1; rw [nI_z (by omega)] at c14; simp [spEmpty, hrk, c14]⟩) dX2_empty_18

set_option maxHeartbeats 4000000 in
set_option maxRecDepth 100000 in
theorem c_bead (l : Launch) (G : Gx) (a : Nat → Nat) (Bz : BS) (hI : Inv Bz.1) (xz zz : Int32) (hz : vp_nar .boolean zz = zz) : CtI l G 35 a (EB G a) yX2_bead cX2_bead 3 (some .int) 0 0 [.ref (a 0), .int xz, .int zz] Bz (fun v u => v = (spBead Bz.1 xz zz).1 ∧ (spBead Bz.1 xz zz).2 = u.1) := by
  refine ent_of (by decide) (Nat.le_of_ble_eq_true rfl) ?_
  intro p e s m below meth c ls C h hS hret hlk hl
  have C : Cx p s m _ c cX2_bead RX2 3 G := C
  have hx := C.1
  have hb := C.2.1
  have hl : lv_has ls 3 [(0, .ref (a 0)), (1, .int xz), (2, .int zz)] := hl
  have hN := hI.2.1
  refine lv_aload_n hx hb dX2_bead_0 rfl (lv_at hl 0 rfl) ?_
  refine fg_X2_33 C h dX2_bead_1 ?_
  refine lv_sipush (v := nI 200) hx hb dX2_bead_4 (by decide) ?_
  refine lv_icmp_lt (tgt := 12) hx hb dX2_bead_7 (by decide) (fun c7 => ?_) (fun c7 => ?_)
  · skip
    have hlt : sNb Bz.1 < 200 := (nI_ltI (by omega) (by decide)).mp c7
    refine lv_aload_n hx hb dX2_bead_12 rfl (lv_at hl 0 rfl) ?_
    refine fg_X2_15 C h dX2_bead_13 ?_
    refine lv_aload_n hx hb dX2_bead_16 rfl (lv_at hl 0 rfl) ?_
    refine fg_X2_33 C h dX2_bead_17 ?_
    refine lv_iload_n hx hb dX2_bead_20 rfl (lv_at hl 1 rfl) ?_
    refine as_co C h hS (by first | assumption | omega) dX2_bead_21 (fun H locs h hS => ?_)
    refine lv_aload_n hx hb dX2_bead_22 rfl (lv_at hl 0 rfl) ?_
    refine fg_X2_19 C h dX2_bead_23 ?_
    refine lv_aload_n hx hb dX2_bead_26 rfl (lv_at hl 0 rfl) ?_
    refine fg_X2_33 C h dX2_bead_27 ?_
    refine lw_ti (show (nI (sNb ((uCo Bz.1 (upd (sCo Bz.1) (sNb Bz.1) xz), Bz.2)).1) : Int32) = nI ((sNb Bz.1)) from rfl) ?_
    refine lv_iload_n hx hb dX2_bead_30 rfl (lv_at hl 2 rfl) ?_
    refine as_pe C h hS (by first | assumption | omega) hz dX2_bead_31 (fun H locs h hS => ?_)
    refine lv_aload_n hx hb dX2_bead_32 rfl (lv_at hl 0 rfl) ?_
    refine lv_dup hx hb dX2_bead_33 rfl ?_
    refine fg_X2_33 C h dX2_bead_34 ?_
    refine lw_ti (show (nI (sNb ((uPe ((uCo Bz.1 (upd (sCo Bz.1) (sNb Bz.1) xz), Bz.2)).1 (upd (sPe ((uCo Bz.1 (upd (sCo Bz.1) (sNb Bz.1) xz), Bz.2)).1) ((sNb Bz.1)) zz), ((uCo Bz.1 (upd (sCo Bz.1) (sNb Bz.1) xz), Bz.2)).2)).1) : Int32) = nI ((sNb Bz.1)) from rfl) ?_
    refine lv_iconst (v := nI 1) hx hb dX2_bead_37 (by decide) ?_
    refine lv_iadd hx hb dX2_bead_38 ?_
    refine lw_ti (show ((nI ((sNb Bz.1))) + (nI 1) : Int32) = nI (sNb Bz.1 + 1) from nI_add _ _) ?_
    refine fp_X2_33 C h hS dX2_bead_39 (fun H locs h hS => ?_)
    refine lv_aload_n hx hb dX2_bead_42 rfl (lv_at hl 0 rfl) ?_
    refine fg_X2_33 C h dX2_bead_43 ?_
    refine lw_ti (show (nI (sNb ((uNb ((uPe ((uCo Bz.1 (upd (sCo Bz.1) (sNb Bz.1) xz), Bz.2)).1 (upd (sPe ((uCo Bz.1 (upd (sCo Bz.1) (sNb Bz.1) xz), Bz.2)).1) ((sNb Bz.1)) zz), ((uCo Bz.1 (upd (sCo Bz.1) (sNb Bz.1) xz), Bz.2)).2)).1 (sNb Bz.1 + 1), ((uPe ((uCo Bz.1 (upd (sCo Bz.1) (sNb Bz.1) xz), Bz.2)).1 (upd (sPe ((uCo Bz.1 (upd (sCo Bz.1) (sNb Bz.1) xz), Bz.2)).1) ((sNb Bz.1)) zz), ((uCo Bz.1 (upd (sCo Bz.1) (sNb Bz.1) xz), Bz.2)).2)).2)).1) : Int32) = nI ((sNb Bz.1 + 1)) from rfl) ?_
    refine lv_iconst (v := nI 1) hx hb dX2_bead_46 (by decide) ?_
    refine lv_isub hx hb dX2_bead_47 ?_
    refine lw_ti (show ((nI ((sNb Bz.1 + 1))) - (nI 1) : Int32) = nI (sNb Bz.1) from nI_m1 (by omega)) ?_
    exact eI C hret hlk ((uNb ((uPe ((uCo Bz.1 (upd (sCo Bz.1) (sNb Bz.1) xz), Bz.2)).1 (upd (sPe ((uCo Bz.1 (upd (sCo Bz.1) (sNb Bz.1) xz), Bz.2)).1) ((sNb Bz.1)) zz), ((uCo Bz.1 (upd (sCo Bz.1) (sNb Bz.1) xz), Bz.2)).2)).1 (sNb Bz.1 + 1), ((uPe ((uCo Bz.1 (upd (sCo Bz.1) (sNb Bz.1) xz), Bz.2)).1 (upd (sPe ((uCo Bz.1 (upd (sCo Bz.1) (sNb Bz.1) xz), Bz.2)).1) ((sNb Bz.1)) zz), ((uCo Bz.1 (upd (sCo Bz.1) (sNb Bz.1) xz), Bz.2)).2)).2)) h hS (⟨by unfold spBead; rw [if_neg (by omega)], by unfold spBead; rw [if_neg (by omega)]⟩) dX2_bead_48
  · skip
    refine lv_iconst (v := -1) hx hb dX2_bead_10 (by decide) ?_
    exact eI C hret hlk (Bz) h hS (⟨by unfold spBead; rw [if_pos (by rw [nI_ltI (by omega) (by decide)] at c7; omega)], by unfold spBead; rw [if_pos (by rw [nI_ltI (by omega) (by decide)] at c7; omega)]⟩) dX2_bead_11

set_option maxHeartbeats 4000000 in
set_option maxRecDepth 100000 in
theorem c_paint (l : Launch) (G : Gx) (a : Nat → Nat) (Bz : BS) (hI : Inv Bz.1) (xz yz : Int32) : CtI l G 35 a (EB G a) yX2_paint cX2_paint 3 (some .boolean) 1 22 [.ref (a 0), .int xz, .int yz] Bz (fun v u => v = (spPaint Bz.1 xz yz).1 ∧ (spPaint Bz.1 xz yz).2 = u.1) := by
  refine ent_of (by decide) (Nat.le_of_ble_eq_true rfl) ?_
  intro p e s m below meth c ls C h hS hret hlk hl
  have C : Cx p s m _ c cX2_paint RX2 3 G := C
  have hx := C.1
  have hb := C.2.1
  have hl : lv_has ls 3 [(0, .ref (a 0)), (1, .int xz), (2, .int yz)] := hl
  refine lv_aload_n hx hb dX2_paint_0 rfl (lv_at hl 0 rfl) ?_
  refine lv_iload_n hx hb dX2_paint_1 rfl (lv_at hl 1 rfl) ?_
  refine lv_i2l hx hb dX2_paint_2 rfl ?_
  refine kI (rV (As := [.long xz.toInt64]) (rest := []) C h lk_X2_55 0 (by decide) rfl rfl rfl (c_isBead l G a Bz hI.2.1 _) ⟨Nat.le_of_ble_eq_true rfl, Nat.le_of_ble_eq_true rfl⟩ hl.1 rfl rfl (Nat.le_of_ble_eq_true rfl) dX2_paint_3 ⟨Nat.zero_le _, Nat.zero_le _⟩) hS (fun rv u H locs hp h hS => ?_)
  obtain ⟨rfl, rfl⟩ := hp
  have hN := hI.2.1
  rcases ix_cases xz (n := sNb Bz.1) (by omega) with hbd | ⟨j, hj, rfl, hbd⟩
  · refine lw_ti (b2i_f (fun q => q (by rw [ixl_i2l (by omega)]; exact hbd))) ?_
    refine lv_if_ne (tgt := 11) hx hb dX2_paint_6 (by decide) (fun c0 => absurd c0 (by decide)) (fun _ => ?_)
    refine lv_iconst (v := nI 0) hx hb dX2_paint_9 (by decide) ?_
    exact eZ C hret hlk (Bz) h hS (rfl) (⟨by simp [spPaint, hbd], by simp [spPaint, hbd]⟩) dX2_paint_10
  · refine lw_ti (b2i_t (by rw [ixl_i2l (by omega), hbd]; exact fun q => by cases q)) ?_
    refine lv_if_ne (tgt := 11) hx hb dX2_paint_6 (by decide) (fun _ => ?_) (fun c0 => absurd c0 (by decide))
    refine lv_aload_n hx hb dX2_paint_11 rfl (lv_at hl 0 rfl) ?_
    refine fg_X2_15 C h dX2_paint_12 ?_
    refine lv_iload_n hx hb dX2_paint_15 rfl (lv_at hl 1 rfl) ?_
    refine lv_iload_n hx hb dX2_paint_16 rfl (lv_at hl 2 rfl) ?_
    refine as_co C h hS (by first | assumption | omega) dX2_paint_17 (fun H locs h hS => ?_)
    refine lv_iconst (v := nI 1) hx hb dX2_paint_18 (by decide) ?_
    exact eZ C hret hlk ((uCo Bz.1 (upd (sCo Bz.1) j yz), Bz.2)) h hS (rfl) (⟨by simp [spPaint, hbd], by simp [spPaint, hbd]⟩) dX2_paint_19

set_option maxHeartbeats 4000000 in
set_option maxRecDepth 100000 in
theorem c_colour (l : Launch) (G : Gx) (a : Nat → Nat) (Bz : BS) (hI : Inv Bz.1) (xz : Int32) : CtI l G 35 a (EB G a) yX2_colour cX2_colour 2 (some .int) 2 44 [.ref (a 0), .int xz] Bz (fun v u => Bz = u ∧ v = spColour Bz.1 xz) := by
  refine ent_of (by decide) (Nat.le_of_ble_eq_true rfl) ?_
  intro p e s m below meth c ls C h hS hret hlk hl
  have C : Cx p s m _ c cX2_colour RX2 2 G := C
  have hx := C.1
  have hb := C.2.1
  have hl : lv_has ls 2 [(0, .ref (a 0)), (1, .int xz)] := hl
  refine lv_aload_n hx hb dX2_colour_0 rfl (lv_at hl 0 rfl) ?_
  refine lv_iload_n hx hb dX2_colour_1 rfl (lv_at hl 1 rfl) ?_
  refine lv_i2l hx hb dX2_colour_2 rfl ?_
  refine kI (rV (As := [.long xz.toInt64]) (rest := []) C h lk_X2_59 0 (by decide) rfl rfl rfl (c_colourOf l G a Bz hI _) ⟨Nat.le_of_ble_eq_true rfl, Nat.le_of_ble_eq_true rfl⟩ hl.1 rfl rfl (Nat.le_of_ble_eq_true rfl) dX2_colour_3 ⟨Nat.zero_le _, Nat.zero_le _⟩) hS (fun rv u H locs hp h hS => ?_)
  obtain ⟨rfl, rfl⟩ := hp
  exact eI C hret hlk (Bz) h hS (⟨rfl, colO_i hI.2.1⟩) dX2_colour_6

set_option maxHeartbeats 4000000 in
set_option maxRecDepth 100000 in
theorem c_put (l : Launch) (G : Gx) (a : Nat → Nat) (Bz : BS) (hI : Inv Bz.1) (xz pz : Int32) (vz : Int64) : CtI l G 35 a (EB G a) yX2_put cX2_put 6 (some .boolean) 2 45 [.ref (a 0), .int xz, .int pz, .long vz] Bz (fun v u => v = (spPut Bz.1 xz pz vz).1 ∧ (spPut Bz.1 xz pz vz).2 = u.1) := by
  refine ent_of (by decide) (Nat.le_of_ble_eq_true rfl) ?_
  intro p e s m below meth c ls C h hS hret hlk hl
  have C : Cx p s m _ c cX2_put RX2 6 G := C
  have hx := C.1
  have hb := C.2.1
  have hl : lv_has ls 6 [(0, .ref (a 0)), (1, .int xz), (2, .int pz), (3, .long vz)] := hl
  refine lv_aload_n hx hb dX2_put_0 rfl (lv_at hl 0 rfl) ?_
  refine lv_iload_n hx hb dX2_put_1 rfl (lv_at hl 1 rfl) ?_
  refine kQ (rV (As := [.int xz]) (rest := []) C h lk_X2_63 0 (by decide) rfl rfl rfl (c_rowAt l G a Bz hI xz) ⟨Nat.le_of_ble_eq_true rfl, Nat.le_of_ble_eq_true rfl⟩ hl.1 rfl rfl (Nat.le_of_ble_eq_true rfl) dX2_put_2 ⟨Nat.zero_le _, Nat.zero_le _⟩) hS (fun rv u H locs hp h hS => ?_)
  obtain ⟨rfl, ⟨hrk, rfl⟩ | ⟨r, hr, rfl, hrk, hrk0, hrk9, rfl⟩⟩ := hp
  · skip
    refine lv_astoreN (lv' := [(5, .null), (0, .ref (a 0)), (1, .int xz), (2, .int pz), (3, .long vz)]) hx hb dX2_put_5 hl (by decide) rfl (fun ls hl => ?_)
    refine lv_aloadN hx hb dX2_put_7 (lv_at hl 0 rfl) ?_
    refine lv_ifnullN (tgt := 34) hx hb dX2_put_9 (by decide) ?_
    refine lv_iconst (v := nI 0) hx hb dX2_put_34 (by decide) ?_
    exact eZ C hret hlk (Bz) h hS (rfl) (⟨by simp [spPut, hrk], by simp [spPut, hrk]⟩) dX2_put_35
  · skip
    refine lv_astore (lv' := [(5, .ref (a (r + 11))), (0, .ref (a 0)), (1, .int (nI r)), (2, .int pz), (3, .long vz)]) hx hb dX2_put_5 hl (by decide) rfl (fun ls hl => ?_)
    refine lv_aload hx hb dX2_put_7 (lv_at hl 0 rfl) ?_
    refine lv_ifnull hx hb dX2_put_9 ?_
    refine lv_aload hx hb dX2_put_12 (lv_at hl 0 rfl) ?_
    refine lv_iload_n hx hb dX2_put_14 rfl (lv_at hl 3 rfl) ?_
    refine kI (rVN (As := [.int pz]) (rest := []) C h lk_X2_66 (r + 11) (by omega) (EB_r _ _ _ (by first | assumption | omega)) rfl rfl (c_hasPlace l G a Bz r hr (hI.1 r hr).2 pz) ⟨Nat.le_of_ble_eq_true rfl, Nat.le_of_ble_eq_true rfl⟩ hl.1 rfl rfl (Nat.le_of_ble_eq_true rfl) dX2_put_15 ⟨Nat.zero_le _, Nat.zero_le _⟩) hS (fun rv u H locs hp h hS => ?_)
    obtain ⟨rfl, rfl⟩ := hp
    have lr := (hI.1 r hr).2
    rcases ix_cases pz (n := sPl Bz.1 r) (by omega) with hpl | ⟨q, hq, rfl, hpl⟩
    · refine lw_ti (b2i_f (fun z => z hpl)) ?_
      refine lv_if_eq (tgt := 34) hx hb dX2_put_18 (by decide) (fun _ => ?_) (fun c0 => absurd c0 (by decide))
      refine lv_iconst (v := nI 0) hx hb dX2_put_34 (by decide) ?_
      exact eZ C hret hlk (Bz) h hS (rfl) (⟨by simp [spPut, hrk, hpl], by simp [spPut, hrk, hpl]⟩) dX2_put_35
    · refine lw_ti (b2i_t (by rw [hpl]; exact fun z => by cases z)) ?_
      refine lv_if_eq (tgt := 34) hx hb dX2_put_18 (by decide) (fun c0 => absurd c0 (by decide)) (fun _ => ?_)
      refine lv_aload_n hx hb dX2_put_21 rfl (lv_at hl 1 rfl) ?_
      refine lv_aload hx hb dX2_put_22 (lv_at hl 0 rfl) ?_
      refine fg_X2_52 C h (by first | assumption | omega) dX2_put_24 ?_
      refine lv_lload_n hx hb dX2_put_27 rfl (lv_at hl 4 rfl) ?_
      refine kI (rV (As := [.int (nI (sKd Bz.1 r)), .long vz]) (rest := []) C h lk_X2_70 0 (by decide) rfl rfl rfl (c_mayLie l G a Bz hI _ (hI.1 r hr).1 vz) ⟨Nat.le_of_ble_eq_true rfl, Nat.le_of_ble_eq_true rfl⟩ hl.1 rfl rfl (Nat.le_of_ble_eq_true rfl) dX2_put_28 ⟨Nat.zero_le _, Nat.zero_le _⟩) hS (fun rv u H locs hp h hS => ?_)
      obtain ⟨rfl, rfl⟩ := hp
      by_cases hm : mayL Bz.1 (sKd Bz.1 r) vz
      · refine lw_ti (b2i_t hm) ?_
        refine lv_if_ne (tgt := 36) hx hb dX2_put_31 (by decide) (fun _ => ?_) (fun c0 => absurd c0 (by decide))
        refine lv_aload hx hb dX2_put_36 (lv_at hl 0 rfl) ?_
        refine fg_X2_74 C h (by first | assumption | omega) dX2_put_38 ?_
        refine lv_iload_n hx hb dX2_put_41 rfl (lv_at hl 3 rfl) ?_
        refine lv_aload hx hb dX2_put_42 (lv_at hl 0 rfl) ?_
        refine fg_X2_52 C h (by first | assumption | omega) dX2_put_44 ?_
        refine lv_lload_n hx hb dX2_put_47 rfl (lv_at hl 4 rfl) ?_
        refine kL (rS (As := [.int (nI (sKd Bz.1 r)), .long vz]) (rest := [.int (nI q), .ref (a (r + 19))]) C h lk_X2_78 (c_fitted l G a Bz (sKd Bz.1 r) (by omega) (by have := (hI.1 r hr).1; omega) vz) ⟨Nat.le_of_ble_eq_true rfl, Nat.le_of_ble_eq_true rfl⟩ hl.1 rfl rfl (Nat.le_of_ble_eq_true rfl) dX2_put_48 ⟨Nat.zero_le _, Nat.zero_le _⟩) hS (fun rv u H locs hp h hS => ?_)
        obtain ⟨rfl, rfl⟩ := hp
        refine as_ce C h hS (by first | assumption | omega) (by first | assumption | omega) dX2_put_51 (fun H locs h hS => ?_)
        refine lv_iconst (v := nI 1) hx hb dX2_put_52 (by decide) ?_
        exact eZ C hret hlk ((uCe Bz.1 (va_up (sCe Bz.1) r (vp_updL (sCe Bz.1 r) q (fit (sKd Bz.1 r) vz))), Bz.2)) h hS (rfl) (⟨by unfold spPut; rw [hrk]; simp only; rw [hpl]; simp only; rw [cif_t hm] <;> rfl, by unfold spPut; rw [hrk]; simp only; rw [hpl]; simp only; rw [cif_t hm] <;> rfl⟩) dX2_put_53
      · refine lw_ti (b2i_f hm) ?_
        refine lv_if_ne (tgt := 36) hx hb dX2_put_31 (by decide) (fun c0 => absurd c0 (by decide)) (fun _ => ?_)
        refine lv_iconst (v := nI 0) hx hb dX2_put_34 (by decide) ?_
        exact eZ C hret hlk (Bz) h hS (rfl) (⟨by unfold spPut; rw [hrk]; simp only; rw [hpl]; simp only; rw [cif_f hm] <;> rfl, by unfold spPut; rw [hrk]; simp only; rw [hpl]; simp only; rw [cif_f hm] <;> rfl⟩) dX2_put_35

set_option maxHeartbeats 4000000 in
set_option maxRecDepth 100000 in
theorem c_look (l : Launch) (G : Gx) (a : Nat → Nat) (Bz : BS) (hI : Inv Bz.1) (xz pz : Int32) : CtL l G 35 a (EB G a) yX2_look cX2_look 4 (some .long) 2 43 [.ref (a 0), .int xz, .int pz] Bz (fun v u => Bz = u ∧ v = spLook Bz.1 xz pz) := by
  refine ent_of (by decide) (Nat.le_of_ble_eq_true rfl) ?_
  intro p e s m below meth c ls C h hS hret hlk hl
  have C : Cx p s m _ c cX2_look RX2 4 G := C
  have hx := C.1
  have hb := C.2.1
  have hl : lv_has ls 4 [(0, .ref (a 0)), (1, .int xz), (2, .int pz)] := hl
  refine lv_aload_n hx hb dX2_look_0 rfl (lv_at hl 0 rfl) ?_
  refine lv_iload_n hx hb dX2_look_1 rfl (lv_at hl 1 rfl) ?_
  refine kQ (rV (As := [.int xz]) (rest := []) C h lk_X2_63 0 (by decide) rfl rfl rfl (c_rowAt l G a Bz hI xz) ⟨Nat.le_of_ble_eq_true rfl, Nat.le_of_ble_eq_true rfl⟩ hl.1 rfl rfl (Nat.le_of_ble_eq_true rfl) dX2_look_2 ⟨Nat.zero_le _, Nat.zero_le _⟩) hS (fun rv u H locs hp h hS => ?_)
  obtain ⟨rfl, ⟨hrk, rfl⟩ | ⟨r, hr, rfl, hrk, hrk0, hrk9, rfl⟩⟩ := hp
  · skip
    refine lv_astore_nN (lv' := [(3, .null), (0, .ref (a 0)), (1, .int xz), (2, .int pz)]) hx hb dX2_look_5 rfl hl (by decide) rfl (fun ls hl => ?_)
    refine lv_aload_nN hx hb dX2_look_6 rfl (lv_at hl 0 rfl) ?_
    refine lv_ifnullN (tgt := 18) hx hb dX2_look_7 (by decide) ?_
    refine lv_lconst (v := lN 0) hx hb dX2_look_18 rfl ?_
    exact eL C hret hlk (Bz) h hS (⟨rfl, by simp [spLook, hrk]⟩) dX2_look_19
  · skip
    refine lv_astore_n (lv' := [(3, .ref (a (r + 11))), (0, .ref (a 0)), (1, .int (nI r)), (2, .int pz)]) hx hb dX2_look_5 rfl hl (by decide) rfl (fun ls hl => ?_)
    refine lv_aload_n hx hb dX2_look_6 rfl (lv_at hl 0 rfl) ?_
    refine lv_ifnull hx hb dX2_look_7 ?_
    refine lv_aload_n hx hb dX2_look_10 rfl (lv_at hl 0 rfl) ?_
    refine lv_iload_n hx hb dX2_look_11 rfl (lv_at hl 3 rfl) ?_
    refine kI (rVN (As := [.int pz]) (rest := []) C h lk_X2_66 (r + 11) (by omega) (EB_r _ _ _ (by first | assumption | omega)) rfl rfl (c_hasPlace l G a Bz r hr (hI.1 r hr).2 pz) ⟨Nat.le_of_ble_eq_true rfl, Nat.le_of_ble_eq_true rfl⟩ hl.1 rfl rfl (Nat.le_of_ble_eq_true rfl) dX2_look_12 ⟨Nat.zero_le _, Nat.zero_le _⟩) hS (fun rv u H locs hp h hS => ?_)
    obtain ⟨rfl, rfl⟩ := hp
    have lr := (hI.1 r hr).2
    rcases ix_cases pz (n := sPl Bz.1 r) (by omega) with hpl | ⟨q, hq, rfl, hpl⟩
    · refine lw_ti (b2i_f (fun z => z hpl)) ?_
      refine lv_if_ne (tgt := 20) hx hb dX2_look_15 (by decide) (fun c0 => absurd c0 (by decide)) (fun _ => ?_)
      refine lv_lconst (v := lN 0) hx hb dX2_look_18 rfl ?_
      exact eL C hret hlk (Bz) h hS (⟨rfl, by simp [spLook, hrk, hpl]⟩) dX2_look_19
    · refine lw_ti (b2i_t (by rw [hpl]; exact fun z => by cases z)) ?_
      refine lv_if_ne (tgt := 20) hx hb dX2_look_15 (by decide) (fun _ => ?_) (fun c0 => absurd c0 (by decide))
      refine lv_aload_n hx hb dX2_look_20 rfl (lv_at hl 0 rfl) ?_
      refine fg_X2_74 C h (by first | assumption | omega) dX2_look_21 ?_
      refine lv_iload_n hx hb dX2_look_24 rfl (lv_at hl 3 rfl) ?_
      refine al_ce C h (by first | assumption | omega) (by first | assumption | omega) dX2_look_25 ?_
      exact eL C hret hlk (Bz) h hS (⟨rfl, by simp [spLook, hrk, hpl]⟩) dX2_look_26

set_option maxHeartbeats 4000000 in
set_option maxRecDepth 100000 in
theorem c_movingA (l : Launch) (G : Gx) (a : Nat → Nat) (Bz : BS) (iz jz nz : Int64) : CtI l G 35 a (EB G a) yX2_moving cX2_moving 10 (some .int) 3 70 [.ref (a 0), .null, .long iz, .null, .long jz, .long nz] Bz (fun v u => v = -1 ∧ Bz = u) := by
  refine ent_of (by decide) (Nat.le_of_ble_eq_true rfl) ?_
  intro p e s m below meth c ls C h hS hret hlk hl
  have C : Cx p s m _ c cX2_moving RX2 10 G := C
  have hx := C.1
  have hb := C.2.1
  have hl : lv_has ls 10 [(0, .ref (a 0)), (1, .null), (2, .long iz), (4, .null), (5, .long jz), (7, .long nz)] := hl
  refine lv_aload_nN hx hb dX2_moving_0 rfl (lv_at hl 1 rfl) ?_
  refine lv_ifnullN (tgt := 9) hx hb dX2_moving_1 (by decide) ?_
  refine lv_iconst (v := -1) hx hb dX2_moving_9 (by decide) ?_
  exact eI C hret hlk (Bz) h hS (⟨rfl, rfl⟩) dX2_moving_10

set_option maxHeartbeats 4000000 in
set_option maxRecDepth 100000 in
theorem c_movingB (l : Launch) (G : Gx) (a : Nat → Nat) (Bz : BS) (r : Nat) (iz jz nz : Int64) : CtI l G 35 a (EB G a) yX2_moving cX2_moving 10 (some .int) 3 70 [.ref (a 0), .null, .long iz, .ref (a (r + 11)), .long jz, .long nz] Bz (fun v u => v = -1 ∧ Bz = u) := by
  refine ent_of (by decide) (Nat.le_of_ble_eq_true rfl) ?_
  intro p e s m below meth c ls C h hS hret hlk hl
  have C : Cx p s m _ c cX2_moving RX2 10 G := C
  have hx := C.1
  have hb := C.2.1
  have hl : lv_has ls 10 [(0, .ref (a 0)), (1, .null), (2, .long iz), (4, .ref (a (r + 11))), (5, .long jz), (7, .long nz)] := hl
  refine lv_aload_nN hx hb dX2_moving_0 rfl (lv_at hl 1 rfl) ?_
  refine lv_ifnullN (tgt := 9) hx hb dX2_moving_1 (by decide) ?_
  refine lv_iconst (v := -1) hx hb dX2_moving_9 (by decide) ?_
  exact eI C hret hlk (Bz) h hS (⟨rfl, rfl⟩) dX2_moving_10

set_option maxHeartbeats 4000000 in
set_option maxRecDepth 100000 in
theorem c_movingC (l : Launch) (G : Gx) (a : Nat → Nat) (Bz : BS) (q : Nat) (iz jz nz : Int64) : CtI l G 35 a (EB G a) yX2_moving cX2_moving 10 (some .int) 3 70 [.ref (a 0), .ref (a (q + 11)), .long iz, .null, .long jz, .long nz] Bz (fun v u => v = -1 ∧ Bz = u) := by
  refine ent_of (by decide) (Nat.le_of_ble_eq_true rfl) ?_
  intro p e s m below meth c ls C h hS hret hlk hl
  have C : Cx p s m _ c cX2_moving RX2 10 G := C
  have hx := C.1
  have hb := C.2.1
  have hl : lv_has ls 10 [(0, .ref (a 0)), (1, .ref (a (q + 11))), (2, .long iz), (4, .null), (5, .long jz), (7, .long nz)] := hl
  refine lv_aload_n hx hb dX2_moving_0 rfl (lv_at hl 1 rfl) ?_
  refine lv_ifnull hx hb dX2_moving_1 ?_
  refine lv_aloadN hx hb dX2_moving_4 (lv_at hl 3 rfl) ?_
  refine lv_ifnonnullN hx hb dX2_moving_6 ?_
  refine lv_iconst (v := -1) hx hb dX2_moving_9 (by decide) ?_
  exact eI C hret hlk (Bz) h hS (⟨rfl, rfl⟩) dX2_moving_10

set_option maxHeartbeats 4000000 in
set_option maxRecDepth 100000 in
theorem c_move (l : Launch) (G : Gx) (a : Nat → Nat) (Bz : BS) (hI : Inv Bz.1) (xz iz yz jz nz : Int32) : CtI l G 35 a (EB G a) yX2_move cX2_move 6 (some .int) 4 99 [.ref (a 0), .int xz, .int iz, .int yz, .int jz, .int nz] Bz (fun v u => v = (spMove Bz.1 xz iz yz jz nz).1 ∧ (spMove Bz.1 xz iz yz jz nz).2 = u.1) := by
  refine ent_of (by decide) (Nat.le_of_ble_eq_true rfl) ?_
  intro p e s m below meth c ls C h hS hret hlk hl
  have C : Cx p s m _ c cX2_move RX2 6 G := C
  have hx := C.1
  have hb := C.2.1
  have hl : lv_has ls 6 [(0, .ref (a 0)), (1, .int xz), (2, .int iz), (3, .int yz), (4, .int jz), (5, .int nz)] := hl
  refine lv_aload_n hx hb dX2_move_0 rfl (lv_at hl 0 rfl) ?_
  refine lv_aload_n hx hb dX2_move_1 rfl (lv_at hl 0 rfl) ?_
  refine lv_iload_n hx hb dX2_move_2 rfl (lv_at hl 1 rfl) ?_
  refine kQ (rV (As := [.int xz]) (rest := [.ref (a 0)]) C h lk_X2_44 0 (by decide) rfl rfl rfl (c_rackAt l G a Bz xz) ⟨Nat.le_of_ble_eq_true rfl, Nat.le_of_ble_eq_true rfl⟩ hl.1 rfl rfl (Nat.le_of_ble_eq_true rfl) dX2_move_3 ⟨Nat.zero_le _, Nat.zero_le _⟩) hS (fun rv u H locs hp h hS => ?_)
  obtain ⟨rfl, ⟨hrk, rfl⟩ | ⟨q, hq, rfl, hrk, rfl⟩⟩ := hp
  · skip
    refine lv_iload_n hx hb dX2_move_6 rfl (lv_at hl 2 rfl) ?_
    refine lv_i2l hx hb dX2_move_7 rfl ?_
    refine lv_aload_n hx hb dX2_move_8 rfl (lv_at hl 0 rfl) ?_
    refine lv_iload_n hx hb dX2_move_9 rfl (lv_at hl 3 rfl) ?_
    refine kQ (rV (As := [.int yz]) (rest := [.long iz.toInt64, .null, .ref (a 0)]) C h lk_X2_44 0 (by decide) rfl rfl rfl (c_rackAt l G a Bz yz) ⟨Nat.le_of_ble_eq_true rfl, Nat.le_of_ble_eq_true rfl⟩ hl.1 rfl rfl (Nat.le_of_ble_eq_true rfl) dX2_move_10 ⟨Nat.zero_le _, Nat.zero_le _⟩) hS (fun rv u H locs hp h hS => ?_)
    obtain ⟨rfl, ⟨hrk2, rfl⟩ | ⟨r, hr, rfl, hrk2, rfl⟩⟩ := hp
    · skip
      refine lv_iload hx hb dX2_move_13 (lv_at hl 4 rfl) ?_
      refine lv_i2l hx hb dX2_move_15 rfl ?_
      refine lv_iload hx hb dX2_move_16 (lv_at hl 5 rfl) ?_
      refine lv_i2l hx hb dX2_move_18 rfl ?_
      refine kI (rV (As := [.null, .long iz.toInt64, .null, .long jz.toInt64, .long nz.toInt64]) (rest := []) C h lk_X2_82 0 (by decide) rfl rfl rfl (c_movingA l G a Bz _ _ _) ⟨Nat.le_of_ble_eq_true rfl, Nat.le_of_ble_eq_true rfl⟩ hl.1 rfl rfl (Nat.le_of_ble_eq_true rfl) dX2_move_19 ⟨Nat.zero_le _, Nat.zero_le _⟩) hS (fun rv u H locs hp h hS => ?_)
      obtain ⟨rfl, rfl⟩ := hp
      exact eI C hret hlk (Bz) h hS (⟨by simp [spMove, hrk, hrk2], by simp [spMove, hrk, hrk2]⟩) dX2_move_22
    · skip
      refine lv_iload hx hb dX2_move_13 (lv_at hl 4 rfl) ?_
      refine lv_i2l hx hb dX2_move_15 rfl ?_
      refine lv_iload hx hb dX2_move_16 (lv_at hl 5 rfl) ?_
      refine lv_i2l hx hb dX2_move_18 rfl ?_
      refine kI (rV (As := [.null, .long iz.toInt64, .ref (a (r + 11)), .long jz.toInt64, .long nz.toInt64]) (rest := []) C h lk_X2_82 0 (by decide) rfl rfl rfl (c_movingB l G a Bz r _ _ _) ⟨Nat.le_of_ble_eq_true rfl, Nat.le_of_ble_eq_true rfl⟩ hl.1 rfl rfl (Nat.le_of_ble_eq_true rfl) dX2_move_19 ⟨Nat.zero_le _, Nat.zero_le _⟩) hS (fun rv u H locs hp h hS => ?_)
      obtain ⟨rfl, rfl⟩ := hp
      exact eI C hret hlk (Bz) h hS (⟨by simp [spMove, hrk, hrk2], by simp [spMove, hrk, hrk2]⟩) dX2_move_22
  · skip
    refine lv_iload_n hx hb dX2_move_6 rfl (lv_at hl 2 rfl) ?_
    refine lv_i2l hx hb dX2_move_7 rfl ?_
    refine lv_aload_n hx hb dX2_move_8 rfl (lv_at hl 0 rfl) ?_
    refine lv_iload_n hx hb dX2_move_9 rfl (lv_at hl 3 rfl) ?_
    refine kQ (rV (As := [.int yz]) (rest := [.long iz.toInt64, .ref (a (q + 11)), .ref (a 0)]) C h lk_X2_44 0 (by decide) rfl rfl rfl (c_rackAt l G a Bz yz) ⟨Nat.le_of_ble_eq_true rfl, Nat.le_of_ble_eq_true rfl⟩ hl.1 rfl rfl (Nat.le_of_ble_eq_true rfl) dX2_move_10 ⟨Nat.zero_le _, Nat.zero_le _⟩) hS (fun rv u H locs hp h hS => ?_)
    obtain ⟨rfl, ⟨hrk2, rfl⟩ | ⟨r, hr, rfl, hrk2, rfl⟩⟩ := hp
    · skip
      refine lv_iload hx hb dX2_move_13 (lv_at hl 4 rfl) ?_
      refine lv_i2l hx hb dX2_move_15 rfl ?_
      refine lv_iload hx hb dX2_move_16 (lv_at hl 5 rfl) ?_
      refine lv_i2l hx hb dX2_move_18 rfl ?_
      refine kI (rV (As := [.ref (a (q + 11)), .long iz.toInt64, .null, .long jz.toInt64, .long nz.toInt64]) (rest := []) C h lk_X2_82 0 (by decide) rfl rfl rfl (c_movingC l G a Bz q _ _ _) ⟨Nat.le_of_ble_eq_true rfl, Nat.le_of_ble_eq_true rfl⟩ hl.1 rfl rfl (Nat.le_of_ble_eq_true rfl) dX2_move_19 ⟨Nat.zero_le _, Nat.zero_le _⟩) hS (fun rv u H locs hp h hS => ?_)
      obtain ⟨rfl, rfl⟩ := hp
      exact eI C hret hlk (Bz) h hS (⟨by simp [spMove, hrk, hrk2], by simp [spMove, hrk, hrk2]⟩) dX2_move_22
    · skip
      refine lv_iload hx hb dX2_move_13 (lv_at hl 4 rfl) ?_
      refine lv_i2l hx hb dX2_move_15 rfl ?_
      refine lv_iload hx hb dX2_move_16 (lv_at hl 5 rfl) ?_
      refine lv_i2l hx hb dX2_move_18 rfl ?_
      refine kI (rV (As := [.ref (a (q + 11)), .long iz.toInt64, .ref (a (r + 11)), .long jz.toInt64, .long nz.toInt64]) (rest := []) C h lk_X2_82 0 (by decide) rfl rfl rfl (c_moving l G a Bz hI q r hq hr _ _ _ (sml_i _) (sml_i _) (sml_i _)) ⟨Nat.le_of_ble_eq_true rfl, Nat.le_of_ble_eq_true rfl⟩ hl.1 rfl rfl (Nat.le_of_ble_eq_true rfl) dX2_move_19 ⟨Nat.zero_le _, Nat.zero_le _⟩) hS (fun rv u H locs hp h hS => ?_)
      obtain ⟨rfl, rfl⟩ := hp
      exact eI C hret hlk (((movS Bz.1 q r iz.toInt64 jz.toInt64 nz.toInt64).2, Bz.2)) h hS (⟨by simp [spMove, hrk, hrk2], by simp [spMove, hrk, hrk2]⟩) dX2_move_22

set_option maxHeartbeats 4000000 in
set_option maxRecDepth 100000 in
theorem c_open (l : Launch) (G : Gx) (a : Nat → Nat) (Bz : BS) (hI : Inv Bz.1) (xz pz : Int32) : CtI l G 35 a (EB G a) yX2_open cX2_open 5 (some .int) 4 99 [.ref (a 0), .int xz, .int pz] Bz (fun v u => v = (spOpen Bz.1 xz pz).1 ∧ (spOpen Bz.1 xz pz).2 = u.1) := by
  refine ent_of (by decide) (Nat.le_of_ble_eq_true rfl) ?_
  intro p e s m below meth c ls C h hS hret hlk hl
  have C : Cx p s m _ c cX2_open RX2 5 G := C
  have hx := C.1
  have hb := C.2.1
  have hl : lv_has ls 5 [(0, .ref (a 0)), (1, .int xz), (2, .int pz)] := hl
  refine lv_aload_n hx hb dX2_open_0 rfl (lv_at hl 0 rfl) ?_
  refine lv_iload_n hx hb dX2_open_1 rfl (lv_at hl 1 rfl) ?_
  refine kQ (rV (As := [.int xz]) (rest := []) C h lk_X2_44 0 (by decide) rfl rfl rfl (c_rackAt l G a Bz xz) ⟨Nat.le_of_ble_eq_true rfl, Nat.le_of_ble_eq_true rfl⟩ hl.1 rfl rfl (Nat.le_of_ble_eq_true rfl) dX2_open_2 ⟨Nat.zero_le _, Nat.zero_le _⟩) hS (fun rv u H locs hp h hS => ?_)
  obtain ⟨rfl, ⟨hrk, rfl⟩ | ⟨r, hr, rfl, hrk, rfl⟩⟩ := hp
  · skip
    refine lv_astore_nN (lv' := [(3, .null), (0, .ref (a 0)), (1, .int xz), (2, .int pz)]) hx hb dX2_open_5 rfl hl (by decide) rfl (fun ls hl => ?_)
    refine lv_aload_nN hx hb dX2_open_6 rfl (lv_at hl 0 rfl) ?_
    refine lv_ifnonnullN hx hb dX2_open_7 ?_
    refine lv_iconst (v := -1) hx hb dX2_open_10 (by decide) ?_
    exact eI C hret hlk (Bz) h hS (⟨by simp [spOpen, hrk], by simp [spOpen, hrk]⟩) dX2_open_11
  · skip
    refine lv_astore_n (lv' := [(3, .ref (a (r + 11))), (0, .ref (a 0)), (1, .int (nI r)), (2, .int pz)]) hx hb dX2_open_5 rfl hl (by decide) rfl (fun ls hl => ?_)
    refine lv_aload_n hx hb dX2_open_6 rfl (lv_at hl 0 rfl) ?_
    refine lv_ifnonnull (tgt := 12) hx hb dX2_open_7 (by decide) ?_
    refine lv_aload_n hx hb dX2_open_12 rfl (lv_at hl 1 rfl) ?_
    refine lv_aload_n hx hb dX2_open_13 rfl (lv_at hl 0 rfl) ?_
    refine lv_iload_n hx hb dX2_open_14 rfl (lv_at hl 3 rfl) ?_
    refine lv_i2l hx hb dX2_open_15 rfl ?_
    refine lv_aload_n hx hb dX2_open_16 rfl (lv_at hl 0 rfl) ?_
    refine lv_iload_n hx hb dX2_open_17 rfl (lv_at hl 3 rfl) ?_
    refine lv_i2l hx hb dX2_open_18 rfl ?_
    refine lv_lconst (v := lN 1) hx hb dX2_open_19 rfl ?_
    refine lv_ladd hx hb dX2_open_20 ?_
    refine lv_aload_n hx hb dX2_open_21 rfl (lv_at hl 0 rfl) ?_
    refine lv_iload_n hx hb dX2_open_22 rfl (lv_at hl 3 rfl) ?_
    refine kL (rS (As := [.ref (a (r + 11)), .int pz]) (rest := [.long (pz.toInt64 + (lN 1)), .ref (a (r + 11)), .long pz.toInt64, .ref (a (r + 11)), .ref (a 0)]) C h lk_X2_86 (c_thingsBehind l G a Bz r hr (hI.1 r hr).2 pz) ⟨Nat.le_of_ble_eq_true rfl, Nat.le_of_ble_eq_true rfl⟩ hl.1 rfl rfl (Nat.le_of_ble_eq_true rfl) dX2_open_23 ⟨Nat.zero_le _, Nat.zero_le _⟩) hS (fun rv u H locs hp h hS => ?_)
    obtain ⟨rfl, rfl⟩ := hp
    refine kI (rV (As := [.ref (a (r + 11)), .long pz.toInt64, .ref (a (r + 11)), .long (pz.toInt64 + (lN 1)), .long (lN (sPl Bz.1 r) - lN 1 - pz.toInt64)]) (rest := []) C h lk_X2_82 0 (by decide) rfl rfl rfl (c_moving l G a Bz hI r r hr hr _ _ _ (sml_i _) (sml_p1 _) (sml_tb (hI.1 r hr).2 _)) ⟨Nat.le_of_ble_eq_true rfl, Nat.le_of_ble_eq_true rfl⟩ hl.1 rfl rfl (Nat.le_of_ble_eq_true rfl) dX2_open_26 ⟨Nat.zero_le _, Nat.zero_le _⟩) hS (fun rv u H locs hp h hS => ?_)
    obtain ⟨hv, hu⟩ := hp
    have hv : _ = nI (opM Bz.1 r pz).1 := hv
    have hu : ((opM Bz.1 r pz).2, Bz.2) = u := hu
    subst hv
    subst hu
    by_cases hz : (opM Bz.1 r pz).1 = 0
    · refine lw_ti (show _ = nI 0 from congrArg nI hz) ?_
      have lr := (hI.1 r hr).2
      obtain ⟨q, hq, hpq⟩ := opM_0 hI hr hz
      subst hpq
      refine lv_istore (lv' := [(4, .int (nI 0)), (3, .ref (a (r + 11))), (0, .ref (a 0)), (1, .int (nI r)), (2, .int (nI q))]) hx hb dX2_open_29 hl (by decide) rfl (fun ls hl => ?_)
      refine lv_iload hx hb dX2_open_31 (lv_at hl 0 rfl) ?_
      refine lv_if_ne (tgt := 41) hx hb dX2_open_33 (by decide) (fun c0 => absurd c0 (by decide)) (fun _ => ?_)
      refine lv_aload_n hx hb dX2_open_36 rfl (lv_at hl 1 rfl) ?_
      refine lv_iload_n hx hb dX2_open_37 rfl (lv_at hl 4 rfl) ?_
      refine kV (rVN (As := [.int (nI q)]) (rest := []) C h lk_X2_90 (r + 11) (by omega) (EB_r _ _ _ (by first | assumption | omega)) rfl rfl (c_blankPlace l G a ((opM Bz.1 r (nI q)).2, Bz.2) (opM_inv hI hr _) r hr q (by rw [opM_k.2]; exact hq)) ⟨Nat.le_of_ble_eq_true rfl, Nat.le_of_ble_eq_true rfl⟩ hl.1 rfl rfl (Nat.le_of_ble_eq_true rfl) dX2_open_38 ⟨Nat.zero_le _, Nat.zero_le _⟩) hS (fun u H locs hp h hS => ?_)
      obtain rfl := hp
      refine lv_iload hx hb dX2_open_41 (lv_at hl 0 rfl) ?_
      exact eI C hret hlk ((putC (opM Bz.1 r (nI q)).2 r q (blk (sKd (opM Bz.1 r (nI q)).2 r)), Bz.2)) h hS (⟨by unfold spOpen; rw [hrk]; simp only; rw [hz], by unfold spOpen; rw [hrk]; simp only; rw [if_pos hz, nI_clamp (by omega), (opM_k (S := Bz.1) (r := r) (p := (nI q))).1]⟩) dX2_open_43
    · have hlt : (opM Bz.1 r pz).1 < 5 := mov_lt _ _ _ _ _ _
      refine lv_istore (lv' := [(4, .int (nI (opM Bz.1 r pz).1)), (3, .ref (a (r + 11))), (0, .ref (a 0)), (1, .int (nI r)), (2, .int pz)]) hx hb dX2_open_29 hl (by decide) rfl (fun ls hl => ?_)
      refine lv_iload hx hb dX2_open_31 (lv_at hl 0 rfl) ?_
      refine lv_if_ne (tgt := 41) hx hb dX2_open_33 (by decide) (fun c33 => ?_) (fun c0 => absurd c0 (fun z => hz ((nI_z (by omega)).mp z)))
      refine lv_iload hx hb dX2_open_41 (lv_at hl 0 rfl) ?_
      exact eI C hret hlk (((opM Bz.1 r pz).2, Bz.2)) h hS (⟨by unfold spOpen; rw [hrk], by unfold spOpen; rw [hrk]; simp only; rw [if_neg hz]⟩) dX2_open_43

set_option maxHeartbeats 4000000 in
set_option maxRecDepth 100000 in
theorem c_close (l : Launch) (G : Gx) (a : Nat → Nat) (Bz : BS) (hI : Inv Bz.1) (xz pz : Int32) : CtI l G 35 a (EB G a) yX2_close cX2_close 5 (some .int) 4 99 [.ref (a 0), .int xz, .int pz] Bz (fun v u => v = (spClose Bz.1 xz pz).1 ∧ (spClose Bz.1 xz pz).2 = u.1) := by
  refine ent_of (by decide) (Nat.le_of_ble_eq_true rfl) ?_
  intro p e s m below meth c ls C h hS hret hlk hl
  have C : Cx p s m _ c cX2_close RX2 5 G := C
  have hx := C.1
  have hb := C.2.1
  have hl : lv_has ls 5 [(0, .ref (a 0)), (1, .int xz), (2, .int pz)] := hl
  refine lv_aload_n hx hb dX2_close_0 rfl (lv_at hl 0 rfl) ?_
  refine lv_iload_n hx hb dX2_close_1 rfl (lv_at hl 1 rfl) ?_
  refine kQ (rV (As := [.int xz]) (rest := []) C h lk_X2_44 0 (by decide) rfl rfl rfl (c_rackAt l G a Bz xz) ⟨Nat.le_of_ble_eq_true rfl, Nat.le_of_ble_eq_true rfl⟩ hl.1 rfl rfl (Nat.le_of_ble_eq_true rfl) dX2_close_2 ⟨Nat.zero_le _, Nat.zero_le _⟩) hS (fun rv u H locs hp h hS => ?_)
  obtain ⟨rfl, ⟨hrk, rfl⟩ | ⟨r, hr, rfl, hrk, rfl⟩⟩ := hp
  · skip
    refine lv_astore_nN (lv' := [(3, .null), (0, .ref (a 0)), (1, .int xz), (2, .int pz)]) hx hb dX2_close_5 rfl hl (by decide) rfl (fun ls hl => ?_)
    refine lv_aload_nN hx hb dX2_close_6 rfl (lv_at hl 0 rfl) ?_
    refine lv_ifnonnullN hx hb dX2_close_7 ?_
    refine lv_iconst (v := -1) hx hb dX2_close_10 (by decide) ?_
    exact eI C hret hlk (Bz) h hS (⟨by simp [spClose, hrk], by simp [spClose, hrk]⟩) dX2_close_11
  · skip
    refine lv_astore_n (lv' := [(3, .ref (a (r + 11))), (0, .ref (a 0)), (1, .int (nI r)), (2, .int pz)]) hx hb dX2_close_5 rfl hl (by decide) rfl (fun ls hl => ?_)
    refine lv_aload_n hx hb dX2_close_6 rfl (lv_at hl 0 rfl) ?_
    refine lv_ifnonnull (tgt := 12) hx hb dX2_close_7 (by decide) ?_
    refine lv_aload_n hx hb dX2_close_12 rfl (lv_at hl 1 rfl) ?_
    refine lv_aload_n hx hb dX2_close_13 rfl (lv_at hl 0 rfl) ?_
    refine lv_iload_n hx hb dX2_close_14 rfl (lv_at hl 3 rfl) ?_
    refine lv_i2l hx hb dX2_close_15 rfl ?_
    refine lv_lconst (v := lN 1) hx hb dX2_close_16 rfl ?_
    refine lv_ladd hx hb dX2_close_17 ?_
    refine lv_aload_n hx hb dX2_close_18 rfl (lv_at hl 0 rfl) ?_
    refine lv_iload_n hx hb dX2_close_19 rfl (lv_at hl 3 rfl) ?_
    refine lv_i2l hx hb dX2_close_20 rfl ?_
    refine lv_aload_n hx hb dX2_close_21 rfl (lv_at hl 0 rfl) ?_
    refine lv_iload_n hx hb dX2_close_22 rfl (lv_at hl 3 rfl) ?_
    refine kL (rS (As := [.ref (a (r + 11)), .int pz]) (rest := [.long pz.toInt64, .ref (a (r + 11)), .long (pz.toInt64 + (lN 1)), .ref (a (r + 11)), .ref (a 0)]) C h lk_X2_86 (c_thingsBehind l G a Bz r hr (hI.1 r hr).2 pz) ⟨Nat.le_of_ble_eq_true rfl, Nat.le_of_ble_eq_true rfl⟩ hl.1 rfl rfl (Nat.le_of_ble_eq_true rfl) dX2_close_23 ⟨Nat.zero_le _, Nat.zero_le _⟩) hS (fun rv u H locs hp h hS => ?_)
    obtain ⟨rfl, rfl⟩ := hp
    refine kI (rV (As := [.ref (a (r + 11)), .long (pz.toInt64 + (lN 1)), .ref (a (r + 11)), .long pz.toInt64, .long (lN (sPl Bz.1 r) - lN 1 - pz.toInt64)]) (rest := []) C h lk_X2_82 0 (by decide) rfl rfl rfl (c_moving l G a Bz hI r r hr hr _ _ _ (sml_p1 _) (sml_i _) (sml_tb (hI.1 r hr).2 _)) ⟨Nat.le_of_ble_eq_true rfl, Nat.le_of_ble_eq_true rfl⟩ hl.1 rfl rfl (Nat.le_of_ble_eq_true rfl) dX2_close_26 ⟨Nat.zero_le _, Nat.zero_le _⟩) hS (fun rv u H locs hp h hS => ?_)
    obtain ⟨hv, hu⟩ := hp
    have hv : _ = nI (clM Bz.1 r pz).1 := hv
    have hu : ((clM Bz.1 r pz).2, Bz.2) = u := hu
    subst hv
    subst hu
    by_cases hz : (clM Bz.1 r pz).1 = 0
    · refine lw_ti (show _ = nI 0 from congrArg nI hz) ?_
      have lr := (hI.1 r hr).2
      have h0 := clM_0 hI hr hz
      refine lv_istore (lv' := [(4, .int (nI 0)), (3, .ref (a (r + 11))), (0, .ref (a 0)), (1, .int (nI r)), (2, .int pz)]) hx hb dX2_close_29 hl (by decide) rfl (fun ls hl => ?_)
      refine lv_iload hx hb dX2_close_31 (lv_at hl 0 rfl) ?_
      refine lv_if_ne (tgt := 46) hx hb dX2_close_33 (by decide) (fun c0 => absurd c0 (by decide)) (fun _ => ?_)
      refine lv_aload_n hx hb dX2_close_36 rfl (lv_at hl 1 rfl) ?_
      refine lv_aload_n hx hb dX2_close_37 rfl (lv_at hl 1 rfl) ?_
      refine fg_X2_94 C h (by first | assumption | omega) dX2_close_38 ?_
      refine lw_ti (show (nI (sPl (((clM Bz.1 r pz).2, Bz.2)).1 r) : Int32) = nI ((sPl ((clM Bz.1 r pz).2)) r) from rfl) ?_
      refine lw_ti (show (nI ((sPl ((clM Bz.1 r pz).2)) r) : Int32) = nI (sPl Bz.1 r) from by rw [clM_k.2]) ?_
      refine lv_iconst (v := nI 1) hx hb dX2_close_41 (by decide) ?_
      refine lv_isub hx hb dX2_close_42 ?_
      refine lw_ti (show ((nI (sPl Bz.1 r)) - (nI 1) : Int32) = nI (sPl Bz.1 r - 1) from nI_m1 h0) ?_
      refine kV (rVN (As := [.int (nI (sPl Bz.1 r - 1))]) (rest := []) C h lk_X2_90 (r + 11) (by omega) (EB_r _ _ _ (by first | assumption | omega)) rfl rfl (c_blankPlace l G a ((clM Bz.1 r pz).2, Bz.2) (clM_inv hI hr _) r hr (sPl Bz.1 r - 1) (by rw [clM_k.2]; omega)) ⟨Nat.le_of_ble_eq_true rfl, Nat.le_of_ble_eq_true rfl⟩ hl.1 rfl rfl (Nat.le_of_ble_eq_true rfl) dX2_close_43 ⟨Nat.zero_le _, Nat.zero_le _⟩) hS (fun u H locs hp h hS => ?_)
      obtain rfl := hp
      refine lv_iload hx hb dX2_close_46 (lv_at hl 0 rfl) ?_
      exact eI C hret hlk ((putC (clM Bz.1 r pz).2 r (sPl Bz.1 r - 1) (blk (sKd (clM Bz.1 r pz).2 r)), Bz.2)) h hS (⟨by unfold spClose; rw [hrk]; simp only; rw [hz], by unfold spClose; rw [hrk]; simp only; rw [if_pos hz, (clM_k (S := Bz.1) (r := r) (p := pz)).1]⟩) dX2_close_48
    · have hlt : (clM Bz.1 r pz).1 < 5 := mov_lt _ _ _ _ _ _
      refine lv_istore (lv' := [(4, .int (nI (clM Bz.1 r pz).1)), (3, .ref (a (r + 11))), (0, .ref (a 0)), (1, .int (nI r)), (2, .int pz)]) hx hb dX2_close_29 hl (by decide) rfl (fun ls hl => ?_)
      refine lv_iload hx hb dX2_close_31 (lv_at hl 0 rfl) ?_
      refine lv_if_ne (tgt := 46) hx hb dX2_close_33 (by decide) (fun c33 => ?_) (fun c0 => absurd c0 (fun z => hz ((nI_z (by omega)).mp z)))
      refine lv_iload hx hb dX2_close_46 (lv_at hl 0 rfl) ?_
      exact eI C hret hlk (((clM Bz.1 r pz).2, Bz.2)) h hS (⟨by unfold spClose; rw [hrk], by unfold spClose; rw [hrk]; simp only; rw [if_neg hz]⟩) dX2_close_48

set_option maxHeartbeats 4000000 in
set_option maxRecDepth 100000 in
theorem c_turn (l : Launch) (G : Gx) (a : Nat → Nat) (Bz : BS) (hI : Inv Bz.1) (xz dz : Int32) : CtI l G 35 a (EB G a) yX2_turn cX2_turn 4 (some .int) 3 83 [.ref (a 0), .int xz, .int dz] Bz (fun v u => v = (spTurn Bz.1 xz dz).1 ∧ (spTurn Bz.1 xz dz).2 = u.1) := by
  refine ent_of (by decide) (Nat.le_of_ble_eq_true rfl) ?_
  intro p e s m below meth c ls C h hS hret hlk hl
  have C : Cx p s m _ c cX2_turn RX2 4 G := C
  have hx := C.1
  have hb := C.2.1
  have hl : lv_has ls 4 [(0, .ref (a 0)), (1, .int xz), (2, .int dz)] := hl
  refine lv_aload_n hx hb dX2_turn_0 rfl (lv_at hl 0 rfl) ?_
  refine lv_iload_n hx hb dX2_turn_1 rfl (lv_at hl 1 rfl) ?_
  refine kQ (rV (As := [.int xz]) (rest := []) C h lk_X2_44 0 (by decide) rfl rfl rfl (c_rackAt l G a Bz xz) ⟨Nat.le_of_ble_eq_true rfl, Nat.le_of_ble_eq_true rfl⟩ hl.1 rfl rfl (Nat.le_of_ble_eq_true rfl) dX2_turn_2 ⟨Nat.zero_le _, Nat.zero_le _⟩) hS (fun rv u H locs hp h hS => ?_)
  obtain ⟨rfl, ⟨hrk, rfl⟩ | ⟨r, hr, rfl, hrk, rfl⟩⟩ := hp
  · skip
    refine lv_astore_nN (lv' := [(3, .null), (0, .ref (a 0)), (1, .int xz), (2, .int dz)]) hx hb dX2_turn_5 rfl hl (by decide) rfl (fun ls hl => ?_)
    refine lv_aload_nN hx hb dX2_turn_6 rfl (lv_at hl 0 rfl) ?_
    refine lv_ifnonnullN hx hb dX2_turn_7 ?_
    refine lv_iconst (v := -1) hx hb dX2_turn_10 (by decide) ?_
    exact eI C hret hlk (Bz) h hS (⟨by simp [spTurn, hrk], by simp [spTurn, hrk]⟩) dX2_turn_11
  · skip
    refine lv_astore_n (lv' := [(3, .ref (a (r + 11))), (0, .ref (a 0)), (1, .int (nI r)), (2, .int dz)]) hx hb dX2_turn_5 rfl hl (by decide) rfl (fun ls hl => ?_)
    refine lv_aload_n hx hb dX2_turn_6 rfl (lv_at hl 0 rfl) ?_
    refine lv_ifnonnull (tgt := 12) hx hb dX2_turn_7 (by decide) ?_
    refine lv_aload_n hx hb dX2_turn_12 rfl (lv_at hl 0 rfl) ?_
    refine fg_X2_52 C h (by first | assumption | omega) dX2_turn_13 ?_
    refine lv_if_ne (tgt := 21) hx hb dX2_turn_16 (by decide) (fun c16 => ?_) (fun c16 => ?_)
    · skip
      refine lv_aload_n hx hb dX2_turn_21 rfl (lv_at hl 0 rfl) ?_
      refine fg_X2_52 C h (by first | assumption | omega) dX2_turn_22 ?_
      refine lv_bipush (v := nI 9) hx hb dX2_turn_25 (by decide) ?_
      refine lv_icmp_ne (tgt := 32) hx hb dX2_turn_27 (by decide) (fun c27 => ?_) (fun c27 => ?_)
      · skip
        refine lv_aload_n hx hb dX2_turn_32 rfl (lv_at hl 0 rfl) ?_
        refine lv_iload_n hx hb dX2_turn_33 rfl (lv_at hl 3 rfl) ?_
        refine kV (rVN (As := [.int dz]) (rest := []) C h lk_X2_97 (r + 11) (by omega) (EB_r _ _ _ (by first | assumption | omega)) rfl rfl (c_rotate l G a Bz hI r hr dz) ⟨Nat.le_of_ble_eq_true rfl, Nat.le_of_ble_eq_true rfl⟩ hl.1 rfl rfl (Nat.le_of_ble_eq_true rfl) dX2_turn_34 ⟨Nat.zero_le _, Nat.zero_le _⟩) hS (fun u H locs hp h hS => ?_)
        obtain ⟨u1, Kz⟩ := u
        dsimp only at hp
        subst hp
        refine lv_iconst (v := nI 0) hx hb dX2_turn_37 (by decide) ?_
        exact eI C hret hlk ((rotS Bz.1 r dz, Kz)) h hS (⟨by have hk := (hI.1 r hr).1; rw [nI_z (by omega)] at c16; rw [nI_eq (by omega) (by decide)] at c27; simp [spTurn, hrk, c16, c27], by have hk := (hI.1 r hr).1; rw [nI_z (by omega)] at c16; rw [nI_eq (by omega) (by decide)] at c27; simp [spTurn, hrk, c16, c27]⟩) dX2_turn_38
      · skip
        refine lv_iconst (v := nI 2) hx hb dX2_turn_30 (by decide) ?_
        exact eI C hret hlk (Bz) h hS (⟨by have hk := (hI.1 r hr).1; rw [nI_z (by omega)] at c16; rw [nI_eq (by omega) (by decide)] at c27; simp [spTurn, hrk, c16, c27], by have hk := (hI.1 r hr).1; rw [nI_z (by omega)] at c16; rw [nI_eq (by omega) (by decide)] at c27; simp [spTurn, hrk, c16, c27]⟩) dX2_turn_31
    · skip
      refine lv_iconst (v := nI 1) hx hb dX2_turn_19 (by decide) ?_
      exact eI C hret hlk (Bz) h hS (⟨by have hk := (hI.1 r hr).1; rw [nI_z (by omega)] at c16; simp [spTurn, hrk, c16], by have hk := (hI.1 r hr).1; rw [nI_z (by omega)] at c16; simp [spTurn, hrk, c16]⟩) dX2_turn_20

set_option maxHeartbeats 4000000 in
set_option maxRecDepth 100000 in
theorem c_step (l : Launch) (G : Gx) (a : Nat → Nat) (Bz : BS) (hI : Inv Bz.1) (xz iz yz jz nz : Int32) : CtI l G 35 a (EB G a) yX2_step cX2_step 6 (some .int) 2 45 [.ref (a 0), .int xz, .int iz, .int yz, .int jz, .int nz] Bz (fun v u => v = (spStep Bz.1 xz iz yz jz nz).1 ∧ (spStep Bz.1 xz iz yz jz nz).2 = u.1) := by
  refine ent_of (by decide) (Nat.le_of_ble_eq_true rfl) ?_
  intro p e s m below meth c ls C h hS hret hlk hl
  have C : Cx p s m _ c cX2_step RX2 6 G := C
  have hx := C.1
  have hb := C.2.1
  have hl : lv_has ls 6 [(0, .ref (a 0)), (1, .int xz), (2, .int iz), (3, .int yz), (4, .int jz), (5, .int nz)] := hl
  refine lv_aload_n hx hb dX2_step_0 rfl (lv_at hl 0 rfl) ?_
  refine lv_iload_n hx hb dX2_step_1 rfl (lv_at hl 1 rfl) ?_
  refine kQ (rV (As := [.int xz]) (rest := []) C h lk_X2_44 0 (by decide) rfl rfl rfl (c_rackAt l G a Bz xz) ⟨Nat.le_of_ble_eq_true rfl, Nat.le_of_ble_eq_true rfl⟩ hl.1 rfl rfl (Nat.le_of_ble_eq_true rfl) dX2_step_2 ⟨Nat.zero_le _, Nat.zero_le _⟩) hS (fun rv u H locs hp h hS => ?_)
  obtain ⟨rfl, ⟨hrk, rfl⟩ | ⟨q, hq, rfl, hrk, rfl⟩⟩ := hp
  · skip
    refine lv_ifnullN (tgt := 26) hx hb dX2_step_5 (by decide) ?_
    refine lv_iconst (v := -1) hx hb dX2_step_26 (by decide) ?_
    exact eI C hret hlk (Bz) h hS (⟨by simp [spStep, hrk], by simp [spStep, hrk]⟩) dX2_step_27
  · skip
    refine lv_ifnull hx hb dX2_step_5 ?_
    refine lv_aload_n hx hb dX2_step_8 rfl (lv_at hl 0 rfl) ?_
    refine lv_iload_n hx hb dX2_step_9 rfl (lv_at hl 3 rfl) ?_
    refine kQ (rV (As := [.int yz]) (rest := []) C h lk_X2_44 0 (by decide) rfl rfl rfl (c_rackAt l G a Bz yz) ⟨Nat.le_of_ble_eq_true rfl, Nat.le_of_ble_eq_true rfl⟩ hl.1 rfl rfl (Nat.le_of_ble_eq_true rfl) dX2_step_10 ⟨Nat.zero_le _, Nat.zero_le _⟩) hS (fun rv u H locs hp h hS => ?_)
    obtain ⟨rfl, ⟨hrk2, rfl⟩ | ⟨r, hr, rfl, hrk2, rfl⟩⟩ := hp
    · skip
      refine lv_ifnullN (tgt := 26) hx hb dX2_step_13 (by decide) ?_
      refine lv_iconst (v := -1) hx hb dX2_step_26 (by decide) ?_
      exact eI C hret hlk (Bz) h hS (⟨by simp [spStep, hrk, hrk2], by simp [spStep, hrk, hrk2]⟩) dX2_step_27
    · skip
      refine lv_ifnull hx hb dX2_step_13 ?_
      refine lv_aload_n hx hb dX2_step_16 rfl (lv_at hl 0 rfl) ?_
      refine fg_X2_26 C h dX2_step_17 ?_
      refine kI (rVN (As := []) (rest := []) C h lk_X2_100 4 (by decide) rfl rfl rfl (c_isFull l G a Bz hI.2.2.1) ⟨Nat.le_of_ble_eq_true rfl, Nat.le_of_ble_eq_true rfl⟩ hl.1 rfl rfl (Nat.le_of_ble_eq_true rfl) dX2_step_20 ⟨Nat.zero_le _, Nat.zero_le _⟩) hS (fun rv u H locs hp h hS => ?_)
      obtain ⟨rfl, rfl⟩ := hp
      by_cases hF : 24 ≤ sNs Bz.1
      · refine lw_ti (b2i_t hF) ?_
        refine lv_if_eq (tgt := 28) hx hb dX2_step_23 (by decide) (fun c0 => absurd c0 (by decide)) (fun _ => ?_)
        refine lv_iconst (v := -1) hx hb dX2_step_26 (by decide) ?_
        exact eI C hret hlk (Bz) h hS (⟨by simp [spStep, hrk, hrk2, hF], by simp [spStep, hrk, hrk2, hF]⟩) dX2_step_27
      · refine lw_ti (b2i_f hF) ?_
        refine lv_if_eq (tgt := 28) hx hb dX2_step_23 (by decide) (fun _ => ?_) (fun c0 => absurd c0 (by decide))
        refine lv_aload_n hx hb dX2_step_28 rfl (lv_at hl 0 rfl) ?_
        refine fg_X2_26 C h dX2_step_29 ?_
        refine lv_iload_n hx hb dX2_step_32 rfl (lv_at hl 1 rfl) ?_
        refine lv_iload_n hx hb dX2_step_33 rfl (lv_at hl 2 rfl) ?_
        refine lv_iload_n hx hb dX2_step_34 rfl (lv_at hl 3 rfl) ?_
        refine lv_iload hx hb dX2_step_35 (lv_at hl 4 rfl) ?_
        refine lv_iload hx hb dX2_step_37 (lv_at hl 5 rfl) ?_
        refine kV (rVN (As := [.int (nI q), .int iz, .int (nI r), .int jz, .int nz]) (rest := []) C h lk_X2_104 4 (by decide) rfl rfl rfl (c_append l G a Bz (by omega) (nI q) iz (nI r) jz nz) ⟨Nat.le_of_ble_eq_true rfl, Nat.le_of_ble_eq_true rfl⟩ hl.1 rfl rfl (Nat.le_of_ble_eq_true rfl) dX2_step_39 ⟨Nat.zero_le _, Nat.zero_le _⟩) hS (fun u H locs hp h hS => ?_)
        obtain rfl := hp
        refine lv_aload_n hx hb dX2_step_42 rfl (lv_at hl 0 rfl) ?_
        refine fg_X2_26 C h dX2_step_43 ?_
        refine fg_X2_108 C h dX2_step_46 ?_
        refine lw_ti (show (nI (sNs ((appS Bz.1 (nI q) iz (nI r) jz nz, Bz.2)).1) : Int32) = nI ((sNs (appS Bz.1 (nI q) iz (nI r) jz nz))) from rfl) ?_
        refine lw_ti (show (nI ((sNs (appS Bz.1 (nI q) iz (nI r) jz nz))) : Int32) = nI (sNs Bz.1 + 1) from rfl) ?_
        exact eI C hret hlk ((appS Bz.1 (nI q) iz (nI r) jz nz, Bz.2)) h hS (⟨by simp [spStep, hrk, hrk2, hF], by simp [spStep, hrk, hrk2, hF]⟩) dX2_step_49

set_option maxHeartbeats 4000000 in
set_option maxRecDepth 100000 in
theorem c_forget (l : Launch) (G : Gx) (a : Nat → Nat) (Bz : BS) : CtI l G 35 a (EB G a) yX2_forget cX2_forget 2 (some .int) 0 0 [.ref (a 0)] Bz (fun v u => v = (spForget Bz.1).1 ∧ (spForget Bz.1).2 = u.1) := by
  refine ent_of (by decide) (Nat.le_of_ble_eq_true rfl) ?_
  intro p e s m below meth c ls C h hS hret hlk hl
  have C : Cx p s m _ c cX2_forget RX2 2 G := C
  have hx := C.1
  have hb := C.2.1
  have hl : lv_has ls 2 [(0, .ref (a 0))] := hl
  refine lv_aload_n hx hb dX2_forget_0 rfl (lv_at hl 0 rfl) ?_
  refine fg_X2_26 C h dX2_forget_1 ?_
  refine fg_X2_108 C h dX2_forget_4 ?_
  refine lv_istore_n (lv' := [(1, .int (nI (sNs Bz.1))), (0, .ref (a 0))]) hx hb dX2_forget_7 rfl hl (by decide) rfl (fun ls hl => ?_)
  refine lv_aload_n hx hb dX2_forget_8 rfl (lv_at hl 1 rfl) ?_
  refine fg_X2_26 C h dX2_forget_9 ?_
  refine lv_iconst (v := nI 0) hx hb dX2_forget_12 (by decide) ?_
  refine fp_X2_108 C h hS dX2_forget_13 (fun H locs h hS => ?_)
  refine lv_iload_n hx hb dX2_forget_16 rfl (lv_at hl 0 rfl) ?_
  exact eI C hret hlk ((uNs Bz.1 0, Bz.2)) h hS (⟨rfl, rfl⟩) dX2_forget_17

set_option maxHeartbeats 4000000 in
set_option maxRecDepth 100000 in
theorem c_rack (l : Launch) (G : Gx) (a : Nat → Nat) (Bz : BS) (xz yz : Int32) : CtI l G 35 a (EB G a) yX2_rack cX2_rack 4 (some .int) 1 21 [.ref (a 0), .int xz, .int yz] Bz (fun v u => Bz = u ∧ v = spRack Bz.1 xz yz) := by
  refine ent_of (by decide) (Nat.le_of_ble_eq_true rfl) ?_
  intro p e s m below meth c ls C h hS hret hlk hl
  have C : Cx p s m _ c cX2_rack RX2 4 G := C
  have hx := C.1
  have hb := C.2.1
  have hl : lv_has ls 4 [(0, .ref (a 0)), (1, .int xz), (2, .int yz)] := hl
  refine lv_aload_n hx hb dX2_rack_0 rfl (lv_at hl 0 rfl) ?_
  refine lv_iload_n hx hb dX2_rack_1 rfl (lv_at hl 1 rfl) ?_
  refine kQ (rV (As := [.int xz]) (rest := []) C h lk_X2_44 0 (by decide) rfl rfl rfl (c_rackAt l G a Bz xz) ⟨Nat.le_of_ble_eq_true rfl, Nat.le_of_ble_eq_true rfl⟩ hl.1 rfl rfl (Nat.le_of_ble_eq_true rfl) dX2_rack_2 ⟨Nat.zero_le _, Nat.zero_le _⟩) hS (fun rv u H locs hp h hS => ?_)
  obtain ⟨rfl, ⟨hrk, rfl⟩ | ⟨r, hr, rfl, hrk, rfl⟩⟩ := hp
  · skip
    refine lv_astore_nN (lv' := [(3, .null), (0, .ref (a 0)), (1, .int xz), (2, .int yz)]) hx hb dX2_rack_5 rfl hl (by decide) rfl (fun ls hl => ?_)
    refine lv_aload_nN hx hb dX2_rack_6 rfl (lv_at hl 0 rfl) ?_
    refine lv_ifnonnullN hx hb dX2_rack_7 ?_
    refine lv_iconst (v := -1) hx hb dX2_rack_10 (by decide) ?_
    exact eI C hret hlk (Bz) h hS (⟨rfl, by simp [spRack, hrk]⟩) dX2_rack_11
  · skip
    refine lv_astore_n (lv' := [(3, .ref (a (r + 11))), (0, .ref (a 0)), (1, .int (nI r)), (2, .int yz)]) hx hb dX2_rack_5 rfl hl (by decide) rfl (fun ls hl => ?_)
    refine lv_aload_n hx hb dX2_rack_6 rfl (lv_at hl 0 rfl) ?_
    refine lv_ifnonnull (tgt := 12) hx hb dX2_rack_7 (by decide) ?_
    refine lv_iload_n hx hb dX2_rack_12 rfl (lv_at hl 3 rfl) ?_
    by_cases h0 : yz = nI 0
    · refine lv_lookup (off := 27) (tgt := 40) hx hb dX2_rack_13 (by decide) (by rw [h0]; decide) (by decide) ?_
      refine lv_aload_n hx hb dX2_rack_40 rfl (lv_at hl 0 rfl) ?_
      refine fg_X2_52 C h (by first | assumption | omega) dX2_rack_41 ?_
      exact eI C hret hlk (Bz) h hS (⟨rfl, by unfold spRack; rw [hrk]; simp only; rw [if_pos h0]⟩) dX2_rack_44
    by_cases h1 : yz = nI 1
    · refine lv_lookup (off := 32) (tgt := 45) hx hb dX2_rack_13 (by decide) (by rw [h1]; decide) (by decide) ?_
      refine lv_aload_n hx hb dX2_rack_45 rfl (lv_at hl 0 rfl) ?_
      refine fg_X2_94 C h (by first | assumption | omega) dX2_rack_46 ?_
      exact eI C hret hlk (Bz) h hS (⟨rfl, by unfold spRack; rw [hrk]; simp only; rw [if_neg h0, if_pos h1]⟩) dX2_rack_49
    · refine lv_lookup (off := 37) (tgt := 50) hx hb dX2_rack_13 (by decide) ((lv_osw (k := nI 0) h0 rfl).trans (lv_osw (k := nI 1) h1 rfl)) (by decide) ?_
      refine lv_iconst (v := -1) hx hb dX2_rack_50 (by decide) ?_
      exact eI C hret hlk (Bz) h hS (⟨rfl, by unfold spRack; rw [hrk]; simp only; rw [if_neg h0, if_neg h1]⟩) dX2_rack_51

theorem ix_out {x : Int32} {n : Nat} (hn : n < 2 ^ 31) (h : ix x n = none) : x.toInt < 0 ∨ (n : Int) - 1 < x.toInt := by
  by_cases h1 : x < 0
  · rw [Int32.lt_iff_toInt_lt] at h1; exact Or.inl h1
  · by_cases h2 : nI n ≤ x
    · rw [Int32.le_iff_toInt_le, nI_toInt hn] at h2
      exact Or.inr (by omega)
    · obtain ⟨r, _, _, h3⟩ := ix_of hn h1 h2
      rw [h] at h3; cases h3

set_option maxHeartbeats 4000000 in
set_option maxRecDepth 100000 in
theorem c_about (l : Launch) (G : Gx) (a : Nat → Nat) (Bz : BS) (yz : Int32) : CtI l G 35 a (EB G a) yX2_about cX2_about 2 (some .int) 0 0 [.ref (a 0), .int yz] Bz (fun v u => Bz = u ∧ v = spAbout Bz.1 yz) := by
  refine ent_of (by decide) (Nat.le_of_ble_eq_true rfl) ?_
  intro p e s m below meth c ls C h hS hret hlk hl
  have C : Cx p s m _ c cX2_about RX2 2 G := C
  have hx := C.1
  have hb := C.2.1
  have hl : lv_has ls 2 [(0, .ref (a 0)), (1, .int yz)] := hl
  refine lv_iload_n hx hb dX2_about_0 rfl (lv_at hl 1 rfl) ?_
  rcases ix_cases yz (n := 9) (by decide) with hy | ⟨j, hj, hyj, hy⟩
  · refine lv_tableOut (tgt := 110) hx hb dX2_about_1 (ix_out (by decide) hy) (by decide) ?_
    refine lv_iconst (v := -1) hx hb dX2_about_110 (by decide) ?_
    exact eI C hret hlk (Bz) h hS (⟨rfl, by unfold spAbout; rw [hy] <;> rfl⟩) dX2_about_111
  · subst hyj
    rcases (show j = 0 ∨ j = 1 ∨ j = 2 ∨ j = 3 ∨ j = 4 ∨ j = 5 ∨ j = 6 ∨ j = 7 ∨ j = 8 by omega) with rfl | rfl | rfl | rfl | rfl | rfl | rfl | rfl | rfl
    · refine lv_tableIn (off := 51) (tgt := 52) hx hb dX2_about_1 (by decide) (by decide) (by decide) (by decide) ?_
      refine lv_aload_n hx hb dX2_about_52 rfl (lv_at hl 0 rfl) ?_
      refine fg_X2_37 C h dX2_about_53 ?_
      exact eI C hret hlk (Bz) h hS (⟨rfl, by unfold spAbout; rw [hy] <;> rfl⟩) dX2_about_56
    · refine lv_tableIn (off := 56) (tgt := 57) hx hb dX2_about_1 (by decide) (by decide) (by decide) (by decide) ?_
      refine lv_aload_n hx hb dX2_about_57 rfl (lv_at hl 0 rfl) ?_
      refine fg_X2_30 C h dX2_about_58 ?_
      refine lv_iconst (v := nI 1) hx hb dX2_about_61 (by decide) ?_
      refine al_mv C h (by first | assumption | omega) dX2_about_62 ?_
      exact eI C hret hlk (Bz) h hS (⟨rfl, by unfold spAbout; rw [hy] <;> rfl⟩) dX2_about_63
    · refine lv_tableIn (off := 63) (tgt := 64) hx hb dX2_about_1 (by decide) (by decide) (by decide) (by decide) ?_
      refine lv_aload_n hx hb dX2_about_64 rfl (lv_at hl 0 rfl) ?_
      refine fg_X2_30 C h dX2_about_65 ?_
      refine lv_iconst (v := nI 2) hx hb dX2_about_68 (by decide) ?_
      refine al_mv C h (by first | assumption | omega) dX2_about_69 ?_
      exact eI C hret hlk (Bz) h hS (⟨rfl, by unfold spAbout; rw [hy] <;> rfl⟩) dX2_about_70
    · refine lv_tableIn (off := 70) (tgt := 71) hx hb dX2_about_1 (by decide) (by decide) (by decide) (by decide) ?_
      refine lv_aload_n hx hb dX2_about_71 rfl (lv_at hl 0 rfl) ?_
      refine fg_X2_30 C h dX2_about_72 ?_
      refine lv_iconst (v := nI 3) hx hb dX2_about_75 (by decide) ?_
      refine al_mv C h (by first | assumption | omega) dX2_about_76 ?_
      exact eI C hret hlk (Bz) h hS (⟨rfl, by unfold spAbout; rw [hy] <;> rfl⟩) dX2_about_77
    · refine lv_tableIn (off := 77) (tgt := 78) hx hb dX2_about_1 (by decide) (by decide) (by decide) (by decide) ?_
      refine lv_aload_n hx hb dX2_about_78 rfl (lv_at hl 0 rfl) ?_
      refine fg_X2_30 C h dX2_about_79 ?_
      refine lv_iconst (v := nI 4) hx hb dX2_about_82 (by decide) ?_
      refine al_mv C h (by first | assumption | omega) dX2_about_83 ?_
      exact eI C hret hlk (Bz) h hS (⟨rfl, by unfold spAbout; rw [hy] <;> rfl⟩) dX2_about_84
    · refine lv_tableIn (off := 84) (tgt := 85) hx hb dX2_about_1 (by decide) (by decide) (by decide) (by decide) ?_
      refine lv_aload_n hx hb dX2_about_85 rfl (lv_at hl 0 rfl) ?_
      refine fg_X2_30 C h dX2_about_86 ?_
      refine lv_iconst (v := nI 0) hx hb dX2_about_89 (by decide) ?_
      refine al_mv C h (by first | assumption | omega) dX2_about_90 ?_
      exact eI C hret hlk (Bz) h hS (⟨rfl, by unfold spAbout; rw [hy] <;> rfl⟩) dX2_about_91
    · refine lv_tableIn (off := 91) (tgt := 92) hx hb dX2_about_1 (by decide) (by decide) (by decide) (by decide) ?_
      refine lv_aload_n hx hb dX2_about_92 rfl (lv_at hl 0 rfl) ?_
      refine fg_X2_33 C h dX2_about_93 ?_
      exact eI C hret hlk (Bz) h hS (⟨rfl, by unfold spAbout; rw [hy] <;> rfl⟩) dX2_about_96
    · refine lv_tableIn (off := 96) (tgt := 97) hx hb dX2_about_1 (by decide) (by decide) (by decide) (by decide) ?_
      refine lv_aload_n hx hb dX2_about_97 rfl (lv_at hl 0 rfl) ?_
      refine fg_X2_26 C h dX2_about_98 ?_
      refine fg_X2_108 C h dX2_about_101 ?_
      exact eI C hret hlk (Bz) h hS (⟨rfl, by unfold spAbout; rw [hy] <;> rfl⟩) dX2_about_104
    · refine lv_tableIn (off := 104) (tgt := 105) hx hb dX2_about_1 (by decide) (by decide) (by decide) (by decide) ?_
      refine lv_aload_n hx hb dX2_about_105 rfl (lv_at hl 0 rfl) ?_
      refine fg_X2_40 C h dX2_about_106 ?_
      exact eI C hret hlk (Bz) h hS (⟨rfl, by unfold spAbout; rw [hy] <;> rfl⟩) dX2_about_109
