set_option maxHeartbeats 4000000 in
set_option maxRecDepth 100000 in
theorem c_weaveRound (l : Launch) (G : Gx) (a : Nat → Nat) (Bz : BS) (hI : Inv Bz.1) : CtI l G 35 a (EB G a) yX2_weaveRound cX2_weaveRound 5 (some .int) 4 99 [.ref (a 0)] Bz (fun v u => v = nI (rnd Bz.1).1 ∧ ((rnd Bz.1).2, Bz.2) = u) := by
  refine ent_of (by decide) (Nat.le_of_ble_eq_true rfl) ?_
  intro p e s m below meth c ls C h hS hret hlk hl
  have C : Cx p s m _ c cX2_weaveRound RX2 5 G := C
  have hx := C.1
  have hb := C.2.1
  have hl : lv_has ls 5 [(0, .ref (a 0))] := hl
  have h24 := hI.2.2.1
  have lp : ∀ (n : Nat) (j : Nat) (Sz : St) (H : Heap) (locs : List Loc) (ls : Array Slot), (j ≤ sNs Bz.1) → (sNs Bz.1 < j + n) → (Inv Sz) → (sNs Sz = sNs Bz.1) → (wrd (sNs Bz.1 - j) j Sz = rnd Bz.1) →  HW G.1 35 a (EB G a ((Sz, Bz.2))) H → va_S (Aw 35 a) s.heap H locs → lv_has ls 5 [(0, .ref (a 0)), (1, .int (nI j))] → W p l e (rmB 4 99) s m ([.ref (a 0)].toArray) below meth c H locs 0 0 (MQ below (va_Qi (fun v u => v = nI (rnd Bz.1).1 ∧ ((rnd Bz.1).2, Bz.2) = u) (fun u t => HW G.1 35 a (EB G a u) t.heap) (Aw 35 a)) ([.ref (a 0)].toArray) s 0 0 (Aw 35 a)) (F0 m 2 ls []) := by
    intro n
    induction n with
    | zero =>
      intro j Sz H locs ls hj hn hIz hns hw
      exact absurd hn (by omega)
    | succ n ih =>
      intro j Sz H locs ls hj hn hIz hns hw h hS hl
      refine lv_iload_n hx hb dX2_weaveRound_2 rfl (lv_at hl 1 rfl) ?_
      refine lv_aload_n hx hb dX2_weaveRound_3 rfl (lv_at hl 0 rfl) ?_
      refine fg_X2_26 C h dX2_weaveRound_4 ?_
      refine fg_X2_108 C h dX2_weaveRound_7 ?_
      refine lw_ti (show (nI (sNs ((Sz, Bz.2)).1) : Int32) = nI ((sNs Sz)) from rfl) ?_
      refine lv_icmp_ge (tgt := 92) hx hb dX2_weaveRound_10 (by decide) (fun c10 => ?_) (fun c10 => ?_)
      · skip
        refine lv_aload_n hx hb dX2_weaveRound_92 rfl (lv_at hl 0 rfl) ?_
        refine fg_X2_26 C h dX2_weaveRound_93 ?_
        refine fg_X2_108 C h dX2_weaveRound_96 ?_
        refine lw_ti (show (nI (sNs ((Sz, Bz.2)).1) : Int32) = nI ((sNs Sz)) from rfl) ?_
        exact eI C hret hlk ((Sz, Bz.2)) h hS (⟨by rw [← hw, show sNs Bz.1 - j = 0 by rw [nI_leI (by omega) (by omega)] at c10; omega, wrd]; exact congrArg nI (by rw [nI_leI (by omega) (by omega)] at c10; omega), by rw [← hw, show sNs Bz.1 - j = 0 by rw [nI_leI (by omega) (by omega)] at c10; omega, wrd]⟩) dX2_weaveRound_99
      · skip
        have hjn : j < sNs Bz.1 := by rw [nI_leI (by omega) (by omega)] at c10; omega
        have hjs : j < sNs Sz := by omega
        obtain ⟨⟨q, hq, eq⟩, r, hr, er⟩ := hIz.2.2.2.1 j hjs
        have hst := stp_of hq hr eq er
        refine lv_aload_n hx hb dX2_weaveRound_13 rfl (lv_at hl 0 rfl) ?_
        refine lv_aload_n hx hb dX2_weaveRound_14 rfl (lv_at hl 0 rfl) ?_
        refine fg_X2_26 C h dX2_weaveRound_15 ?_
        refine fg_X2_162 C h dX2_weaveRound_18 ?_
        refine lv_iload_n hx hb dX2_weaveRound_21 rfl (lv_at hl 1 rfl) ?_
        refine al_pt0 C h (by first | assumption | omega) dX2_weaveRound_22 ?_
        refine lw_ti (show (sPt ((Sz, Bz.2)).1 0 j : Int32) = (sPt Sz) 0 j from rfl) ?_
        refine lw_ti (show ((sPt Sz) 0 j : Int32) = nI q from eq) ?_
        refine kQ (rV (As := [.int (nI q)]) (rest := []) C h lk_X2_44 0 (by decide) rfl rfl rfl (c_rackAt l G a (Sz, Bz.2) (nI q)) ⟨Nat.le_of_ble_eq_true rfl, Nat.le_of_ble_eq_true rfl⟩ hl.1 rfl rfl (Nat.le_of_ble_eq_true rfl) dX2_weaveRound_23 ⟨Nat.zero_le _, Nat.zero_le _⟩) hS (fun rv u H locs hp h hS => ?_)
        obtain ⟨rfl, hp⟩ := hp
        obtain rfl := rackAt_nI hq hp
        refine lv_astore_n (lv' := [(2, .ref (a (q + 11))), (0, .ref (a 0)), (1, .int (nI j))]) hx hb dX2_weaveRound_26 rfl hl (by decide) rfl (fun ls hl => ?_)
        refine lv_aload_n hx hb dX2_weaveRound_27 rfl (lv_at hl 1 rfl) ?_
        refine lv_aload_n hx hb dX2_weaveRound_28 rfl (lv_at hl 1 rfl) ?_
        refine fg_X2_26 C h dX2_weaveRound_29 ?_
        refine fg_X2_165 C h dX2_weaveRound_32 ?_
        refine lv_iload_n hx hb dX2_weaveRound_35 rfl (lv_at hl 2 rfl) ?_
        refine al_pt2 C h (by first | assumption | omega) dX2_weaveRound_36 ?_
        refine lw_ti (show (sPt ((Sz, Bz.2)).1 2 j : Int32) = (sPt Sz) 2 j from rfl) ?_
        refine lw_ti (show ((sPt Sz) 2 j : Int32) = nI r from er) ?_
        refine kQ (rV (As := [.int (nI r)]) (rest := []) C h lk_X2_44 0 (by decide) rfl rfl rfl (c_rackAt l G a (Sz, Bz.2) (nI r)) ⟨Nat.le_of_ble_eq_true rfl, Nat.le_of_ble_eq_true rfl⟩ hl.1 rfl rfl (Nat.le_of_ble_eq_true rfl) dX2_weaveRound_37 ⟨Nat.zero_le _, Nat.zero_le _⟩) hS (fun rv u H locs hp h hS => ?_)
        obtain ⟨rfl, hp⟩ := hp
        obtain rfl := rackAt_nI hr hp
        refine lv_astore_n (lv' := [(3, .ref (a (r + 11))), (2, .ref (a (q + 11))), (0, .ref (a 0)), (1, .int (nI j))]) hx hb dX2_weaveRound_40 rfl hl (by decide) rfl (fun ls hl => ?_)
        refine lv_aload_n hx hb dX2_weaveRound_41 rfl (lv_at hl 2 rfl) ?_
        refine lv_aload_n hx hb dX2_weaveRound_42 rfl (lv_at hl 1 rfl) ?_
        refine lv_aload_n hx hb dX2_weaveRound_43 rfl (lv_at hl 2 rfl) ?_
        refine fg_X2_26 C h dX2_weaveRound_44 ?_
        refine fg_X2_168 C h dX2_weaveRound_47 ?_
        refine lv_iload_n hx hb dX2_weaveRound_50 rfl (lv_at hl 3 rfl) ?_
        refine al_pt1 C h (by first | assumption | omega) dX2_weaveRound_51 ?_
        refine lw_ti (show (sPt ((Sz, Bz.2)).1 1 j : Int32) = (sPt Sz) 1 j from rfl) ?_
        refine lv_i2l hx hb dX2_weaveRound_52 rfl ?_
        refine lv_aload_n hx hb dX2_weaveRound_53 rfl (lv_at hl 0 rfl) ?_
        refine lv_aload_n hx hb dX2_weaveRound_54 rfl (lv_at hl 2 rfl) ?_
        refine fg_X2_26 C h dX2_weaveRound_55 ?_
        refine fg_X2_171 C h dX2_weaveRound_58 ?_
        refine lv_iload_n hx hb dX2_weaveRound_61 rfl (lv_at hl 3 rfl) ?_
        refine al_pt3 C h (by first | assumption | omega) dX2_weaveRound_62 ?_
        refine lw_ti (show (sPt ((Sz, Bz.2)).1 3 j : Int32) = (sPt Sz) 3 j from rfl) ?_
        refine lv_i2l hx hb dX2_weaveRound_63 rfl ?_
        refine lv_aload_n hx hb dX2_weaveRound_64 rfl (lv_at hl 2 rfl) ?_
        refine fg_X2_26 C h dX2_weaveRound_65 ?_
        refine fg_X2_174 C h dX2_weaveRound_68 ?_
        refine lv_iload_n hx hb dX2_weaveRound_71 rfl (lv_at hl 3 rfl) ?_
        refine al_pt4 C h (by first | assumption | omega) dX2_weaveRound_72 ?_
        refine lw_ti (show (sPt ((Sz, Bz.2)).1 4 j : Int32) = (sPt Sz) 4 j from rfl) ?_
        refine lv_i2l hx hb dX2_weaveRound_73 rfl ?_
        refine kI (rV (As := [.ref (a (q + 11)), .long (((sPt Sz) 1 j).toInt64), .ref (a (r + 11)), .long (((sPt Sz) 3 j).toInt64), .long (((sPt Sz) 4 j).toInt64)]) (rest := []) C h lk_X2_82 0 (by decide) rfl rfl rfl (c_moving l G a (Sz, Bz.2) hIz q r hq hr _ _ _ (sml_i _) (sml_i _) (sml_i _)) ⟨Nat.le_of_ble_eq_true rfl, Nat.le_of_ble_eq_true rfl⟩ hl.1 rfl rfl (Nat.le_of_ble_eq_true rfl) dX2_weaveRound_74 ⟨Nat.zero_le _, Nat.zero_le _⟩) hS (fun rv u H locs hp h hS => ?_)
        obtain ⟨hv, hu⟩ := hp
        rw [← hst] at hv hu
        subst hv
        subst hu
        by_cases hz : (stp Sz j).1 = 0
        · refine lw_ti (show _ = nI 0 from congrArg nI hz) ?_
          refine lv_istore (lv' := [(4, .int (nI 0)), (3, .ref (a (r + 11))), (2, .ref (a (q + 11))), (0, .ref (a 0)), (1, .int (nI j))]) hx hb dX2_weaveRound_77 hl (by decide) rfl (fun ls hl => ?_)
          refine lv_iload hx hb dX2_weaveRound_79 (lv_at hl 0 rfl) ?_
          refine lv_if_eq (tgt := 86) hx hb dX2_weaveRound_81 (by decide) (fun _ => ?_) (fun c0 => absurd c0 (by decide))
          refine lv_iinc (v := nI (j + 1)) (lv' := [(1, .int (nI (j + 1))), (4, .int (nI 0)), (3, .ref (a (r + 11))), (2, .ref (a (q + 11))), (0, .ref (a 0))]) hx hb dX2_weaveRound_86 hl (k := 4) rfl (nI_1 j) (by decide) rfl (fun ls hl => ?_)
          refine lv_goto (tgt := 2) hx hb dX2_weaveRound_89 (by decide) ?_
          exact ih (j + 1) (stp Sz j).2 _ _ _ (by omega) (by omega) (stp_inv hIz hjs) (stp_ns.trans hns) ((wrd_step hjn hz).symm.trans hw) h hS (lv_sub hl [4, 0] rfl)
        · have hlt := mov_lt Sz q r (sPt Sz 1 j).toInt64 (sPt Sz 3 j).toInt64 (sPt Sz 4 j).toInt64
          rw [← hst] at hlt
          refine lv_istore (lv' := [(4, .int (nI (stp Sz j).1)), (3, .ref (a (r + 11))), (2, .ref (a (q + 11))), (0, .ref (a 0)), (1, .int (nI j))]) hx hb dX2_weaveRound_77 hl (by decide) rfl (fun ls hl => ?_)
          refine lv_iload hx hb dX2_weaveRound_79 (lv_at hl 0 rfl) ?_
          refine lv_if_eq (tgt := 86) hx hb dX2_weaveRound_81 (by decide) (fun c0 => absurd c0 (fun z => hz ((nI_z (by omega)).mp z))) (fun c81 => ?_)
          refine lv_iload_n hx hb dX2_weaveRound_84 rfl (lv_at hl 4 rfl) ?_
          exact eI C hret hlk (((stp Sz j).2, Bz.2)) h hS (⟨by rw [← hw, wrd_stop hjn hz], by rw [← hw, wrd_stop hjn hz]⟩) dX2_weaveRound_85
  refine lv_iconst (v := nI 0) hx hb dX2_weaveRound_0 (by decide) ?_
  refine lv_istore_n (lv' := [(1, .int (nI 0)), (0, .ref (a 0))]) hx hb dX2_weaveRound_1 rfl hl (by decide) rfl (fun ls hl => ?_)
  exact lp (sNs Bz.1 + 1) 0 Bz.1 _ _ _ (by omega) (by omega) hI rfl rfl h hS (lv_sub hl [1, 0] rfl)

set_option maxHeartbeats 4000000 in
set_option maxRecDepth 100000 in
theorem c_weave (l : Launch) (G : Gx) (a : Nat → Nat) (Bz : BS) (hI : Inv Bz.1) (xz wz : Int32) : CtI l G 35 a (EB G a) yX2_weave cX2_weave 7 (some .int) 5 123 [.ref (a 0), .int xz, .int wz] Bz (fun v u => v = (spWeave Bz.1 xz wz).1 ∧ (spWeave Bz.1 xz wz).2 = u.1) := by
  refine ent_of (by decide) (Nat.le_of_ble_eq_true rfl) ?_
  intro p e s m below meth c ls C h hS hret hlk hl
  have C : Cx p s m _ c cX2_weave RX2 7 G := C
  have hx := C.1
  have hb := C.2.1
  have hl : lv_has ls 7 [(0, .ref (a 0)), (1, .int xz), (2, .int wz)] := hl
  have h24 := hI.2.2.1
  have lp : ∀ (n : Nat) (N j d : Nat) (Sz : St) (Kz : Kt) (H : Heap) (locs : List Loc) (ls : Array Slot), (N ≤ 50) → (rng xz 1 50 = some N) → (¬ sNs Bz.1 = 0) → (j ≤ N) → (N < j + n) → (Inv Sz) → (wvs (¬ wz = 0) (N - j) d Sz = wvs (¬ wz = 0) N 0 Bz.1) →  HW G.1 35 a (EB G a ((Sz, Kz))) H → va_S (Aw 35 a) s.heap H locs → lv_has ls 7 [(0, .ref (a 0)), (1, .int (nI N)), (2, .int wz), (3, .int (nI d)), (4, .int (nI j))] → W p l e (rmB 5 123) s m ([.ref (a 0), .int xz, .int wz].toArray) below meth c H locs 0 0 (MQ below (va_Qi (fun v u => v = (spWeave Bz.1 xz wz).1 ∧ (spWeave Bz.1 xz wz).2 = u.1) (fun u t => HW G.1 35 a (EB G a u) t.heap) (Aw 35 a)) ([.ref (a 0), .int xz, .int wz].toArray) s 0 0 (Aw 35 a)) (F0 m 28 ls []) := by
    intro n
    induction n with
    | zero =>
      intro N j d Sz Kz H locs ls hN50 hN h0 hj hn hIz hw
      exact absurd hn (by omega)
    | succ n ih =>
      intro N j d Sz Kz H locs ls hN50 hN h0 hj hn hIz hw h hS hl
      refine lv_iload hx hb dX2_weave_28 (lv_at hl 4 rfl) ?_
      refine lv_iload_n hx hb dX2_weave_30 rfl (lv_at hl 1 rfl) ?_
      refine lv_icmp_ge (tgt := 110) hx hb dX2_weave_31 (by decide) (fun c31 => ?_) (fun c31 => ?_)
      · skip
        refine lv_iload_n hx hb dX2_weave_110 rfl (lv_at hl 3 rfl) ?_
        exact eI C hret hlk ((Sz, Kz)) h hS (⟨by unfold spWeave; rw [hN]; simp only; rw [if_neg h0, ← hw, show N - j = 0 by rw [nI_leI (by omega) (by omega)] at c31; omega, wvs], by unfold spWeave; rw [hN]; simp only; rw [if_neg h0, ← hw, show N - j = 0 by rw [nI_leI (by omega) (by omega)] at c31; omega, wvs]⟩) dX2_weave_111
      · skip
        have hjn : j < N := by rw [nI_leI (by omega) (by omega)] at c31; omega
        have hns := (rnd_inv hIz).2.1
        have hle := (rnd_inv hIz).2.2
        have hz24 := hIz.2.2.1
        refine lv_iload_n hx hb dX2_weave_34 rfl (lv_at hl 2 rfl) ?_
        refine lv_if_eq (tgt := 42) hx hb dX2_weave_35 (by decide) (fun c35 => ?_) (fun c35 => ?_)
        · skip
          refine lv_aload_n hx hb dX2_weave_42 rfl (lv_at hl 0 rfl) ?_
          refine kI (rV (As := []) (rest := []) C h lk_X2_114 0 (by decide) rfl rfl rfl (c_weaveRound l G a (Sz, Kz) hIz) ⟨Nat.le_of_ble_eq_true rfl, Nat.le_of_ble_eq_true rfl⟩ hl.1 rfl rfl (Nat.le_of_ble_eq_true rfl) dX2_weave_43 ⟨Nat.zero_le _, Nat.zero_le _⟩) hS (fun rv u H locs hp h hS => ?_)
          obtain ⟨rfl, rfl⟩ := hp
          refine lv_istore (lv' := [(5, .int (nI (rnd Sz).1)), (0, .ref (a 0)), (1, .int (nI N)), (2, .int wz), (3, .int (nI d)), (4, .int (nI j))]) hx hb dX2_weave_46 hl (by decide) rfl (fun ls hl => ?_)
          refine lv_iload hx hb dX2_weave_48 (lv_at hl 0 rfl) ?_
          refine lv_aload_n hx hb dX2_weave_50 rfl (lv_at hl 1 rfl) ?_
          refine fg_X2_26 C h dX2_weave_51 ?_
          refine fg_X2_108 C h dX2_weave_54 ?_
          refine lw_ti (show (nI (sNs (((rnd Sz).2, Kz)).1) : Int32) = nI ((sNs ((rnd Sz).2))) from rfl) ?_
          refine lw_ti (show (nI ((sNs ((rnd Sz).2))) : Int32) = nI (sNs Sz) from congrArg nI hns) ?_
          by_cases hz : (rnd Sz).1 = sNs Sz
          · skip
            refine lv_icmp_ne (tgt := 64) hx hb dX2_weave_57 (by decide) (fun c0 => absurd (congrArg nI hz) c0) (fun c57 => ?_)
            refine lv_iconst (v := nI 1) hx hb dX2_weave_60 (by decide) ?_
            refine lv_goto (tgt := 65) hx hb dX2_weave_61 (by decide) ?_
            refine lv_istore (lv' := [(6, .int (nI 1)), (5, .int (nI (rnd Sz).1)), (0, .ref (a 0)), (1, .int (nI N)), (2, .int wz), (3, .int (nI d)), (4, .int (nI j))]) hx hb dX2_weave_65 hl (by decide) rfl (fun ls hl => ?_)
            refine lv_iload hx hb dX2_weave_67 (lv_at hl 0 rfl) ?_
            refine lv_if_ne (tgt := 82) hx hb dX2_weave_69 (by decide) (fun _ => ?_) (fun c0 => absurd c0 (by decide))
            refine lv_iload_n hx hb dX2_weave_82 rfl (lv_at hl 5 rfl) ?_
            refine lv_iload hx hb dX2_weave_83 (lv_at hl 1 rfl) ?_
            refine lv_iadd hx hb dX2_weave_85 ?_
            refine lw_ti (show ((nI d) + (nI (rnd Sz).1) : Int32) = nI (d + (rnd Sz).1) from nI_add _ _) ?_
            refine lv_istore_n (lv' := [(3, .int (nI (d + (rnd Sz).1))), (6, .int (nI 1)), (5, .int (nI (rnd Sz).1)), (0, .ref (a 0)), (1, .int (nI N)), (2, .int wz), (4, .int (nI j))]) hx hb dX2_weave_86 rfl hl (by decide) rfl (fun ls hl => ?_)
            refine lv_iload hx hb dX2_weave_87 (lv_at hl 1 rfl) ?_
            refine lv_if_ne (tgt := 94) hx hb dX2_weave_89 (by decide) (fun _ => ?_) (fun c0 => absurd c0 (by decide))
            refine lv_aload_n hx hb dX2_weave_94 rfl (lv_at hl 3 rfl) ?_
            refine lv_dup hx hb dX2_weave_95 rfl ?_
            refine fg_X2_40 C h dX2_weave_96 ?_
            refine lw_ti (show (sWv (((rnd Sz).2, Kz)).1 : Int32) = sWv ((rnd Sz).2) from rfl) ?_
            refine lv_iconst (v := nI 1) hx hb dX2_weave_99 (by decide) ?_
            refine lv_iadd hx hb dX2_weave_100 ?_
            refine fp_X2_40 C h hS dX2_weave_101 (fun H locs h hS => ?_)
            refine lv_iinc (v := nI (j + 1)) (lv' := [(4, .int (nI (j + 1))), (3, .int (nI (d + (rnd Sz).1))), (6, .int (nI 1)), (5, .int (nI (rnd Sz).1)), (0, .ref (a 0)), (1, .int (nI N)), (2, .int wz)]) hx hb dX2_weave_104 hl (k := 6) rfl (nI_1 j) (by decide) rfl (fun ls hl => ?_)
            refine lv_goto (tgt := 28) hx hb dX2_weave_107 (by decide) ?_
            exact ih N (j + 1) (d + (rnd Sz).1) (uWv (rnd Sz).2 (sWv (rnd Sz).2 + nI 1)) _ _ _ _ hN50 hN h0 (by omega) (by omega) (rnd_inv hIz).1 ((wvs_go hjn hz).symm.trans hw) h hS (lv_sub hl [4, 5, 6, 1, 0] rfl)
          · skip
            refine lv_icmp_ne (tgt := 64) hx hb dX2_weave_57 (by decide) (fun c57 => ?_) (fun c0 => absurd c0 (fun z => hz (nI_inj (by omega) (by omega) z)))
            refine lv_iconst (v := nI 0) hx hb dX2_weave_64 (by decide) ?_
            refine lv_istore (lv' := [(6, .int (nI 0)), (5, .int (nI (rnd Sz).1)), (0, .ref (a 0)), (1, .int (nI N)), (2, .int wz), (3, .int (nI d)), (4, .int (nI j))]) hx hb dX2_weave_65 hl (by decide) rfl (fun ls hl => ?_)
            refine lv_iload hx hb dX2_weave_67 (lv_at hl 0 rfl) ?_
            refine lv_if_ne (tgt := 82) hx hb dX2_weave_69 (by decide) (fun c0 => absurd c0 (by decide)) (fun _ => ?_)
            refine lv_iload_n hx hb dX2_weave_72 rfl (lv_at hl 4 rfl) ?_
            refine lv_if_eq (tgt := 82) hx hb dX2_weave_73 (by decide) (fun c73 => ?_) (fun c0 => absurd (c35) c0)
            refine lv_iload_n hx hb dX2_weave_82 rfl (lv_at hl 5 rfl) ?_
            refine lv_iload hx hb dX2_weave_83 (lv_at hl 1 rfl) ?_
            refine lv_iadd hx hb dX2_weave_85 ?_
            refine lw_ti (show ((nI d) + (nI (rnd Sz).1) : Int32) = nI (d + (rnd Sz).1) from nI_add _ _) ?_
            refine lv_istore_n (lv' := [(3, .int (nI (d + (rnd Sz).1))), (6, .int (nI 0)), (5, .int (nI (rnd Sz).1)), (0, .ref (a 0)), (1, .int (nI N)), (2, .int wz), (4, .int (nI j))]) hx hb dX2_weave_86 rfl hl (by decide) rfl (fun ls hl => ?_)
            refine lv_iload hx hb dX2_weave_87 (lv_at hl 1 rfl) ?_
            refine lv_if_ne (tgt := 94) hx hb dX2_weave_89 (by decide) (fun c0 => absurd c0 (by decide)) (fun _ => ?_)
            refine lv_iload_n hx hb dX2_weave_92 rfl (lv_at hl 0 rfl) ?_
            exact eI C hret hlk (((rnd Sz).2, Kz)) h hS (⟨by unfold spWeave; rw [hN]; simp only; rw [if_neg h0, ← hw, wvs_stop hjn hz, cif_f (fun z => z c35)], by unfold spWeave; rw [hN]; simp only; rw [if_neg h0, ← hw, wvs_stop hjn hz, cif_f (fun z => z c35)]⟩) dX2_weave_93
        · skip
          refine lv_aload_n hx hb dX2_weave_38 rfl (lv_at hl 0 rfl) ?_
          refine kV (rV (As := []) (rest := []) C h lk_X2_111 0 (by decide) rfl rfl rfl (c_keepAllRows l G a (Sz, Kz)) ⟨Nat.le_of_ble_eq_true rfl, Nat.le_of_ble_eq_true rfl⟩ hl.1 rfl rfl (Nat.le_of_ble_eq_true rfl) dX2_weave_39 ⟨Nat.zero_le _, Nat.zero_le _⟩) hS (fun u H locs hp h hS => ?_)
          obtain ⟨hS1, hK⟩ := hp
          obtain ⟨u1, Kz⟩ := u
          dsimp only at hS1 hK
          subst hS1
          refine lv_aload_n hx hb dX2_weave_42 rfl (lv_at hl 0 rfl) ?_
          refine kI (rV (As := []) (rest := []) C h lk_X2_114 0 (by decide) rfl rfl rfl (c_weaveRound l G a (Sz, Kz) hIz) ⟨Nat.le_of_ble_eq_true rfl, Nat.le_of_ble_eq_true rfl⟩ hl.1 rfl rfl (Nat.le_of_ble_eq_true rfl) dX2_weave_43 ⟨Nat.zero_le _, Nat.zero_le _⟩) hS (fun rv u H locs hp h hS => ?_)
          obtain ⟨rfl, rfl⟩ := hp
          refine lv_istore (lv' := [(5, .int (nI (rnd Sz).1)), (0, .ref (a 0)), (1, .int (nI N)), (2, .int wz), (3, .int (nI d)), (4, .int (nI j))]) hx hb dX2_weave_46 hl (by decide) rfl (fun ls hl => ?_)
          refine lv_iload hx hb dX2_weave_48 (lv_at hl 0 rfl) ?_
          refine lv_aload_n hx hb dX2_weave_50 rfl (lv_at hl 1 rfl) ?_
          refine fg_X2_26 C h dX2_weave_51 ?_
          refine fg_X2_108 C h dX2_weave_54 ?_
          refine lw_ti (show (nI (sNs (((rnd Sz).2, Kz)).1) : Int32) = nI ((sNs ((rnd Sz).2))) from rfl) ?_
          refine lw_ti (show (nI ((sNs ((rnd Sz).2))) : Int32) = nI (sNs Sz) from congrArg nI hns) ?_
          by_cases hz : (rnd Sz).1 = sNs Sz
          · skip
            refine lv_icmp_ne (tgt := 64) hx hb dX2_weave_57 (by decide) (fun c0 => absurd (congrArg nI hz) c0) (fun c57 => ?_)
            refine lv_iconst (v := nI 1) hx hb dX2_weave_60 (by decide) ?_
            refine lv_goto (tgt := 65) hx hb dX2_weave_61 (by decide) ?_
            refine lv_istore (lv' := [(6, .int (nI 1)), (5, .int (nI (rnd Sz).1)), (0, .ref (a 0)), (1, .int (nI N)), (2, .int wz), (3, .int (nI d)), (4, .int (nI j))]) hx hb dX2_weave_65 hl (by decide) rfl (fun ls hl => ?_)
            refine lv_iload hx hb dX2_weave_67 (lv_at hl 0 rfl) ?_
            refine lv_if_ne (tgt := 82) hx hb dX2_weave_69 (by decide) (fun _ => ?_) (fun c0 => absurd c0 (by decide))
            refine lv_iload_n hx hb dX2_weave_82 rfl (lv_at hl 5 rfl) ?_
            refine lv_iload hx hb dX2_weave_83 (lv_at hl 1 rfl) ?_
            refine lv_iadd hx hb dX2_weave_85 ?_
            refine lw_ti (show ((nI d) + (nI (rnd Sz).1) : Int32) = nI (d + (rnd Sz).1) from nI_add _ _) ?_
            refine lv_istore_n (lv' := [(3, .int (nI (d + (rnd Sz).1))), (6, .int (nI 1)), (5, .int (nI (rnd Sz).1)), (0, .ref (a 0)), (1, .int (nI N)), (2, .int wz), (4, .int (nI j))]) hx hb dX2_weave_86 rfl hl (by decide) rfl (fun ls hl => ?_)
            refine lv_iload hx hb dX2_weave_87 (lv_at hl 1 rfl) ?_
            refine lv_if_ne (tgt := 94) hx hb dX2_weave_89 (by decide) (fun _ => ?_) (fun c0 => absurd c0 (by decide))
            refine lv_aload_n hx hb dX2_weave_94 rfl (lv_at hl 3 rfl) ?_
            refine lv_dup hx hb dX2_weave_95 rfl ?_
            refine fg_X2_40 C h dX2_weave_96 ?_
            refine lw_ti (show (sWv (((rnd Sz).2, Kz)).1 : Int32) = sWv ((rnd Sz).2) from rfl) ?_
            refine lv_iconst (v := nI 1) hx hb dX2_weave_99 (by decide) ?_
            refine lv_iadd hx hb dX2_weave_100 ?_
            refine fp_X2_40 C h hS dX2_weave_101 (fun H locs h hS => ?_)
            refine lv_iinc (v := nI (j + 1)) (lv' := [(4, .int (nI (j + 1))), (3, .int (nI (d + (rnd Sz).1))), (6, .int (nI 1)), (5, .int (nI (rnd Sz).1)), (0, .ref (a 0)), (1, .int (nI N)), (2, .int wz)]) hx hb dX2_weave_104 hl (k := 6) rfl (nI_1 j) (by decide) rfl (fun ls hl => ?_)
            refine lv_goto (tgt := 28) hx hb dX2_weave_107 (by decide) ?_
            exact ih N (j + 1) (d + (rnd Sz).1) (uWv (rnd Sz).2 (sWv (rnd Sz).2 + nI 1)) _ _ _ _ hN50 hN h0 (by omega) (by omega) (rnd_inv hIz).1 ((wvs_go hjn hz).symm.trans hw) h hS (lv_sub hl [4, 5, 6, 1, 0] rfl)
          · skip
            refine lv_icmp_ne (tgt := 64) hx hb dX2_weave_57 (by decide) (fun c57 => ?_) (fun c0 => absurd c0 (fun z => hz (nI_inj (by omega) (by omega) z)))
            refine lv_iconst (v := nI 0) hx hb dX2_weave_64 (by decide) ?_
            refine lv_istore (lv' := [(6, .int (nI 0)), (5, .int (nI (rnd Sz).1)), (0, .ref (a 0)), (1, .int (nI N)), (2, .int wz), (3, .int (nI d)), (4, .int (nI j))]) hx hb dX2_weave_65 hl (by decide) rfl (fun ls hl => ?_)
            refine lv_iload hx hb dX2_weave_67 (lv_at hl 0 rfl) ?_
            refine lv_if_ne (tgt := 82) hx hb dX2_weave_69 (by decide) (fun c0 => absurd c0 (by decide)) (fun _ => ?_)
            refine lv_iload_n hx hb dX2_weave_72 rfl (lv_at hl 4 rfl) ?_
            refine lv_if_eq (tgt := 82) hx hb dX2_weave_73 (by decide) (fun c0 => absurd c0 (c35)) (fun c73 => ?_)
            refine lv_aload_n hx hb dX2_weave_76 rfl (lv_at hl 2 rfl) ?_
            refine kV (rV (As := []) (rest := []) C h lk_X2_118 0 (by decide) rfl rfl rfl (c_restoreAllRows l G a ((rnd Sz).2, Kz)) ⟨Nat.le_of_ble_eq_true rfl, Nat.le_of_ble_eq_true rfl⟩ hl.1 rfl rfl (Nat.le_of_ble_eq_true rfl) dX2_weave_77 ⟨Nat.zero_le _, Nat.zero_le _⟩) hS (fun u H locs hp h hS => ?_)
            obtain rfl := hp
            refine lv_iload_n hx hb dX2_weave_80 rfl (lv_at hl 5 rfl) ?_
            exact eI C hret hlk (uCe (rnd Sz).2 (sCe Sz), Kz) (HB_eq h ⟨fun _ _ => ⟨rfl, rfl⟩, fun t q ht hq => hK t q ht hq, fun _ _ _ _ => rfl, rfl, fun _ _ => rfl, fun _ _ => rfl, rfl, fun _ _ _ _ => rfl, rfl, fun _ _ => rfl, rfl⟩) hS (⟨by unfold spWeave; rw [hN]; simp only; rw [if_neg h0, ← hw, wvs_stop hjn hz, cif_t c35], by unfold spWeave; rw [hN]; simp only; rw [if_neg h0, ← hw, wvs_stop hjn hz, cif_t c35]⟩) dX2_weave_81
  refine lv_iload_n hx hb dX2_weave_0 rfl (lv_at hl 1 rfl) ?_
  refine lv_iconst (v := nI 1) hx hb dX2_weave_1 (by decide) ?_
  refine lv_icmp_lt (tgt := 21) hx hb dX2_weave_2 (by decide) (fun c2 => ?_) (fun c2 => ?_)
  · skip
    refine lv_iconst (v := -1) hx hb dX2_weave_21 (by decide) ?_
    exact eI C hret hlk (Bz) h hS (⟨by unfold spWeave; rw [rng_lo c2], by unfold spWeave; rw [rng_lo c2]⟩) dX2_weave_22
  · skip
    refine lv_iload_n hx hb dX2_weave_5 rfl (lv_at hl 1 rfl) ?_
    refine lv_bipush (v := nI 50) hx hb dX2_weave_6 (by decide) ?_
    refine lv_icmp_gt (tgt := 21) hx hb dX2_weave_8 (by decide) (fun c8 => ?_) (fun c8 => ?_)
    · skip
      refine lv_iconst (v := -1) hx hb dX2_weave_21 (by decide) ?_
      exact eI C hret hlk (Bz) h hS (⟨by unfold spWeave; rw [rng_hi c8], by unfold spWeave; rw [rng_hi c8]⟩) dX2_weave_22
    · skip
      obtain ⟨N, hN1, hN50, hxN, hN⟩ := rng_of (by decide) (by decide) c2 c8
      refine lv_aload_n hx hb dX2_weave_11 rfl (lv_at hl 0 rfl) ?_
      refine fg_X2_26 C h dX2_weave_12 ?_
      refine fg_X2_108 C h dX2_weave_15 ?_
      refine lv_if_ne (tgt := 23) hx hb dX2_weave_18 (by decide) (fun c18 => ?_) (fun c18 => ?_)
      · skip
        have h0 : ¬ sNs Bz.1 = 0 := fun z => c18 ((nI_z (by omega)).mpr z)
        rw [hxN] at hl
        refine lv_iconst (v := nI 0) hx hb dX2_weave_23 (by decide) ?_
        refine lv_istore_n (lv' := [(3, .int (nI 0)), (0, .ref (a 0)), (1, .int (nI N)), (2, .int wz)]) hx hb dX2_weave_24 rfl hl (by decide) rfl (fun ls hl => ?_)
        refine lv_iconst (v := nI 0) hx hb dX2_weave_25 (by decide) ?_
        refine lv_istore (lv' := [(4, .int (nI 0)), (3, .int (nI 0)), (0, .ref (a 0)), (1, .int (nI N)), (2, .int wz)]) hx hb dX2_weave_26 hl (by decide) rfl (fun ls hl => ?_)
        exact lp (N + 1) N 0 0 Bz.1 Bz.2 _ _ _ hN50 hN h0 (by omega) (by omega) hI rfl h hS (lv_sub hl [2, 3, 4, 1, 0] rfl)
      · skip
        refine lv_iconst (v := -1) hx hb dX2_weave_21 (by decide) ?_
        exact eI C hret hlk (Bz) h hS (⟨by unfold spWeave; rw [hN]; simp only; rw [if_pos ((nI_z (by omega)).mp c18)], by unfold spWeave; rw [hN]; simp only; rw [if_pos ((nI_z (by omega)).mp c18)]⟩) dX2_weave_22

theorem min_nI {x y : Nat} (hx : x < 2 ^ 31) (hy : y < 2 ^ 31) : (if nI y < nI x then nI y else nI x) = nI (min x y) := by
  by_cases h : y < x
  · rw [if_pos ((nI_ltI hy hx).mpr h), Nat.min_eq_right (by omega)]
  · rw [if_neg (fun z => h ((nI_ltI hy hx).mp z)), Nat.min_eq_left (by omega)]

set_option maxHeartbeats 4000000 in
set_option maxRecDepth 100000 in
theorem c_alike (l : Launch) (G : Gx) (a : Nat → Nat) (Bz : BS) (hI : Inv Bz.1) (xz yz : Int32) : CtI l G 35 a (EB G a) yX2_alike cX2_alike 7 (some .int) 3 62 [.ref (a 0), .int xz, .int yz] Bz (fun v u => Bz = u ∧ v = spAlike Bz.1 xz yz) := by
  refine ent_of (by decide) (Nat.le_of_ble_eq_true rfl) ?_
  intro p e s m below meth c ls C h hS hret hlk hl
  have C : Cx p s m _ c cX2_alike RX2 7 G := C
  have hx := C.1
  have hb := C.2.1
  have hl : lv_has ls 7 [(0, .ref (a 0)), (1, .int xz), (2, .int yz)] := hl
  have lp : ∀ (n : Nat) (q r pz : Nat) (H : Heap) (locs : List Loc) (ls : Array Slot), (q < 8) → (r < 8) → (sPl Bz.1 q ≤ 40) → (sPl Bz.1 r ≤ 40) → (row Bz.1 xz = some q) → (row Bz.1 yz = some r) → (cmpP (sKd Bz.1 q) (sKd Bz.1 r)) → (pz ≤ min (sPl Bz.1 q) (sPl Bz.1 r)) → (min (sPl Bz.1 q) (sPl Bz.1 r) < pz + n) → (pfx (sCe Bz.1 q) (sCe Bz.1 r) (min (sPl Bz.1 q) (sPl Bz.1 r) - pz) pz = pfx (sCe Bz.1 q) (sCe Bz.1 r) (min (sPl Bz.1 q) (sPl Bz.1 r)) 0) →  HW G.1 35 a (EB G a (Bz)) H → va_S (Aw 35 a) s.heap H locs → lv_has ls 7 [(3, .ref (a (q + 11))), (4, .ref (a (r + 11))), (5, .int (nI (min (sPl Bz.1 q) (sPl Bz.1 r)))), (6, .int (nI pz))] → W p l e (rmB 3 62) s m ([.ref (a 0), .int xz, .int yz].toArray) below meth c H locs 0 0 (MQ below (va_Qi (fun v u => Bz = u ∧ v = spAlike Bz.1 xz yz) (fun u t => HW G.1 35 a (EB G a u) t.heap) (Aw 35 a)) ([.ref (a 0), .int xz, .int yz].toArray) s 0 0 (Aw 35 a)) (F0 m 58 ls []) := by
    intro n
    induction n with
    | zero =>
      intro q r pz H locs ls hq hr lq lr hrk hrk2 hcm hp0 hn hw
      exact absurd hn (by omega)
    | succ n ih =>
      intro q r pz H locs ls hq hr lq lr hrk hrk2 hcm hp0 hn hw h hS hl
      refine lv_iload hx hb dX2_alike_58 (lv_at hl 3 rfl) ?_
      refine lv_iload hx hb dX2_alike_60 (lv_at hl 2 rfl) ?_
      refine lv_icmp_ge (tgt := 90) hx hb dX2_alike_62 (by decide) (fun c62 => ?_) (fun c62 => ?_)
      · skip
        refine lv_iload hx hb dX2_alike_90 (lv_at hl 3 rfl) ?_
        exact eI C hret hlk (Bz) h hS (⟨rfl, by unfold spAlike; rw [hrk, hrk2]; simp only; rw [cif_t hcm, ← hw, show min (sPl Bz.1 q) (sPl Bz.1 r) - pz = 0 by rw [nI_leI (by omega) (by omega)] at c62; omega, pfx]⟩) dX2_alike_92
      · skip
        have hpn : pz < min (sPl Bz.1 q) (sPl Bz.1 r) := by rw [nI_leI (by omega) (by omega)] at c62; omega
        refine lv_aload_n hx hb dX2_alike_65 rfl (lv_at hl 0 rfl) ?_
        refine fg_X2_74 C h (by first | assumption | omega) dX2_alike_66 ?_
        refine lv_iload hx hb dX2_alike_69 (lv_at hl 3 rfl) ?_
        refine al_ce C h (by first | assumption | omega) (by first | assumption | omega) dX2_alike_71 ?_
        refine lv_aload hx hb dX2_alike_72 (lv_at hl 1 rfl) ?_
        refine fg_X2_74 C h (by first | assumption | omega) dX2_alike_74 ?_
        refine lv_iload hx hb dX2_alike_77 (lv_at hl 3 rfl) ?_
        refine al_ce C h (by first | assumption | omega) (by first | assumption | omega) dX2_alike_79 ?_
        refine W.lcmp hx hb dX2_alike_80 ?_
        refine lv_if_ne (tgt := 90) hx hb dX2_alike_81 (by decide) (fun c81 => ?_) (fun c81 => ?_)
        · have c81 : ¬ (sCe Bz.1 q pz) = (sCe Bz.1 r pz) := fun q => c81 ((lg_cmp_eq _ _).mpr q)
          refine lv_iload hx hb dX2_alike_90 (lv_at hl 3 rfl) ?_
          exact eI C hret hlk (Bz) h hS (⟨rfl, by unfold spAlike; rw [hrk, hrk2]; simp only; rw [cif_t hcm, ← hw, pfx_stop hpn c81]⟩) dX2_alike_92
        · have c81 : (sCe Bz.1 q pz) = (sCe Bz.1 r pz) := (lg_cmp_eq _ _).mp c81
          refine lv_iinc (v := nI (pz + 1)) (lv' := [(6, .int (nI (pz + 1))), (3, .ref (a (q + 11))), (4, .ref (a (r + 11))), (5, .int (nI (min (sPl Bz.1 q) (sPl Bz.1 r))))]) hx hb dX2_alike_84 hl (k := 3) rfl (nI_1 pz) (by decide) rfl (fun ls hl => ?_)
          refine lv_goto (tgt := 58) hx hb dX2_alike_87 (by decide) ?_
          exact ih q r (pz + 1) _ _ _ hq hr lq lr hrk hrk2 hcm (by omega) (by omega) ((pfx_step hpn c81).symm.trans hw) h hS (lv_sub hl [1, 2, 3, 0] rfl)
  refine lv_aload_n hx hb dX2_alike_0 rfl (lv_at hl 0 rfl) ?_
  refine lv_iload_n hx hb dX2_alike_1 rfl (lv_at hl 1 rfl) ?_
  refine kQ (rV (As := [.int xz]) (rest := []) C h lk_X2_63 0 (by decide) rfl rfl rfl (c_rowAt l G a Bz hI xz) ⟨Nat.le_of_ble_eq_true rfl, Nat.le_of_ble_eq_true rfl⟩ hl.1 rfl rfl (Nat.le_of_ble_eq_true rfl) dX2_alike_2 ⟨Nat.zero_le _, Nat.zero_le _⟩) hS (fun rv u H locs hp h hS => ?_)
  obtain ⟨rfl, ⟨hrk, rfl⟩ | ⟨q, hq, hxq, hrk, hk0, hk9, rfl⟩⟩ := hp
  · skip
    refine lv_astore_nN (lv' := [(3, .null), (0, .ref (a 0)), (1, .int xz), (2, .int yz)]) hx hb dX2_alike_5 rfl hl (by decide) rfl (fun ls hl => ?_)
    refine lv_aload_n hx hb dX2_alike_6 rfl (lv_at hl 1 rfl) ?_
    refine lv_iload_n hx hb dX2_alike_7 rfl (lv_at hl 3 rfl) ?_
    refine kQ (rV (As := [.int yz]) (rest := []) C h lk_X2_63 0 (by decide) rfl rfl rfl (c_rowAt l G a Bz hI yz) ⟨Nat.le_of_ble_eq_true rfl, Nat.le_of_ble_eq_true rfl⟩ hl.1 rfl rfl (Nat.le_of_ble_eq_true rfl) dX2_alike_8 ⟨Nat.zero_le _, Nat.zero_le _⟩) hS (fun rv u H locs hp h hS => ?_)
    obtain ⟨rfl, ⟨hrk2, rfl⟩ | ⟨r, hr, hxr, hrk2, hr0, hr9, rfl⟩⟩ := hp
    · skip
      refine lv_astoreN (lv' := [(4, .null), (3, .null), (0, .ref (a 0)), (1, .int xz), (2, .int yz)]) hx hb dX2_alike_11 hl (by decide) rfl (fun ls hl => ?_)
      refine lv_aload_nN hx hb dX2_alike_13 rfl (lv_at hl 1 rfl) ?_
      refine lv_ifnullN (tgt := 22) hx hb dX2_alike_14 (by decide) ?_
      refine lv_iconst (v := -1) hx hb dX2_alike_22 (by decide) ?_
      exact eI C hret hlk (Bz) h hS (⟨rfl, by unfold spAlike; rw [hrk]⟩) dX2_alike_23
    · skip
      refine lv_astore (lv' := [(4, .ref (a (r + 11))), (3, .null), (0, .ref (a 0)), (1, .int xz), (2, .int yz)]) hx hb dX2_alike_11 hl (by decide) rfl (fun ls hl => ?_)
      refine lv_aload_nN hx hb dX2_alike_13 rfl (lv_at hl 1 rfl) ?_
      refine lv_ifnullN (tgt := 22) hx hb dX2_alike_14 (by decide) ?_
      refine lv_iconst (v := -1) hx hb dX2_alike_22 (by decide) ?_
      exact eI C hret hlk (Bz) h hS (⟨rfl, by unfold spAlike; rw [hrk]⟩) dX2_alike_23
  · skip
    refine lv_astore_n (lv' := [(3, .ref (a (q + 11))), (0, .ref (a 0)), (1, .int xz), (2, .int yz)]) hx hb dX2_alike_5 rfl hl (by decide) rfl (fun ls hl => ?_)
    refine lv_aload_n hx hb dX2_alike_6 rfl (lv_at hl 1 rfl) ?_
    refine lv_iload_n hx hb dX2_alike_7 rfl (lv_at hl 3 rfl) ?_
    refine kQ (rV (As := [.int yz]) (rest := []) C h lk_X2_63 0 (by decide) rfl rfl rfl (c_rowAt l G a Bz hI yz) ⟨Nat.le_of_ble_eq_true rfl, Nat.le_of_ble_eq_true rfl⟩ hl.1 rfl rfl (Nat.le_of_ble_eq_true rfl) dX2_alike_8 ⟨Nat.zero_le _, Nat.zero_le _⟩) hS (fun rv u H locs hp h hS => ?_)
    obtain ⟨rfl, ⟨hrk2, rfl⟩ | ⟨r, hr, hxr, hrk2, hr0, hr9, rfl⟩⟩ := hp
    · skip
      refine lv_astoreN (lv' := [(4, .null), (3, .ref (a (q + 11))), (0, .ref (a 0)), (1, .int xz), (2, .int yz)]) hx hb dX2_alike_11 hl (by decide) rfl (fun ls hl => ?_)
      refine lv_aload_n hx hb dX2_alike_13 rfl (lv_at hl 1 rfl) ?_
      refine lv_ifnull hx hb dX2_alike_14 ?_
      refine lv_aloadN hx hb dX2_alike_17 (lv_at hl 0 rfl) ?_
      refine lv_ifnonnullN hx hb dX2_alike_19 ?_
      refine lv_iconst (v := -1) hx hb dX2_alike_22 (by decide) ?_
      exact eI C hret hlk (Bz) h hS (⟨rfl, by unfold spAlike; rw [hrk, hrk2]⟩) dX2_alike_23
    · have lq := (hI.1 q hq).2
      have lr := (hI.1 r hr).2
      refine lv_astore (lv' := [(4, .ref (a (r + 11))), (3, .ref (a (q + 11))), (0, .ref (a 0)), (1, .int xz), (2, .int yz)]) hx hb dX2_alike_11 hl (by decide) rfl (fun ls hl => ?_)
      refine lv_aload_n hx hb dX2_alike_13 rfl (lv_at hl 1 rfl) ?_
      refine lv_ifnull hx hb dX2_alike_14 ?_
      refine lv_aload hx hb dX2_alike_17 (lv_at hl 0 rfl) ?_
      refine lv_ifnonnull (tgt := 24) hx hb dX2_alike_19 (by decide) ?_
      refine lv_aload_n hx hb dX2_alike_24 rfl (lv_at hl 1 rfl) ?_
      refine fg_X2_52 C h (by first | assumption | omega) dX2_alike_25 ?_
      refine lv_aload hx hb dX2_alike_28 (lv_at hl 0 rfl) ?_
      refine fg_X2_52 C h (by first | assumption | omega) dX2_alike_30 ?_
      refine kI (rS (As := [.int (nI (sKd Bz.1 q)), .int (nI (sKd Bz.1 r))]) (rest := []) C h lk_X2_121 (c_mayCompare l G a Bz _ _ (hI.1 q hq).1 (hI.1 r hr).1) ⟨Nat.le_of_ble_eq_true rfl, Nat.le_of_ble_eq_true rfl⟩ hl.1 rfl rfl (Nat.le_of_ble_eq_true rfl) dX2_alike_33 ⟨Nat.zero_le _, Nat.zero_le _⟩) hS (fun rv u H locs hp h hS => ?_)
      obtain ⟨rfl, rfl⟩ := hp
      by_cases hcm : cmpP (sKd Bz.1 q) (sKd Bz.1 r)
      · refine lw_ti (b2i_t hcm) ?_
        refine lv_if_ne (tgt := 41) hx hb dX2_alike_36 (by decide) (fun _ => ?_) (fun c0 => absurd c0 (by decide))
        refine lv_aload_n hx hb dX2_alike_41 rfl (lv_at hl 1 rfl) ?_
        refine fg_X2_94 C h (by first | assumption | omega) dX2_alike_42 ?_
        refine lv_aload hx hb dX2_alike_45 (lv_at hl 0 rfl) ?_
        refine fg_X2_94 C h (by first | assumption | omega) dX2_alike_47 ?_
        refine va_mmin hx hb (C.2.2.1.trans hl.1.symm) C.2.2.2.1 (C.2.2.2.2.1 _ (by decide +kernel)) (C.2.2.2.2.1 _ (by decide +kernel)) (C.2.2.2.2.1 _ (by decide +kernel)) (C.2.2.2.2.1 _ (by decide +kernel)) (Nat.le_of_ble_eq_true rfl) (Nat.le_of_ble_eq_true rfl) (Nat.zero_le _) (Nat.zero_le _) dX2_alike_50 ?_
        refine lw_ti (show _ = nI (min (sPl Bz.1 q) (sPl Bz.1 r)) from min_nI (by omega) (by omega)) ?_
        refine lv_istore (lv' := [(5, .int (nI (min (sPl Bz.1 q) (sPl Bz.1 r)))), (4, .ref (a (r + 11))), (3, .ref (a (q + 11))), (0, .ref (a 0)), (1, .int xz), (2, .int yz)]) hx hb dX2_alike_53 hl (by decide) rfl (fun ls hl => ?_)
        refine lv_iconst (v := nI 0) hx hb dX2_alike_55 (by decide) ?_
        refine lv_istore (lv' := [(6, .int (nI 0)), (5, .int (nI (min (sPl Bz.1 q) (sPl Bz.1 r)))), (4, .ref (a (r + 11))), (3, .ref (a (q + 11))), (0, .ref (a 0)), (1, .int xz), (2, .int yz)]) hx hb dX2_alike_56 hl (by decide) rfl (fun ls hl => ?_)
        exact lp (min (sPl Bz.1 q) (sPl Bz.1 r) + 1) q r 0 _ _ _ hq hr lq lr hrk hrk2 hcm (Nat.zero_le _) (by omega) rfl h hS (lv_sub hl [3, 2, 1, 0] rfl)
      · refine lw_ti (b2i_f hcm) ?_
        refine lv_if_ne (tgt := 41) hx hb dX2_alike_36 (by decide) (fun c0 => absurd c0 (by decide)) (fun _ => ?_)
        refine lv_iconst (v := nI 0) hx hb dX2_alike_39 (by decide) ?_
        exact eI C hret hlk (Bz) h hS (⟨rfl, by unfold spAlike; rw [hrk, hrk2]; exact (cif_f hcm).symm⟩) dX2_alike_40

set_option maxHeartbeats 4000000 in
set_option maxRecDepth 100000 in
theorem c_shade (l : Launch) (G : Gx) (a : Nat → Nat) (Bz : BS) (hI : Inv Bz.1) (xz : Int32) : CtL l G 35 a (EB G a) yX2_shade cX2_shade 7 (some .long) 2 44 [.ref (a 0), .int xz] Bz (fun v u => Bz = u ∧ v = spShade Bz.1 xz) := by
  refine ent_of (by decide) (Nat.le_of_ble_eq_true rfl) ?_
  intro p e s m below meth c ls C h hS hret hlk hl
  have C : Cx p s m _ c cX2_shade RX2 7 G := C
  have hx := C.1
  have hb := C.2.1
  have hl : lv_has ls 7 [(0, .ref (a 0)), (1, .int xz)] := hl
  have lp : ∀ (n : Nat) (r bz pz : Nat) (zz : Int64) (H : Heap) (locs : List Loc) (ls : Array Slot), (r < 8) → (sPl Bz.1 r ≤ 40) → (row Bz.1 xz = some r) → ((bz = 1 ∧ (sKd Bz.1 r = 7 ∨ sKd Bz.1 r = 8)) ∨ (bz = 0 ∧ ¬ (sKd Bz.1 r = 7 ∨ sKd Bz.1 r = 8))) → (pz ≤ sPl Bz.1 r) → (sPl Bz.1 r < pz + n) → (shs Bz.1 r (sPl Bz.1 r - pz) pz zz = shs Bz.1 r (sPl Bz.1 r) 0 (lN 0)) →  HW G.1 35 a (EB G a (Bz)) H → va_S (Aw 35 a) s.heap H locs → lv_has ls 7 [(0, .ref (a 0)), (2, .ref (a (r + 11))), (3, .int (nI bz)), (4, .long zz), (6, .int (nI pz))] → W p l e (rmB 2 44) s m ([.ref (a 0), .int xz].toArray) below meth c H locs 0 0 (MQ below (va_Ql (fun v u => Bz = u ∧ v = spShade Bz.1 xz) (fun u t => HW G.1 35 a (EB G a u) t.heap) (Aw 35 a)) ([.ref (a 0), .int xz].toArray) s 0 0 (Aw 35 a)) (F0 m 26 ls []) := by
    intro n
    induction n with
    | zero =>
      intro r bz pz zz H locs ls hr lr hrk hbz hp0 hn hw
      exact absurd hn (by omega)
    | succ n ih =>
      intro r bz pz zz H locs ls hr lr hrk hbz hp0 hn hw h hS hl
      refine lv_iload hx hb dX2_shade_26 (lv_at hl 4 rfl) ?_
      refine lv_aload_n hx hb dX2_shade_28 rfl (lv_at hl 1 rfl) ?_
      refine fg_X2_94 C h (by first | assumption | omega) dX2_shade_29 ?_
      refine lv_icmp_ge (tgt := 72) hx hb dX2_shade_32 (by decide) (fun c32 => ?_) (fun c32 => ?_)
      · skip
        refine lv_lload hx hb dX2_shade_72 (lv_at hl 3 rfl) ?_
        exact eL C hret hlk (Bz) h hS (⟨rfl, by unfold spShade; rw [hrk]; simp only; rw [← hw, show sPl Bz.1 r - pz = 0 by rw [nI_leI (by omega) (by omega)] at c32; omega, shs]⟩) dX2_shade_74
      · skip
        have hpn : pz < sPl Bz.1 r := by rw [nI_leI (by omega) (by omega)] at c32; omega
        rcases hbz with ⟨rfl, hbd⟩ | ⟨rfl, hbd⟩
        · skip
          refine lv_lload hx hb dX2_shade_35 (lv_at hl 3 rfl) ?_
          refine lv_iload_n hx hb dX2_shade_37 rfl (lv_at hl 2 rfl) ?_
          refine lv_if_eq (tgt := 56) hx hb dX2_shade_38 (by decide) (fun c0 => absurd c0 (by decide)) (fun _ => ?_)
          refine lv_aload_n hx hb dX2_shade_41 rfl (lv_at hl 0 rfl) ?_
          refine lv_aload_n hx hb dX2_shade_42 rfl (lv_at hl 1 rfl) ?_
          refine fg_X2_74 C h (by first | assumption | omega) dX2_shade_43 ?_
          refine lv_iload hx hb dX2_shade_46 (lv_at hl 4 rfl) ?_
          refine al_ce C h (by first | assumption | omega) (by first | assumption | omega) dX2_shade_48 ?_
          refine kI (rV (As := [.long (sCe Bz.1 r pz)]) (rest := [.long zz]) C h lk_X2_59 0 (by decide) rfl rfl rfl (c_colourOf l G a Bz hI _) ⟨Nat.le_of_ble_eq_true rfl, Nat.le_of_ble_eq_true rfl⟩ hl.1 rfl rfl (Nat.le_of_ble_eq_true rfl) dX2_shade_49 ⟨Nat.zero_le _, Nat.zero_le _⟩) hS (fun rv u H locs hp h hS => ?_)
          obtain ⟨rfl, rfl⟩ := hp
          refine lv_i2l hx hb dX2_shade_52 rfl ?_
          refine lv_goto (tgt := 63) hx hb dX2_shade_53 (by decide) ?_
          refine lv_ladd hx hb dX2_shade_63 ?_
          refine lw_tl (show (zz + ((colO Bz.1 (sCe Bz.1 r pz)).toInt64) : Int64) = zz + shg Bz.1 r pz from by unfold shg; rw [if_pos hbd]) ?_
          refine lv_lstore (lv' := [(4, .long (zz + shg Bz.1 r pz)), (0, .ref (a 0)), (2, .ref (a (r + 11))), (3, .int (nI 1)), (6, .int (nI pz))]) hx hb dX2_shade_64 hl (by decide) rfl (fun ls hl => ?_)
          refine lv_iinc (v := nI (pz + 1)) (lv' := [(6, .int (nI (pz + 1))), (4, .long (zz + shg Bz.1 r pz)), (0, .ref (a 0)), (2, .ref (a (r + 11))), (3, .int (nI 1))]) hx hb dX2_shade_66 hl (k := 4) rfl (nI_1 pz) (by decide) rfl (fun ls hl => ?_)
          refine lv_goto (tgt := 26) hx hb dX2_shade_69 (by decide) ?_
          exact ih r 1 (pz + 1) (zz + shg Bz.1 r pz) _ _ _ hr lr hrk (Or.inl ⟨rfl, hbd⟩) (by omega) (by omega) ((shs_step hpn).symm.trans hw) h hS (lv_sub hl [2, 3, 4, 1, 0] rfl)
        · skip
          refine lv_lload hx hb dX2_shade_35 (lv_at hl 3 rfl) ?_
          refine lv_iload_n hx hb dX2_shade_37 rfl (lv_at hl 2 rfl) ?_
          refine lv_if_eq (tgt := 56) hx hb dX2_shade_38 (by decide) (fun _ => ?_) (fun c0 => absurd c0 (by decide))
          refine lv_aload_n hx hb dX2_shade_56 rfl (lv_at hl 1 rfl) ?_
          refine fg_X2_74 C h (by first | assumption | omega) dX2_shade_57 ?_
          refine lv_iload hx hb dX2_shade_60 (lv_at hl 4 rfl) ?_
          refine al_ce C h (by first | assumption | omega) (by first | assumption | omega) dX2_shade_62 ?_
          refine lv_ladd hx hb dX2_shade_63 ?_
          refine lw_tl (show (zz + (sCe Bz.1 r pz) : Int64) = zz + shg Bz.1 r pz from by unfold shg; rw [if_neg hbd]) ?_
          refine lv_lstore (lv' := [(4, .long (zz + shg Bz.1 r pz)), (0, .ref (a 0)), (2, .ref (a (r + 11))), (3, .int (nI 0)), (6, .int (nI pz))]) hx hb dX2_shade_64 hl (by decide) rfl (fun ls hl => ?_)
          refine lv_iinc (v := nI (pz + 1)) (lv' := [(6, .int (nI (pz + 1))), (4, .long (zz + shg Bz.1 r pz)), (0, .ref (a 0)), (2, .ref (a (r + 11))), (3, .int (nI 0))]) hx hb dX2_shade_66 hl (k := 4) rfl (nI_1 pz) (by decide) rfl (fun ls hl => ?_)
          refine lv_goto (tgt := 26) hx hb dX2_shade_69 (by decide) ?_
          exact ih r 0 (pz + 1) (zz + shg Bz.1 r pz) _ _ _ hr lr hrk (Or.inr ⟨rfl, hbd⟩) (by omega) (by omega) ((shs_step hpn).symm.trans hw) h hS (lv_sub hl [2, 3, 4, 1, 0] rfl)
  refine lv_aload_n hx hb dX2_shade_0 rfl (lv_at hl 0 rfl) ?_
  refine lv_iload_n hx hb dX2_shade_1 rfl (lv_at hl 1 rfl) ?_
  refine kQ (rV (As := [.int xz]) (rest := []) C h lk_X2_63 0 (by decide) rfl rfl rfl (c_rowAt l G a Bz hI xz) ⟨Nat.le_of_ble_eq_true rfl, Nat.le_of_ble_eq_true rfl⟩ hl.1 rfl rfl (Nat.le_of_ble_eq_true rfl) dX2_shade_2 ⟨Nat.zero_le _, Nat.zero_le _⟩) hS (fun rv u H locs hp h hS => ?_)
  obtain ⟨rfl, ⟨hrk, rfl⟩ | ⟨r, hr, hxr, hrk, hk0, hk9, rfl⟩⟩ := hp
  · skip
    refine lv_astore_nN (lv' := [(2, .null), (0, .ref (a 0)), (1, .int xz)]) hx hb dX2_shade_5 rfl hl (by decide) rfl (fun ls hl => ?_)
    refine lv_aload_nN hx hb dX2_shade_6 rfl (lv_at hl 0 rfl) ?_
    refine lv_ifnonnullN hx hb dX2_shade_7 ?_
    refine lv_lconst (v := lN 0) hx hb dX2_shade_10 rfl ?_
    exact eL C hret hlk (Bz) h hS (⟨rfl, by unfold spShade; rw [hrk]⟩) dX2_shade_11
  · have lr := (hI.1 r hr).2
    refine lv_astore_n (lv' := [(2, .ref (a (r + 11))), (0, .ref (a 0)), (1, .int xz)]) hx hb dX2_shade_5 rfl hl (by decide) rfl (fun ls hl => ?_)
    refine lv_aload_n hx hb dX2_shade_6 rfl (lv_at hl 0 rfl) ?_
    refine lv_ifnonnull (tgt := 12) hx hb dX2_shade_7 (by decide) ?_
    refine lv_aload_n hx hb dX2_shade_12 rfl (lv_at hl 0 rfl) ?_
    refine fg_X2_52 C h (by first | assumption | omega) dX2_shade_13 ?_
    refine kI (rS (As := [.int (nI (sKd Bz.1 r))]) (rest := []) C h lk_X2_131 (c_holdsBeads l G a Bz _ (hI.1 r hr).1) ⟨Nat.le_of_ble_eq_true rfl, Nat.le_of_ble_eq_true rfl⟩ hl.1 rfl rfl (Nat.le_of_ble_eq_true rfl) dX2_shade_16 ⟨Nat.zero_le _, Nat.zero_le _⟩) hS (fun rv u H locs hp h hS => ?_)
    obtain ⟨rfl, rfl⟩ := hp
    by_cases hbd : sKd Bz.1 r = 7 ∨ sKd Bz.1 r = 8
    · refine lw_ti (b2i_t hbd) ?_
      refine lv_istore_n (lv' := [(3, .int (nI 1)), (2, .ref (a (r + 11))), (0, .ref (a 0)), (1, .int xz)]) hx hb dX2_shade_19 rfl hl (by decide) rfl (fun ls hl => ?_)
      refine lv_lconst (v := lN 0) hx hb dX2_shade_20 rfl ?_
      refine lv_lstore (lv' := [(4, .long (lN 0)), (3, .int (nI 1)), (2, .ref (a (r + 11))), (0, .ref (a 0)), (1, .int xz)]) hx hb dX2_shade_21 hl (by decide) rfl (fun ls hl => ?_)
      refine lv_iconst (v := nI 0) hx hb dX2_shade_23 (by decide) ?_
      refine lv_istore (lv' := [(6, .int (nI 0)), (4, .long (lN 0)), (3, .int (nI 1)), (2, .ref (a (r + 11))), (0, .ref (a 0)), (1, .int xz)]) hx hb dX2_shade_24 hl (by decide) rfl (fun ls hl => ?_)
      exact lp (sPl Bz.1 r + 1) r 1 0 (lN 0) _ _ _ hr (hI.1 r hr).2 hrk (Or.inl ⟨rfl, hbd⟩) (Nat.zero_le _) (by omega) rfl h hS (lv_sub hl [4, 3, 2, 1, 0] rfl)
    · refine lw_ti (b2i_f hbd) ?_
      refine lv_istore_n (lv' := [(3, .int (nI 0)), (2, .ref (a (r + 11))), (0, .ref (a 0)), (1, .int xz)]) hx hb dX2_shade_19 rfl hl (by decide) rfl (fun ls hl => ?_)
      refine lv_lconst (v := lN 0) hx hb dX2_shade_20 rfl ?_
      refine lv_lstore (lv' := [(4, .long (lN 0)), (3, .int (nI 0)), (2, .ref (a (r + 11))), (0, .ref (a 0)), (1, .int xz)]) hx hb dX2_shade_21 hl (by decide) rfl (fun ls hl => ?_)
      refine lv_iconst (v := nI 0) hx hb dX2_shade_23 (by decide) ?_
      refine lv_istore (lv' := [(6, .int (nI 0)), (4, .long (lN 0)), (3, .int (nI 0)), (2, .ref (a (r + 11))), (0, .ref (a 0)), (1, .int xz)]) hx hb dX2_shade_24 hl (by decide) rfl (fun ls hl => ?_)
      exact lp (sPl Bz.1 r + 1) r 0 0 (lN 0) _ _ _ hr (hI.1 r hr).2 hrk (Or.inr ⟨rfl, hbd⟩) (Nat.zero_le _) (by omega) rfl h hS (lv_sub hl [4, 3, 2, 1, 0] rfl)
