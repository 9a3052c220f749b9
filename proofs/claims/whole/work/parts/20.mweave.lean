theorem RM_back {S : St} {F Bf A A' F1 F2 : Nat → Int64} {Ct Ct' Pt Pt' : Nat → Int32} (hR : RM (S, F, Bf, A, Ct, Pt)) (hX : RM ((rnd S).2, F1, Bf, A', Ct', Pt')) (hF : ∀ t, t < 320 → F2 t = F t) (hI : Inv S) : RM (uCe (rnd S).2 (sCe S), F2, Bf, A', Ct', Pt') := by
  have k := wrd_kd (sNs S) 0 S
  refine ⟨fun r p hr hp => ?_, hX.2.1, hX.2.2.1, hX.2.2.2⟩
  have hp : p < sPl (rnd S).2 r := hp
  have e : sPl (rnd S).2 = sPl S := k.2.1
  rw [e] at hp
  have hl := (hI.1 r hr).2
  show F2 (40 * r + p) = sCe S r p
  rw [hF _ (by omega)]
  exact hR.1 r p hr hp

set_option maxHeartbeats 4000000 in
set_option maxRecDepth 100000 in
theorem c3_weave (l : Launch) (G : Gx) (a : Nat → Nat) (Mz : MS) (hI : Inv Mz.1) (hR : RM Mz) (xz wz : Int32) : CtI l G 10 a (EM G a) yX3_weave cX3_weave 8 (some .int) 4 103 [.ref (a 0), .int xz, .int wz] Mz (fun v u => v = (spWeave Mz.1 xz wz).1 ∧ (spWeave Mz.1 xz wz).2 = u.1 ∧ RM u) := by
  refine ent_of (by decide) (Nat.le_of_ble_eq_true rfl) ?_
  intro p e s m below meth c ls C h hS hret hlk hl
  have C : Cx p s m _ c cX3_weave RX3 8 G := C
  have hx := C.1
  have hb := C.2.1
  have hl : lv_has ls 8 [(0, .ref (a 0)), (1, .int xz), (2, .int wz)] := hl
  have h24 := hI.2.2.1
  have la : ∀ (n : Nat) (N d j k : Nat) (Sz : St) (F Bf A : Nat → Int64) (Ct Pt : Nat → Int32) (H : Heap) (locs : List Loc) (ls : Array Slot), (∀ (Bx : Nat → Int64) (H : Heap) (locs : List Loc) (ls : Array Slot), (∀ t, t < 320 → Bx t = F t) → HW G.1 10 a (EM G a ((Sz, F, Bx, A, Ct, Pt))) H → va_S (Aw 10 a) s.heap H locs → lv_has ls 8 [(0, .ref (a 0)), (1, .int (nI N)), (2, .int wz), (3, .int (nI d)), (4, .int (nI j))] → W p l e (rmB 4 103) s m ([.ref (a 0), .int xz, .int wz].toArray) below meth c H locs 0 0 (MQ below (va_Qi (fun v u => v = (spWeave Mz.1 xz wz).1 ∧ (spWeave Mz.1 xz wz).2 = u.1 ∧ RM u) (fun u t => HW G.1 10 a (EM G a u) t.heap) (Aw 10 a)) ([.ref (a 0), .int xz, .int wz].toArray) s 0 0 (Aw 10 a)) (F0 m 62 ls [])) → (k ≤ 320) → (320 < k + n) → (∀ t, t < k → Bf t = F t) →  HW G.1 10 a (EM G a ((Sz, F, Bf, A, Ct, Pt))) H → va_S (Aw 10 a) s.heap H locs → lv_has ls 8 [(0, .ref (a 0)), (1, .int (nI N)), (2, .int wz), (3, .int (nI d)), (4, .int (nI j)), (5, .int (nI k))] → W p l e (rmB 4 103) s m ([.ref (a 0), .int xz, .int wz].toArray) below meth c H locs 0 0 (MQ below (va_Qi (fun v u => v = (spWeave Mz.1 xz wz).1 ∧ (spWeave Mz.1 xz wz).2 = u.1 ∧ RM u) (fun u t => HW G.1 10 a (EM G a u) t.heap) (Aw 10 a)) ([.ref (a 0), .int xz, .int wz].toArray) s 0 0 (Aw 10 a)) (F0 m 34 ls []) := by
    intro n
    induction n with
    | zero =>
      intro N d j k Sz F Bf A Ct Pt H locs ls xk hk hn hB
      exact absurd hn (by omega)
    | succ n ih =>
      intro N d j k Sz F Bf A Ct Pt H locs ls xk hk hn hB h hS hl
      refine lv_iload hx hb dX3_weave_34 (lv_at hl 5 rfl) ?_
      refine lv_sipush (v := nI 320) hx hb dX3_weave_36 (by decide) ?_
      refine lv_icmp_ge (tgt := 62) hx hb dX3_weave_39 (by decide) (fun c39 => ?_) (fun c39 => ?_)
      · skip
        exact xk Bf _ _ _ (fun t ht => hB t (by rw [nI_leI (by omega) (by omega)] at c39; omega)) h hS (lv_sub hl [0, 1, 2, 3, 4] rfl)
      · skip
        have hk320 : k < 320 := by rw [nI_leI (by omega) (by omega)] at c39; omega
        refine lv_aload_n hx hb dX3_weave_42 rfl (lv_at hl 0 rfl) ?_
        refine fg_X3_20 C h dX3_weave_43 ?_
        refine lv_iload hx hb dX3_weave_46 (lv_at hl 5 rfl) ?_
        refine lv_aload_n hx hb dX3_weave_48 rfl (lv_at hl 0 rfl) ?_
        refine fg_X3_16 C h dX3_weave_49 ?_
        refine lv_iload hx hb dX3_weave_52 (lv_at hl 5 rfl) ?_
        refine ml_ce C h (by first | assumption | omega) dX3_weave_54 ?_
        refine lw_tl (show (mF ((Sz, F, Bf, A, Ct, Pt)) k : Int64) = F k from rfl) ?_
        refine ms_be C h hS (by first | assumption | omega) dX3_weave_55 (fun H locs h hS => ?_)
        refine lv_iinc (v := nI (k + 1)) (lv' := [(5, .int (nI (k + 1))), (0, .ref (a 0)), (1, .int (nI N)), (2, .int wz), (3, .int (nI d)), (4, .int (nI j))]) hx hb dX3_weave_56 hl (k := 5) rfl (nI_1 k) (by decide) rfl (fun ls hl => ?_)
        refine lv_goto (tgt := 34) hx hb dX3_weave_59 (by decide) ?_
        exact ih N d j (k + 1) Sz F (vp_updL Bf k (F k)) A Ct Pt _ _ _ xk (by omega) (by omega) (fun t ht => by by_cases e : t = k; (subst e; simp [vp_updL]); (simp only [vp_updL, if_neg e]; exact hB t (by omega))) h hS (lv_sub hl [1, 2, 3, 4, 5, 0] rfl)
  have lb : ∀ (n : Nat) (N d j i : Nat) (Sz Tz : St) (F Bf A : Nat → Int64) (Ct Pt : Nat → Int32) (H : Heap) (locs : List Loc) (ls : Array Slot), (∀ (rf : Nat) (Fx Ax : Nat → Int64) (Cx2 Px : Nat → Int32) (H : Heap) (locs : List Loc) (ls : Array Slot), ((rf = 0 ∧ (rnd Sz).1 = sNs Sz) ∨ (rf = 1 ∧ ¬ (rnd Sz).1 = sNs Sz)) → (RM ((rnd Sz).2, Fx, Bf, Ax, Cx2, Px)) → HW G.1 10 a (EM G a (((rnd Sz).2, Fx, Bf, Ax, Cx2, Px))) H → va_S (Aw 10 a) s.heap H locs → lv_has ls 8 [(0, .ref (a 0)), (1, .int (nI N)), (2, .int wz), (3, .int (nI d)), (4, .int (nI j)), (5, .int (nI (rnd Sz).1)), (6, .int (nI rf))] → W p l e (rmB 4 103) s m ([.ref (a 0), .int xz, .int wz].toArray) below meth c H locs 0 0 (MQ below (va_Qi (fun v u => v = (spWeave Mz.1 xz wz).1 ∧ (spWeave Mz.1 xz wz).2 = u.1 ∧ RM u) (fun u t => HW G.1 10 a (EM G a u) t.heap) (Aw 10 a)) ([.ref (a 0), .int xz, .int wz].toArray) s 0 0 (Aw 10 a)) (F0 m 122 ls [])) → (i ≤ sNs Sz) → (sNs Sz < i + n) → (Inv Tz) → (RM (Tz, F, Bf, A, Ct, Pt)) → (sNs Tz = sNs Sz) → (sNs Sz ≤ 24) → (wrd (sNs Sz - i) i Tz = rnd Sz) →  HW G.1 10 a (EM G a ((Tz, F, Bf, A, Ct, Pt))) H → va_S (Aw 10 a) s.heap H locs → lv_has ls 8 [(0, .ref (a 0)), (1, .int (nI N)), (2, .int wz), (3, .int (nI d)), (4, .int (nI j)), (5, .int (nI i)), (6, .int (nI 0)), (7, .int (nI i))] → W p l e (rmB 4 103) s m ([.ref (a 0), .int xz, .int wz].toArray) below meth c H locs 0 0 (MQ below (va_Qi (fun v u => v = (spWeave Mz.1 xz wz).1 ∧ (spWeave Mz.1 xz wz).2 = u.1 ∧ RM u) (fun u t => HW G.1 10 a (EM G a u) t.heap) (Aw 10 a)) ([.ref (a 0), .int xz, .int wz].toArray) s 0 0 (Aw 10 a)) (F0 m 71 ls []) := by
    intro n
    induction n with
    | zero =>
      intro N d j i Sz Tz F Bf A Ct Pt H locs ls xk hi hn hIt hRt hns h24 hw
      exact absurd hn (by omega)
    | succ n ih =>
      intro N d j i Sz Tz F Bf A Ct Pt H locs ls xk hi hn hIt hRt hns h24 hw h hS hl
      refine lv_iload hx hb dX3_weave_71 (lv_at hl 7 rfl) ?_
      refine lv_aload_n hx hb dX3_weave_73 rfl (lv_at hl 0 rfl) ?_
      refine fg_X3_87 C h dX3_weave_74 ?_
      refine lw_ti (show (nI (sNs ((Tz, F, Bf, A, Ct, Pt)).1) : Int32) = nI ((sNs Tz)) from rfl) ?_
      refine lv_icmp_ge (tgt := 122) hx hb dX3_weave_77 (by decide) (fun c77 => ?_) (fun c77 => ?_)
      · skip
        have hi0 : i = sNs Sz := by rw [nI_leI (by omega) (by omega)] at c77; omega
        have hTz : (i, Tz) = rnd Sz := by rw [← hw, show sNs Sz - i = 0 by omega]; rfl
        have e1 : (rnd Sz).1 = i := by rw [← hTz]
        have e2 : (rnd Sz).2 = Tz := by rw [← hTz]
        exact xk 0 F A Ct Pt _ _ _ (Or.inl ⟨rfl, by omega⟩) (by rw [e2]; exact hRt) (by rw [e2]; exact h) hS (by rw [e1]; exact lv_sub hl [0, 1, 2, 3, 4, 5, 6] rfl)
      · skip
        refine lv_iload hx hb dX3_weave_80 (lv_at hl 6 rfl) ?_
        refine lv_if_ne (tgt := 122) hx hb dX3_weave_82 (by decide) (fun c0 => absurd c0 (by decide)) (fun _ => ?_)
        have hin : i < sNs Sz := by rw [nI_leI (by omega) (by omega)] at c77; omega
        have hit : i < sNs Tz := by omega
        refine lv_aload_n hx hb dX3_weave_85 rfl (lv_at hl 0 rfl) ?_
        refine lv_iload hx hb dX3_weave_86 (lv_at hl 7 rfl) ?_
        refine kI (rV (As := [.int (nI i)]) (rest := []) C h lk_X3_90 0 (by decide) rfl rfl rfl (c3_doStep l G a (Tz, F, Bf, A, Ct, Pt) hIt hRt i hit) ⟨Nat.le_of_ble_eq_true rfl, Nat.le_of_ble_eq_true rfl⟩ hl.1 rfl rfl (Nat.le_of_ble_eq_true rfl) dX3_weave_88 ⟨Nat.zero_le _, Nat.zero_le _⟩) hS (fun rv u H locs hp h hS => ?_)
        obtain ⟨hv, hu, hRu, hbu⟩ := hp
        obtain ⟨u1, uF, uB, uA, uC, uP⟩ := u
        dsimp only at hu
        subst hu
        have hbu : Bf = uB := hbu
        subst hbu
        subst hv
        by_cases hz : (stp Tz i).1 = 0
        · refine lw_ti (show _ = nI 0 from congrArg nI hz) ?_
          refine lv_if_eq (tgt := 98) hx hb dX3_weave_91 (by decide) (fun _ => ?_) (fun c0 => absurd c0 (by decide))
          refine lv_iconst (v := nI 0) hx hb dX3_weave_98 (by decide) ?_
          refine lv_istore (lv' := [(6, .int (nI 0)), (0, .ref (a 0)), (1, .int (nI N)), (2, .int wz), (3, .int (nI d)), (4, .int (nI j)), (5, .int (nI i)), (7, .int (nI i))]) hx hb dX3_weave_99 hl (by decide) rfl (fun ls hl => ?_)
          refine lv_iload hx hb dX3_weave_101 (lv_at hl 6 rfl) ?_
          refine lv_iload hx hb dX3_weave_103 (lv_at hl 0 rfl) ?_
          refine lv_if_eq (tgt := 112) hx hb dX3_weave_105 (by decide) (fun _ => ?_) (fun c0 => absurd c0 (by decide))
          refine lv_iconst (v := nI 1) hx hb dX3_weave_112 (by decide) ?_
          refine lv_iadd hx hb dX3_weave_113 ?_
          refine lw_ti (show ((nI i) + (nI 1) : Int32) = nI (i + 1) from nI_add _ _) ?_
          refine lv_istore (lv' := [(5, .int (nI (i + 1))), (6, .int (nI 0)), (0, .ref (a 0)), (1, .int (nI N)), (2, .int wz), (3, .int (nI d)), (4, .int (nI j)), (7, .int (nI i))]) hx hb dX3_weave_114 hl (by decide) rfl (fun ls hl => ?_)
          refine lv_iinc (v := nI (i + 1)) (lv' := [(7, .int (nI (i + 1))), (5, .int (nI (i + 1))), (6, .int (nI 0)), (0, .ref (a 0)), (1, .int (nI N)), (2, .int wz), (3, .int (nI d)), (4, .int (nI j))]) hx hb dX3_weave_116 hl (k := 7) rfl (nI_1 i) (by decide) rfl (fun ls hl => ?_)
          refine lv_goto (tgt := 71) hx hb dX3_weave_119 (by decide) ?_
          exact ih N d j (i + 1) Sz (stp Tz i).2 uF Bf uA uC uP _ _ _ xk (by omega) (by omega) (stp_inv hIt hit) hRu (stp_ns.trans hns) h24 ((wrd_step hin hz).symm.trans hw) h hS (lv_sub hl [3, 4, 5, 6, 7, 1, 2, 0] rfl)
        · have hlt : (stp Tz i).1 < 5 := mov_lt _ _ _ _ _ _
          refine lv_if_eq (tgt := 98) hx hb dX3_weave_91 (by decide) (fun c0 => absurd c0 (fun z => hz ((nI_z (by omega)).mp z))) (fun c91 => ?_)
          refine lv_iconst (v := nI 1) hx hb dX3_weave_94 (by decide) ?_
          refine lv_goto (tgt := 99) hx hb dX3_weave_95 (by decide) ?_
          refine lv_istore (lv' := [(6, .int (nI 1)), (0, .ref (a 0)), (1, .int (nI N)), (2, .int wz), (3, .int (nI d)), (4, .int (nI j)), (5, .int (nI i)), (7, .int (nI i))]) hx hb dX3_weave_99 hl (by decide) rfl (fun ls hl => ?_)
          refine lv_iload hx hb dX3_weave_101 (lv_at hl 6 rfl) ?_
          refine lv_iload hx hb dX3_weave_103 (lv_at hl 0 rfl) ?_
          refine lv_if_eq (tgt := 112) hx hb dX3_weave_105 (by decide) (fun c0 => absurd c0 (by decide)) (fun _ => ?_)
          refine lv_iconst (v := nI 0) hx hb dX3_weave_108 (by decide) ?_
          refine lv_goto (tgt := 113) hx hb dX3_weave_109 (by decide) ?_
          refine lv_iadd hx hb dX3_weave_113 ?_
          refine lw_ti (show ((nI i) + (nI 0) : Int32) = nI i from nI_add i 0) ?_
          refine lv_istore (lv' := [(5, .int (nI i)), (6, .int (nI 1)), (0, .ref (a 0)), (1, .int (nI N)), (2, .int wz), (3, .int (nI d)), (4, .int (nI j)), (7, .int (nI i))]) hx hb dX3_weave_114 hl (by decide) rfl (fun ls hl => ?_)
          refine lv_iinc (v := nI (i + 1)) (lv' := [(7, .int (nI (i + 1))), (5, .int (nI i)), (6, .int (nI 1)), (0, .ref (a 0)), (1, .int (nI N)), (2, .int wz), (3, .int (nI d)), (4, .int (nI j))]) hx hb dX3_weave_116 hl (k := 7) rfl (nI_1 i) (by decide) rfl (fun ls hl => ?_)
          refine lv_goto (tgt := 71) hx hb dX3_weave_119 (by decide) ?_
          refine lv_iload hx hb dX3_weave_71 (lv_at hl 0 rfl) ?_
          refine lv_aload_n hx hb dX3_weave_73 rfl (lv_at hl 3 rfl) ?_
          refine fg_X3_87 C h dX3_weave_74 ?_
          refine lw_ti (show (nI (sNs (((stp Tz i).2, uF, Bf, uA, uC, uP)).1) : Int32) = nI ((sNs ((stp Tz i).2))) from rfl) ?_
          refine lv_icmp_ge (tgt := 122) hx hb dX3_weave_77 (by decide) (fun c77 => ?_) (fun c77 => ?_)
          · skip
            have hTz : (i, (stp Tz i).2) = rnd Sz := by rw [← hw, wrd_stop hin hz]
            have e1 : (rnd Sz).1 = i := by rw [← hTz]
            have e2 : (rnd Sz).2 = (stp Tz i).2 := by rw [← hTz]
            exact xk 1 uF uA uC uP _ _ _ (Or.inr ⟨rfl, by omega⟩) (by rw [e2]; exact hRu) (by rw [e2]; exact h) hS (by rw [e1]; exact lv_sub hl [3, 4, 5, 6, 7, 1, 2] rfl)
          · skip
            refine lv_iload hx hb dX3_weave_80 (lv_at hl 2 rfl) ?_
            refine lv_if_ne (tgt := 122) hx hb dX3_weave_82 (by decide) (fun _ => ?_) (fun c0 => absurd c0 (by decide))
            have hTz : (i, (stp Tz i).2) = rnd Sz := by rw [← hw, wrd_stop hin hz]
            have e1 : (rnd Sz).1 = i := by rw [← hTz]
            have e2 : (rnd Sz).2 = (stp Tz i).2 := by rw [← hTz]
            exact xk 1 uF uA uC uP _ _ _ (Or.inr ⟨rfl, by omega⟩) (by rw [e2]; exact hRu) (by rw [e2]; exact h) hS (by rw [e1]; exact lv_sub hl [3, 4, 5, 6, 7, 1, 2] rfl)
  have lc : ∀ (n : Nat) (d k : Nat) (T : St) (F Bf A : Nat → Int64) (Ct Pt : Nat → Int32) (H : Heap) (locs : List Loc) (ls : Array Slot), (∀ (F2 : Nat → Int64) (H : Heap) (locs : List Loc) (ls : Array Slot), (∀ t, t < 320 → F2 t = Bf t) → HW G.1 10 a (EM G a ((T, F2, Bf, A, Ct, Pt))) H → va_S (Aw 10 a) s.heap H locs → lv_has ls 8 [(3, .int (nI d))] → W p l e (rmB 4 103) s m ([.ref (a 0), .int xz, .int wz].toArray) below meth c H locs 0 0 (MQ below (va_Qi (fun v u => v = (spWeave Mz.1 xz wz).1 ∧ (spWeave Mz.1 xz wz).2 = u.1 ∧ RM u) (fun u t => HW G.1 10 a (EM G a u) t.heap) (Aw 10 a)) ([.ref (a 0), .int xz, .int wz].toArray) s 0 0 (Aw 10 a)) (F0 m 167 ls [])) → (k ≤ 320) → (320 < k + n) → (∀ t, t < k → F t = Bf t) →  HW G.1 10 a (EM G a ((T, F, Bf, A, Ct, Pt))) H → va_S (Aw 10 a) s.heap H locs → lv_has ls 8 [(0, .ref (a 0)), (3, .int (nI d)), (7, .int (nI k))] → W p l e (rmB 4 103) s m ([.ref (a 0), .int xz, .int wz].toArray) below meth c H locs 0 0 (MQ below (va_Qi (fun v u => v = (spWeave Mz.1 xz wz).1 ∧ (spWeave Mz.1 xz wz).2 = u.1 ∧ RM u) (fun u t => HW G.1 10 a (EM G a u) t.heap) (Aw 10 a)) ([.ref (a 0), .int xz, .int wz].toArray) s 0 0 (Aw 10 a)) (F0 m 139 ls []) := by
    intro n
    induction n with
    | zero =>
      intro d k T F Bf A Ct Pt H locs ls xk hk hn hF
      exact absurd hn (by omega)
    | succ n ih =>
      intro d k T F Bf A Ct Pt H locs ls xk hk hn hF h hS hl
      refine lv_iload hx hb dX3_weave_139 (lv_at hl 2 rfl) ?_
      refine lv_sipush (v := nI 320) hx hb dX3_weave_141 (by decide) ?_
      refine lv_icmp_ge (tgt := 167) hx hb dX3_weave_144 (by decide) (fun c144 => ?_) (fun c144 => ?_)
      · skip
        exact xk F _ _ _ (fun t ht => hF t (by rw [nI_leI (by omega) (by omega)] at c144; omega)) h hS (lv_sub hl [1] rfl)
      · skip
        have hk320 : k < 320 := by rw [nI_leI (by omega) (by omega)] at c144; omega
        refine lv_aload_n hx hb dX3_weave_147 rfl (lv_at hl 0 rfl) ?_
        refine fg_X3_16 C h dX3_weave_148 ?_
        refine lv_iload hx hb dX3_weave_151 (lv_at hl 2 rfl) ?_
        refine lv_aload_n hx hb dX3_weave_153 rfl (lv_at hl 0 rfl) ?_
        refine fg_X3_20 C h dX3_weave_154 ?_
        refine lv_iload hx hb dX3_weave_157 (lv_at hl 2 rfl) ?_
        refine ml_be C h (by first | assumption | omega) dX3_weave_159 ?_
        refine lw_tl (show (mB ((T, F, Bf, A, Ct, Pt)) k : Int64) = Bf k from rfl) ?_
        refine ms_ce C h hS (by first | assumption | omega) dX3_weave_160 (fun H locs h hS => ?_)
        refine lv_iinc (v := nI (k + 1)) (lv' := [(7, .int (nI (k + 1))), (0, .ref (a 0)), (3, .int (nI d))]) hx hb dX3_weave_161 hl (k := 2) rfl (nI_1 k) (by decide) rfl (fun ls hl => ?_)
        refine lv_goto (tgt := 139) hx hb dX3_weave_164 (by decide) ?_
        exact ih d (k + 1) T (vp_updL F k (Bf k)) Bf A Ct Pt _ _ _ xk (by omega) (by omega) (fun t ht => by by_cases e : t = k; (subst e; simp [vp_updL]); (simp only [vp_updL, if_neg e]; exact hF t (by omega))) h hS (lv_sub hl [1, 2, 0] rfl)
  have lp : ∀ (n : Nat) (N j d : Nat) (Sz : St) (F Bf A : Nat → Int64) (Ct Pt : Nat → Int32) (H : Heap) (locs : List Loc) (ls : Array Slot), (N ≤ 50) → (rng xz 1 50 = some N) → (¬ sNs Mz.1 = 0) → (j ≤ N) → (N < j + n) → (Inv Sz) → (RM (Sz, F, Bf, A, Ct, Pt)) → (wvs (¬ wz = 0) (N - j) d Sz = wvs (¬ wz = 0) N 0 Mz.1) →  HW G.1 10 a (EM G a ((Sz, F, Bf, A, Ct, Pt))) H → va_S (Aw 10 a) s.heap H locs → lv_has ls 8 [(0, .ref (a 0)), (1, .int (nI N)), (2, .int wz), (3, .int (nI d)), (4, .int (nI j))] → W p l e (rmB 4 103) s m ([.ref (a 0), .int xz, .int wz].toArray) below meth c H locs 0 0 (MQ below (va_Qi (fun v u => v = (spWeave Mz.1 xz wz).1 ∧ (spWeave Mz.1 xz wz).2 = u.1 ∧ RM u) (fun u t => HW G.1 10 a (EM G a u) t.heap) (Aw 10 a)) ([.ref (a 0), .int xz, .int wz].toArray) s 0 0 (Aw 10 a)) (F0 m 25 ls []) := by
    intro n
    induction n with
    | zero =>
      intro N j d Sz F Bf A Ct Pt H locs ls hN50 hN h0 hj hn hIz hRz hw
      exact absurd hn (by omega)
    | succ n ih =>
      intro N j d Sz F Bf A Ct Pt H locs ls hN50 hN h0 hj hn hIz hRz hw h hS hl
      refine lv_iload hx hb dX3_weave_25 (lv_at hl 4 rfl) ?_
      refine lv_iload_n hx hb dX3_weave_27 rfl (lv_at hl 1 rfl) ?_
      refine lv_icmp_ge (tgt := 190) hx hb dX3_weave_28 (by decide) (fun c28 => ?_) (fun c28 => ?_)
      · skip
        refine lv_iload_n hx hb dX3_weave_190 rfl (lv_at hl 3 rfl) ?_
        exact eI C hret hlk ((Sz, F, Bf, A, Ct, Pt)) h hS (⟨by unfold spWeave; rw [hN]; simp only; rw [if_neg h0, ← hw, show N - j = 0 by rw [nI_leI (by omega) (by omega)] at c28; omega, wvs], by unfold spWeave; rw [hN]; simp only; rw [if_neg h0, ← hw, show N - j = 0 by rw [nI_leI (by omega) (by omega)] at c28; omega, wvs], hRz⟩) dX3_weave_191
      · skip
        have hjn : j < N := by rw [nI_leI (by omega) (by omega)] at c28; omega
        refine lv_iconst (v := nI 0) hx hb dX3_weave_31 (by decide) ?_
        refine lv_istore (lv' := [(5, .int (nI 0)), (0, .ref (a 0)), (1, .int (nI N)), (2, .int wz), (3, .int (nI d)), (4, .int (nI j))]) hx hb dX3_weave_32 hl (by decide) rfl (fun ls hl => ?_)
        refine la 321 N d j 0 Sz F Bf A Ct Pt _ _ _ ?_ (by omega) (by omega) (fun t ht => absurd ht (by omega)) h hS (lv_sub hl [1, 2, 3, 4, 5, 0] rfl)
        intro Bx H locs ls hBx h hS hl
        have hRx : RM (Sz, F, Bx, A, Ct, Pt) := hRz
        refine lv_iconst (v := nI 0) hx hb dX3_weave_62 (by decide) ?_
        refine lv_istore (lv' := [(5, .int (nI 0)), (0, .ref (a 0)), (1, .int (nI N)), (2, .int wz), (3, .int (nI d)), (4, .int (nI j))]) hx hb dX3_weave_63 hl (by decide) rfl (fun ls hl => ?_)
        refine lv_iconst (v := nI 0) hx hb dX3_weave_65 (by decide) ?_
        refine lv_istore (lv' := [(6, .int (nI 0)), (5, .int (nI 0)), (0, .ref (a 0)), (1, .int (nI N)), (2, .int wz), (3, .int (nI d)), (4, .int (nI j))]) hx hb dX3_weave_66 hl (by decide) rfl (fun ls hl => ?_)
        refine lv_iconst (v := nI 0) hx hb dX3_weave_68 (by decide) ?_
        refine lv_istore (lv' := [(7, .int (nI 0)), (6, .int (nI 0)), (5, .int (nI 0)), (0, .ref (a 0)), (1, .int (nI N)), (2, .int wz), (3, .int (nI d)), (4, .int (nI j))]) hx hb dX3_weave_69 hl (by decide) rfl (fun ls hl => ?_)
        refine lb (sNs Sz + 1) N d j 0 Sz Sz F Bx A Ct Pt _ _ _ ?_ (by omega) (by omega) hIz hRx rfl hIz.2.2.1 rfl h hS (lv_sub hl [3, 4, 5, 6, 7, 2, 1, 0] rfl)
        intro rf Fx Ax Cx2 Px H locs ls hrf hRr h hS hl
        rcases hrf with ⟨rfl, hz⟩ | ⟨rfl, hz⟩
        · skip
          refine lv_iload hx hb dX3_weave_122 (lv_at hl 6 rfl) ?_
          refine lv_if_eq (tgt := 169) hx hb dX3_weave_124 (by decide) (fun _ => ?_) (fun c0 => absurd c0 (by decide))
          refine lv_iload_n hx hb dX3_weave_169 rfl (lv_at hl 3 rfl) ?_
          refine lv_iload hx hb dX3_weave_170 (lv_at hl 5 rfl) ?_
          refine lv_iadd hx hb dX3_weave_172 ?_
          refine lw_ti (show _ = nI (d + ((rnd Sz).1)) from nI_add _ _) ?_
          refine lv_istore_n (lv' := [(3, .int (nI (d + ((rnd Sz).1)))), (0, .ref (a 0)), (1, .int (nI N)), (2, .int wz), (4, .int (nI j)), (5, .int (nI (rnd Sz).1)), (6, .int (nI 0))]) hx hb dX3_weave_173 rfl hl (by decide) rfl (fun ls hl => ?_)
          refine lv_aload_n hx hb dX3_weave_174 rfl (lv_at hl 1 rfl) ?_
          refine lv_dup hx hb dX3_weave_175 rfl ?_
          refine fg_X3_94 C h dX3_weave_176 ?_
          refine lw_ti (show (sWv (((rnd Sz).2, Fx, Bx, Ax, Cx2, Px)).1 : Int32) = sWv ((rnd Sz).2) from rfl) ?_
          refine lv_iconst (v := nI 1) hx hb dX3_weave_179 (by decide) ?_
          refine lv_iadd hx hb dX3_weave_180 ?_
          refine fp_X3_94 C h hS dX3_weave_181 (fun H locs h hS => ?_)
          refine lv_iinc (v := nI (j + 1)) (lv' := [(4, .int (nI (j + 1))), (3, .int (nI (d + ((rnd Sz).1)))), (0, .ref (a 0)), (1, .int (nI N)), (2, .int wz), (5, .int (nI (rnd Sz).1)), (6, .int (nI 0))]) hx hb dX3_weave_184 hl (k := 4) rfl (nI_1 j) (by decide) rfl (fun ls hl => ?_)
          refine lv_goto (tgt := 25) hx hb dX3_weave_187 (by decide) ?_
          exact ih N (j + 1) (d + (rnd Sz).1) (uWv (rnd Sz).2 (sWv (rnd Sz).2 + nI 1)) Fx Bx Ax Cx2 Px _ _ _ hN50 hN h0 (by omega) (by omega) (rnd_inv hIz).1 hRr ((wvs_go hjn hz).symm.trans hw) h hS (lv_sub hl [2, 3, 4, 1, 0] rfl)
        · skip
          refine lv_iload hx hb dX3_weave_122 (lv_at hl 6 rfl) ?_
          refine lv_if_eq (tgt := 169) hx hb dX3_weave_124 (by decide) (fun c0 => absurd c0 (by decide)) (fun _ => ?_)
          refine lv_iload_n hx hb dX3_weave_127 rfl (lv_at hl 2 rfl) ?_
          refine lv_if_ne (tgt := 136) hx hb dX3_weave_128 (by decide) (fun c128 => ?_) (fun c128 => ?_)
          · skip
            refine lv_iconst (v := nI 0) hx hb dX3_weave_136 (by decide) ?_
            refine lv_istore (lv' := [(7, .int (nI 0)), (0, .ref (a 0)), (1, .int (nI N)), (2, .int wz), (3, .int (nI d)), (4, .int (nI j)), (5, .int (nI (rnd Sz).1)), (6, .int (nI 1))]) hx hb dX3_weave_137 hl (by decide) rfl (fun ls hl => ?_)
            refine lc 321 d 0 (rnd Sz).2 Fx Bx Ax Cx2 Px _ _ _ ?_ (by omega) (by omega) (fun t ht => absurd ht (by omega)) h hS (lv_sub hl [1, 4, 0] rfl)
            intro F2 H locs ls hF2 h hS hl
            refine lv_iload_n hx hb dX3_weave_167 rfl (lv_at hl 0 rfl) ?_
            exact eI C hret hlk (uCe (rnd Sz).2 (sCe Sz), F2, Bx, Ax, Cx2, Px) h hS (⟨by unfold spWeave; rw [hN]; simp only; rw [if_neg h0, ← hw, wvs_stop hjn hz, cif_t c128], by unfold spWeave; rw [hN]; simp only; rw [if_neg h0, ← hw, wvs_stop hjn hz, cif_t c128], RM_back hRx hRr (fun t ht => (hF2 t ht).trans (hBx t ht)) hIz⟩) dX3_weave_168
          · skip
            refine lv_iload_n hx hb dX3_weave_131 rfl (lv_at hl 3 rfl) ?_
            refine lv_iload hx hb dX3_weave_132 (lv_at hl 5 rfl) ?_
            refine lv_iadd hx hb dX3_weave_134 ?_
            refine lw_ti (show _ = nI (d + ((rnd Sz).1)) from nI_add _ _) ?_
            exact eI C hret hlk (((rnd Sz).2, Fx, Bx, Ax, Cx2, Px)) h hS (⟨by unfold spWeave; rw [hN]; simp only; rw [if_neg h0, ← hw, wvs_stop hjn hz, cif_f (fun z => z c128)], by unfold spWeave; rw [hN]; simp only; rw [if_neg h0, ← hw, wvs_stop hjn hz, cif_f (fun z => z c128)], hRr⟩) dX3_weave_135
  refine lv_iload_n hx hb dX3_weave_0 rfl (lv_at hl 1 rfl) ?_
  refine lv_iconst (v := nI 1) hx hb dX3_weave_1 (by decide) ?_
  refine lv_icmp_lt (tgt := 18) hx hb dX3_weave_2 (by decide) (fun c2 => ?_) (fun c2 => ?_)
  · skip
    refine lv_iconst (v := -1) hx hb dX3_weave_18 (by decide) ?_
    exact eI C hret hlk Mz h hS (⟨by unfold spWeave; rw [rng_lo c2], by unfold spWeave; rw [rng_lo c2], hR⟩) dX3_weave_19
  · skip
    refine lv_iload_n hx hb dX3_weave_5 rfl (lv_at hl 1 rfl) ?_
    refine lv_bipush (v := nI 50) hx hb dX3_weave_6 (by decide) ?_
    refine lv_icmp_gt (tgt := 18) hx hb dX3_weave_8 (by decide) (fun c8 => ?_) (fun c8 => ?_)
    · skip
      refine lv_iconst (v := -1) hx hb dX3_weave_18 (by decide) ?_
      exact eI C hret hlk Mz h hS (⟨by unfold spWeave; rw [rng_hi c8], by unfold spWeave; rw [rng_hi c8], hR⟩) dX3_weave_19
    · skip
      obtain ⟨N, hN1, hN50, hxN, hN⟩ := rng_of (by decide) (by decide) c2 c8
      refine lv_aload_n hx hb dX3_weave_11 rfl (lv_at hl 0 rfl) ?_
      refine fg_X3_87 C h dX3_weave_12 ?_
      refine lv_if_ne (tgt := 20) hx hb dX3_weave_15 (by decide) (fun c15 => ?_) (fun c15 => ?_)
      · skip
        have h0 : ¬ sNs Mz.1 = 0 := fun z => c15 ((nI_z (by omega)).mpr z)
        rw [hxN] at hl
        refine lv_iconst (v := nI 0) hx hb dX3_weave_20 (by decide) ?_
        refine lv_istore_n (lv' := [(3, .int (nI 0)), (0, .ref (a 0)), (1, .int (nI N)), (2, .int wz)]) hx hb dX3_weave_21 rfl hl (by decide) rfl (fun ls hl => ?_)
        refine lv_iconst (v := nI 0) hx hb dX3_weave_22 (by decide) ?_
        refine lv_istore (lv' := [(4, .int (nI 0)), (3, .int (nI 0)), (0, .ref (a 0)), (1, .int (nI N)), (2, .int wz)]) hx hb dX3_weave_23 hl (by decide) rfl (fun ls hl => ?_)
        exact lp (N + 1) N 0 0 Mz.1 (mF Mz) (mB Mz) (mA Mz) (mC Mz) (mP Mz) _ _ _ hN50 hN h0 (by omega) (by omega) hI hR rfl h hS (lv_sub hl [2, 3, 4, 1, 0] rfl)
      · skip
        refine lv_iconst (v := -1) hx hb dX3_weave_18 (by decide) ?_
        exact eI C hret hlk Mz h hS (⟨by unfold spWeave; rw [hN]; simp only; rw [if_pos ((nI_z (by omega)).mp c15)], by unfold spWeave; rw [hN]; simp only; rw [if_pos ((nI_z (by omega)).mp c15)], hR⟩) dX3_weave_19
