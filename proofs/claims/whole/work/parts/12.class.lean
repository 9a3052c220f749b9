theorem metF {l : Launch} {y : MethodName} {ws ws' : List Cond} {rm : Room} {Pc : Array Value → State → Prop} {Qc : Array Value → State → Outcome → State → Prop} {mc ms : Nat} {free : Addr → Prop} {cc : ByteArray} {maxL : Nat} {ret : Option FieldType}
    (hy : plainFor y = true) (hw : ws = Cond.code y cc maxL ret :: ws')
    (body : ∀ p e s m args below meth c s₁, BodyLoose p l y (headSpec ws rm) cc maxL ret e s m args below meth c s₁ → c.maxLocals = maxL → Pc args s →
      W p l e (headSpec ws rm).room s m args below meth c s.heap [] 0 0 (MQ below Qc args s mc ms free) (entryFrame m args maxL)) : Met l y ws rm Pc Qc mc ms free := by
  refine MetFree.of_bodySF (code := cc) (maxLocals := maxL) (ret := ret) hy ?_ ?_
  · intro args s m h hn
    obtain ⟨meth, c, h1, h2, h3, h4, h5, h6, -, -⟩ := Cond.code_spec hn (atoms_spec (ws := ws) h _ (by rw [hw]; exact List.mem_cons_self))
    exact ⟨meth, c, h1, h2, h3, h4, h5, h6⟩
  · intro p e s m args below meth c s₁ B hml hP _
    have hh0 : s₁.heap = s.heap := by rw [B.state]; rfl
    obtain ⟨t, a1, o, b1, b2, b3⟩ := body p e s m args below meth c s₁ B hml hP s₁ hh0 (Stand.of_body B)
    exact ⟨t, o, a1, b1, b2, ⟨b3.1, b3.2⟩⟩
theorem ent_ofF {σ : Type} {l : Launch} {G : Gx} {N : Nat} {a : Nat → Nat} {E : σ → Nat → va_E} {y : MethodName} {cc : ByteArray} {n : Nat} {ret : Option FieldType} {f lo : Nat} {As : List Value} {u0 : σ} {Qc : Array Value → State → Outcome → State → Prop}
    (hy : plainFor y = true) (hn : (lg_sl As).length ≤ n)
    (body : ∀ (p : Program) (e : Env) (s : State) (m : MethodId) (below : List Frame) (meth : Method) (c : Code) (ls : Array Slot), Cx p s m As.toArray c cc y.cls n G → HW G.1 N a (E u0) s.heap → va_S (Aw N a) s.heap s.heap [] → meth.sig.returnType = ret → meth.locks = false → lv_has ls n (lv_args 0 As) →
      W p l e (rmB f lo) s m As.toArray below meth c s.heap [] 0 0 (MQ below Qc As.toArray s 0 0 (Aw N a)) (F0 m 0 ls [])) : Met l y (.code y cc n ret :: wsL_law) (rmB f lo) (va_Pc As (PreW G N a E u0)) Qc 0 0 (Aw N a) := by
  refine metF (cc := cc) (maxL := n) (ret := ret) hy rfl ?_
  intro p e s m args below meth c s₁ B hml hv
  obtain ⟨rfl, hH, hK, hN⟩ := hv
  have hts := atoms_spec (ws := .code y cc n ret :: wsL_law) B.pre
  have hown : s.vm.findClass y.cls = some m.cls := findClass_of_methodNamed B.named
  rw [lg_entry_eq]
  exact body p e s m below meth c _ ⟨B.exec, B.bytes, hml, hown, fun w hw => hts w (List.mem_cons_of_mem _ hw), hK, hN⟩ hH va_S.rf B.returns B.notSynchronized (lv_entry As hn)
theorem cmn_cm (S : St) (x : Int32) (f : Nat → Int64) (i : Nat) : ∀ n k, cmn (uCm S x) f i n k = cmn S f i n k
  | 0, _ => rfl
  | n + 1, k => by
    show cif (mayL S 8 (f (i + k))) (cmn (uCm S x) f i n (k + 1)) k = cif (mayL S 8 (f (i + k))) (cmn S f i n (k + 1)) k
    rw [cmn_cm S x f i n (k + 1)]
theorem come_cm (S : St) (x : Int32) (q r i n : Nat) : comeC (uCm S x) q r i n = comeC S q r i n := by
  unfold comeC
  rw [cmn_cm]

set_option maxHeartbeats 4000000 in
set_option maxRecDepth 100000 in
theorem c_floorMod (l : Launch) (G : Gx) (a : Nat → Nat) (Bz : BS) (xz : Int32) (nz : Nat) (h0 : 0 < nz) (hn : nz ≤ 40) : CtI l G 35 a (EB G a) yJ9_floorMod_7cf53 cJ9_floorMod_7cf53 3 (some .int) 0 0 [.int xz, .int (nI nz)] Bz (fun v u => Bz = u ∧ v = nI ((xz.toInt % (nz : Int)).toNat)) := by
  refine ent_ofF (by decide +kernel) (Nat.le_of_ble_eq_true rfl) ?_
  intro p e s m below meth c ls C h hS hret hlk hl
  have C : Cx p s m _ c cJ9_floorMod_7cf53 RJ9 3 G := C
  have hx := C.1
  have hb := C.2.1
  have hl : lv_has ls 3 [(0, .int xz), (1, .int (nI nz))] := hl
  refine lv_iload_n hx hb dJ9_floorMod_7cf53_0 rfl (lv_at hl 0 rfl) ?_
  refine lv_iload_n hx hb dJ9_floorMod_7cf53_1 rfl (lv_at hl 1 rfl) ?_
  refine lv_irem hx hb dJ9_floorMod_7cf53_2 (nI_ne0 h0 (by omega)) ?_
  refine lv_istore_n (lv' := [(2, .int (xz - xz / (nI nz) * (nI nz))), (0, .int xz), (1, .int (nI nz))]) hx hb dJ9_floorMod_7cf53_3 rfl hl (by decide) rfl (fun ls hl => ?_)
  refine lv_iload_n hx hb dJ9_floorMod_7cf53_4 rfl (lv_at hl 1 rfl) ?_
  refine lv_iload_n hx hb dJ9_floorMod_7cf53_5 rfl (lv_at hl 2 rfl) ?_
  refine lv_ixor hx hb dJ9_floorMod_7cf53_6 ?_
  refine lv_if_ge (tgt := 18) hx hb dJ9_floorMod_7cf53_7 (by decide) (fun c7 => ?_) (fun c7 => ?_)
  · skip
    refine lv_iload_n hx hb dJ9_floorMod_7cf53_18 rfl (lv_at hl 0 rfl) ?_
    exact eI C hret hlk (Bz) h hS (⟨rfl, by have hp := i_rem (x := xz) h0 (by omega : nz < 2 ^ 31); have hE := i_emod_of_tmod (x := xz.toInt) h0; have hF := i_tmod_facts (x := xz.toInt) h0; refine nI_ofI ?_; have hx0 := (x_sign (by omega)).mp c7; have := hF.2.2.2.1 hx0; rw [if_neg (by omega)] at hE; omega⟩) dJ9_floorMod_7cf53_19
  · skip
    refine lv_iload_n hx hb dJ9_floorMod_7cf53_10 rfl (lv_at hl 0 rfl) ?_
    refine lv_if_eq (tgt := 18) hx hb dJ9_floorMod_7cf53_11 (by decide) (fun c11 => ?_) (fun c11 => ?_)
    · skip
      refine lv_iload_n hx hb dJ9_floorMod_7cf53_18 rfl (lv_at hl 0 rfl) ?_
      exact eI C hret hlk (Bz) h hS (⟨rfl, by have hp := i_rem (x := xz) h0 (by omega : nz < 2 ^ 31); have hE := i_emod_of_tmod (x := xz.toInt) h0; have hF := i_tmod_facts (x := xz.toInt) h0; refine nI_ofI ?_; have hz : xz.toInt.tmod nz = 0 := (by rw [← hp, c11]; rfl); rw [if_neg (by omega)] at hE; omega⟩) dJ9_floorMod_7cf53_19
    · skip
      refine lv_iload_n hx hb dJ9_floorMod_7cf53_14 rfl (lv_at hl 0 rfl) ?_
      refine lv_iload_n hx hb dJ9_floorMod_7cf53_15 rfl (lv_at hl 2 rfl) ?_
      refine lv_iadd hx hb dJ9_floorMod_7cf53_16 ?_
      exact eI C hret hlk (Bz) h hS (⟨rfl, by have hp := i_rem (x := xz) h0 (by omega : nz < 2 ^ 31); have hE := i_emod_of_tmod (x := xz.toInt) h0; have hF := i_tmod_facts (x := xz.toInt) h0; refine nI_ofI ?_; have hx0 : ¬ 0 ≤ xz.toInt := fun z => c7 ((x_sign (by omega)).mpr z); have hz : ¬ xz.toInt.tmod nz = 0 := fun z => c11 (Int32.toInt_inj.mp (by rw [hp, z]; rfl)); have h5 := hF.2.2.2.2 (by omega); rw [if_pos (by omega)] at hE; rw [Int32.toInt_add, hp, nI_toInt (by omega), Int.bmod_eq_of_le (by omega) (by omega)]; omega⟩) dJ9_floorMod_7cf53_17

set_option maxHeartbeats 4000000 in
set_option maxRecDepth 100000 in
theorem c_rotate (l : Launch) (G : Gx) (a : Nat → Nat) (Bz : BS) (hI : Inv Bz.1) (r : Nat) (hr : r < 8) (dz : Int32) : CtV l G 35 a (EB G a) yX1_rotate cX1_rotate 4 none 2 60 [.ref (a (r + 11)), .int dz] Bz (fun u => rotS Bz.1 r dz = u.1) := by
  refine ent_of (by decide) (Nat.le_of_ble_eq_true rfl) ?_
  intro p e s m below meth c ls C h hS hret hlk hl
  have C : Cx p s m _ c cX1_rotate RX1 4 G := C
  have hx := C.1
  have hb := C.2.1
  have hl : lv_has ls 4 [(0, .ref (a (r + 11))), (1, .int dz)] := hl
  have hpl := (hI.1 r hr).2
  have lp : ∀ (n : Nat) (j : Nat) (g : Nat → Int64) (H : Heap) (locs : List Loc) (ls : Array Slot), (j ≤ sPl Bz.1 r) → (sPl Bz.1 r < j + n) → (0 < sPl Bz.1 r) → (turnI (sCe Bz.1 r) g (sPl Bz.1 r) dz j) →  HW G.1 35 a (EB G a ((uCe Bz.1 (va_up (sCe Bz.1) r g), va_up Bz.2 r (va_cpy (sCe Bz.1 r) (Bz.2 r) 0 0 40)))) H → va_S (Aw 35 a) s.heap H locs → lv_has ls 4 [(0, .ref (a (r + 11))), (2, .int (nI ((dz.toInt % (sPl Bz.1 r : Int)).toNat))), (3, .int (nI j))] → W p l e (rmB 2 60) s m ([.ref (a (r + 11)), .int dz].toArray) below meth c H locs 0 0 (MQ below (va_Qv (fun u => rotS Bz.1 r dz = u.1) (fun u t => HW G.1 35 a (EB G a u) t.heap) (Aw 35 a)) ([.ref (a (r + 11)), .int dz].toArray) s 0 0 (Aw 35 a)) (F0 m 23 ls []) := by
    intro n
    induction n with
    | zero =>
      intro j g H locs ls hj hn h0 hg
      exact absurd hn (by omega)
    | succ n ih =>
      intro j g H locs ls hj hn h0 hg h hS hl
      refine lv_iload_n hx hb dX1_rotate_23 rfl (lv_at hl 2 rfl) ?_
      refine lv_aload_n hx hb dX1_rotate_24 rfl (lv_at hl 0 rfl) ?_
      refine fg_X1_22 C h (by first | assumption | omega) dX1_rotate_25 ?_
      refine lw_ti (show (nI (sPl ((uCe Bz.1 (va_up (sCe Bz.1) r g), va_up Bz.2 r (va_cpy (sCe Bz.1 r) (Bz.2 r) 0 0 40))).1 r) : Int32) = nI ((sPl Bz.1) r) from rfl) ?_
      refine lv_icmp_ge (tgt := 56) hx hb dX1_rotate_28 (by decide) (fun c28 => ?_) (fun c28 => ?_)
      · skip
        have hjn : j = sPl Bz.1 r := by rw [nI_leI (by omega) (by omega)] at c28; omega
        rw [hjn] at hg
        exact eV C hret hlk (rotS Bz.1 r dz, va_up Bz.2 r (va_cpy (sCe Bz.1 r) (Bz.2 r) 0 0 40)) (HB_eq h ⟨fun _ _ => ⟨rfl, rfl⟩, fun t q ht hq => by show va_up (sCe Bz.1) r g t q = va_up (sCe Bz.1) r (rotF (sCe Bz.1 r) (sPl Bz.1 r) dz) t q; by_cases ht : t = r; (rw [ht, va_up_self, va_up_self]; exact turnI_end hg q); (rw [va_up_ne _ _ ht, va_up_ne _ _ ht]), fun _ _ _ _ => rfl, rfl, fun _ _ => rfl, fun _ _ => rfl, rfl, fun _ _ _ _ => rfl, rfl, fun _ _ => rfl, rfl⟩) hS rfl dX1_rotate_56
      · skip
        have hjn : j < sPl Bz.1 r := by rw [nI_leI (by omega) (by omega)] at c28; omega
        have hdl := dst_lt h0 dz j
        refine lv_aload_n hx hb dX1_rotate_31 rfl (lv_at hl 0 rfl) ?_
        refine fg_X1_9 C h (by first | assumption | omega) dX1_rotate_32 ?_
        refine lv_iload_n hx hb dX1_rotate_35 rfl (lv_at hl 2 rfl) ?_
        refine lv_iload_n hx hb dX1_rotate_36 rfl (lv_at hl 1 rfl) ?_
        refine lv_iadd hx hb dX1_rotate_37 ?_
        refine lw_ti (show ((nI j) + (nI ((dz.toInt % (sPl Bz.1 r : Int)).toNat)) : Int32) = nI (j + (dz.toInt % (sPl Bz.1 r : Int)).toNat) from nI_add _ _) ?_
        refine lv_aload_n hx hb dX1_rotate_38 rfl (lv_at hl 0 rfl) ?_
        refine fg_X1_22 C h (by first | assumption | omega) dX1_rotate_39 ?_
        refine lw_ti (show (nI (sPl ((uCe Bz.1 (va_up (sCe Bz.1) r g), va_up Bz.2 r (va_cpy (sCe Bz.1 r) (Bz.2 r) 0 0 40))).1 r) : Int32) = nI ((sPl Bz.1) r) from rfl) ?_
        refine lv_irem hx hb dX1_rotate_42 (nI_ne0 h0 (by omega)) ?_
        refine lw_ti (show ((nI (j + (dz.toInt % (sPl Bz.1 r : Int)).toNat)) - (nI (j + (dz.toInt % (sPl Bz.1 r : Int)).toNat)) / (nI ((sPl Bz.1) r)) * (nI ((sPl Bz.1) r)) : Int32) = nI (dst (sPl Bz.1 r) dz j) from by rw [pk_rem (by have := Int.emod_lt_of_pos dz.toInt (b := (sPl Bz.1 r : Int)) (by omega); omega) h0 (by omega), dst_sh h0]) ?_
        refine lv_aload_n hx hb dX1_rotate_43 rfl (lv_at hl 0 rfl) ?_
        refine fg_X1_15 C h (by first | assumption | omega) dX1_rotate_44 ?_
        refine lv_iload_n hx hb dX1_rotate_47 rfl (lv_at hl 2 rfl) ?_
        refine al_ke C h (by first | assumption | omega) (by first | assumption | omega) dX1_rotate_48 ?_
        refine lw_tl (show (((uCe Bz.1 (va_up (sCe Bz.1) r g), va_up Bz.2 r (va_cpy (sCe Bz.1 r) (Bz.2 r) 0 0 40))).2 r j : Int64) = sCe Bz.1 r j from by simp [va_up, va_cpy, show j < 40 by omega]) ?_
        refine as_ce C h hS (by first | assumption | omega) (by first | assumption | omega) dX1_rotate_49 (fun H locs h hS => ?_)
        refine lv_iinc (v := nI (j + 1)) (lv' := [(3, .int (nI (j + 1))), (0, .ref (a (r + 11))), (2, .int (nI ((dz.toInt % (sPl Bz.1 r : Int)).toNat)))]) hx hb dX1_rotate_50 hl (k := 2) rfl (nI_1 j) (by decide) rfl (fun ls hl => ?_)
        refine lv_goto (tgt := 23) hx hb dX1_rotate_53 (by decide) ?_
        exact ih (j + 1) (vp_updL g (dst (sPl Bz.1 r) dz j) (sCe Bz.1 r j)) _ _ _ (by omega) (by omega) h0 (turnI_step hjn hg) (by simpa only [sKd, sPl, sCe, sNb, sCo, sPe, sNs, sPt, sCm, sMv, sWv, uKd, uPl, uCe, uNb, uCo, uPe, uNs, uPt, uCm, uMv, uWv, bx_uu, va_up_self, va_up_id] using h) hS (lv_sub hl [1, 2, 0] rfl)
  refine lv_aload_n hx hb dX1_rotate_0 rfl (lv_at hl 0 rfl) ?_
  refine fg_X1_22 C h (by first | assumption | omega) dX1_rotate_1 ?_
  refine lv_if_ne (tgt := 8) hx hb dX1_rotate_4 (by decide) (fun c4 => ?_) (fun c4 => ?_)
  · skip
    have h0 : 0 < sPl Bz.1 r := by rw [nI_z (by omega)] at c4; omega
    refine lv_aload_n hx hb dX1_rotate_8 rfl (lv_at hl 0 rfl) ?_
    refine kV (rV (As := []) (rest := []) C h lk_X1_39 (r + 11) (by omega) (EB_r _ _ _ (by first | assumption | omega)) rfl rfl (c_keepCells l G a _ r hr) ⟨Nat.le_of_ble_eq_true rfl, Nat.le_of_ble_eq_true rfl⟩ hl.1 rfl rfl (Nat.le_of_ble_eq_true rfl) dX1_rotate_9 ⟨Nat.zero_le _, Nat.zero_le _⟩) hS (fun u H locs hp h hS => ?_)
    obtain rfl := hp
    refine lv_iload_n hx hb dX1_rotate_12 rfl (lv_at hl 1 rfl) ?_
    refine lv_aload_n hx hb dX1_rotate_13 rfl (lv_at hl 0 rfl) ?_
    refine fg_X1_22 C h (by first | assumption | omega) dX1_rotate_14 ?_
    refine lw_ti (show (nI (sPl ((Bz.1, va_up Bz.2 r (va_cpy (sCe Bz.1 r) (Bz.2 r) 0 0 40))).1 r) : Int32) = nI ((sPl Bz.1) r) from rfl) ?_
    refine kI (rS (As := [.int dz, .int (nI ((sPl Bz.1) r))]) (rest := []) C h lk_X1_42 (c_floorMod l G a _ dz (sPl Bz.1 r) h0 hpl) ⟨Nat.le_of_ble_eq_true rfl, Nat.le_of_ble_eq_true rfl⟩ hl.1 rfl rfl (Nat.le_of_ble_eq_true rfl) dX1_rotate_17 ⟨Nat.zero_le _, Nat.zero_le _⟩) hS (fun rv u H locs hp h hS => ?_)
    obtain ⟨rfl, rfl⟩ := hp
    refine lv_istore_n (lv' := [(2, .int (nI ((dz.toInt % (sPl Bz.1 r : Int)).toNat))), (0, .ref (a (r + 11))), (1, .int dz)]) hx hb dX1_rotate_20 rfl hl (by decide) rfl (fun ls hl => ?_)
    refine lv_iconst (v := nI 0) hx hb dX1_rotate_21 (by decide) ?_
    refine lv_istore_n (lv' := [(3, .int (nI 0)), (2, .int (nI ((dz.toInt % (sPl Bz.1 r : Int)).toNat))), (0, .ref (a (r + 11))), (1, .int dz)]) hx hb dX1_rotate_22 rfl hl (by decide) rfl (fun ls hl => ?_)
    exact lp (sPl Bz.1 r + 1) 0 (sCe Bz.1 r) _ _ _ (by omega) (by omega) h0 ⟨fun t ht => absurd ht (by omega), fun _ _ => rfl⟩ (by simpa only [sKd, sPl, sCe, sNb, sCo, sPe, sNs, sPt, sCm, sMv, sWv, uKd, uPl, uCe, uNb, uCo, uPe, uNs, uPt, uCm, uMv, uWv, bx_uu, va_up_self, va_up_id] using h) hS (lv_sub hl [2, 1, 0] rfl)
  · skip
    have h0 : sPl Bz.1 r = 0 := (nI_z (by omega)).mp c4
    exact eV C hret hlk (rotS Bz.1 r dz, Bz.2) (HB_eq h ⟨fun _ _ => ⟨rfl, rfl⟩, fun t q ht hq => by show sCe Bz.1 t q = va_up (sCe Bz.1) r (rotF (sCe Bz.1 r) (sPl Bz.1 r) dz) t q; by_cases ht : t = r; (rw [ht, va_up_self]; unfold rotF; rw [if_neg (by omega)]); (rw [va_up_ne _ _ ht]), fun _ _ _ _ => rfl, rfl, fun _ _ => rfl, fun _ _ => rfl, rfl, fun _ _ _ _ => rfl, rfl, fun _ _ => rfl, rfl⟩) hS rfl dX1_rotate_7

set_option maxHeartbeats 4000000 in
set_option maxRecDepth 100000 in
theorem c_keepAllRows (l : Launch) (G : Gx) (a : Nat → Nat) (Bz : BS) : CtV l G 35 a (EB G a) yX2_keepAllRows cX2_keepAllRows 2 none 2 60 [.ref (a 0)] Bz (fun u => Bz.1 = u.1 ∧ ∀ r p, r < 8 → p < 40 → u.2 r p = sCe Bz.1 r p) := by
  refine ent_of (by decide) (Nat.le_of_ble_eq_true rfl) ?_
  intro p e s m below meth c ls C h hS hret hlk hl
  have C : Cx p s m _ c cX2_keepAllRows RX2 2 G := C
  have hx := C.1
  have hb := C.2.1
  have hl : lv_has ls 2 [(0, .ref (a 0))] := hl
  have lp : ∀ (n : Nat) (j : Nat) (Kz : Kt) (H : Heap) (locs : List Loc) (ls : Array Slot), (j ≤ 8) → (8 < j + n) → (∀ r p, r < j → p < 40 → Kz r p = sCe Bz.1 r p) →  HW G.1 35 a (EB G a ((Bz.1, Kz))) H → va_S (Aw 35 a) s.heap H locs → lv_has ls 2 [(0, .ref (a 0)), (1, .int (nI j))] → W p l e (rmB 2 60) s m ([.ref (a 0)].toArray) below meth c H locs 0 0 (MQ below (va_Qv (fun u => Bz.1 = u.1 ∧ ∀ r p, r < 8 → p < 40 → u.2 r p = sCe Bz.1 r p) (fun u t => HW G.1 35 a (EB G a u) t.heap) (Aw 35 a)) ([.ref (a 0)].toArray) s 0 0 (Aw 35 a)) (F0 m 2 ls []) := by
    intro n
    induction n with
    | zero =>
      intro j Kz H locs ls hj hn hK
      exact absurd hn (by omega)
    | succ n ih =>
      intro j Kz H locs ls hj hn hK h hS hl
      refine lv_iload_n hx hb dX2_keepAllRows_2 rfl (lv_at hl 1 rfl) ?_
      refine lv_bipush (v := nI 8) hx hb dX2_keepAllRows_3 (by decide) ?_
      refine lv_icmp_ge (tgt := 23) hx hb dX2_keepAllRows_5 (by decide) (fun c5 => ?_) (fun c5 => ?_)
      · skip
        exact eV C hret hlk ((Bz.1, Kz)) h hS (⟨rfl, fun r p hr hp => hK r p (by rw [nI_leI (by omega) (by omega)] at c5; omega) hp⟩) dX2_keepAllRows_23
      · skip
        have hj8 : j < 8 := by rw [nI_leI (by omega) (by omega)] at c5; omega
        refine lv_aload_n hx hb dX2_keepAllRows_8 rfl (lv_at hl 0 rfl) ?_
        refine fg_X2_11 C h dX2_keepAllRows_9 ?_
        refine lv_iload_n hx hb dX2_keepAllRows_12 rfl (lv_at hl 1 rfl) ?_
        refine al_rk C h (by first | assumption | omega) dX2_keepAllRows_13 ?_
        refine kV (rVN (As := []) (rest := []) C h lk_X2_177 (j + 11) (by omega) (EB_r _ _ _ (by first | assumption | omega)) rfl rfl (c_keepCells l G a _ j hj8) ⟨Nat.le_of_ble_eq_true rfl, Nat.le_of_ble_eq_true rfl⟩ hl.1 rfl rfl (Nat.le_of_ble_eq_true rfl) dX2_keepAllRows_14 ⟨Nat.zero_le _, Nat.zero_le _⟩) hS (fun u H locs hp h hS => ?_)
        obtain rfl := hp
        refine lv_iinc (v := nI (j + 1)) (lv' := [(1, .int (nI (j + 1))), (0, .ref (a 0))]) hx hb dX2_keepAllRows_17 hl (k := 1) rfl (nI_1 j) (by decide) rfl (fun ls hl => ?_)
        refine lv_goto (tgt := 2) hx hb dX2_keepAllRows_20 (by decide) ?_
        exact ih (j + 1) _ _ _ _ (by omega) (by omega) (fun r p hr hp => by by_cases e : r = j; (rw [e, va_up_self]; simp [va_cpy, hp]); (rw [va_up_ne _ _ e]; exact hK r p (by omega) hp)) h hS (lv_sub hl [1, 0] rfl)
  refine lv_iconst (v := nI 0) hx hb dX2_keepAllRows_0 (by decide) ?_
  refine lv_istore_n (lv' := [(1, .int (nI 0)), (0, .ref (a 0))]) hx hb dX2_keepAllRows_1 rfl hl (by decide) rfl (fun ls hl => ?_)
  exact lp 9 0 Bz.2 _ _ _ (by omega) (by omega) (fun r p hr => absurd hr (by omega)) h hS (lv_sub hl [1, 0] rfl)

set_option maxHeartbeats 4000000 in
set_option maxRecDepth 100000 in
theorem c_restoreAllRows (l : Launch) (G : Gx) (a : Nat → Nat) (Bz : BS) : CtV l G 35 a (EB G a) yX2_restoreAllRows cX2_restoreAllRows 2 none 2 60 [.ref (a 0)] Bz (fun u => (uCe Bz.1 Bz.2, Bz.2) = u) := by
  refine ent_of (by decide) (Nat.le_of_ble_eq_true rfl) ?_
  intro p e s m below meth c ls C h hS hret hlk hl
  have C : Cx p s m _ c cX2_restoreAllRows RX2 2 G := C
  have hx := C.1
  have hb := C.2.1
  have hl : lv_has ls 2 [(0, .ref (a 0))] := hl
  have lp : ∀ (n : Nat) (j : Nat) (cz : Nat → Nat → Int64) (H : Heap) (locs : List Loc) (ls : Array Slot), (j ≤ 8) → (8 < j + n) → (∀ r p, r < j → p < 40 → cz r p = Bz.2 r p) →  HW G.1 35 a (EB G a ((uCe Bz.1 cz, Bz.2))) H → va_S (Aw 35 a) s.heap H locs → lv_has ls 2 [(0, .ref (a 0)), (1, .int (nI j))] → W p l e (rmB 2 60) s m ([.ref (a 0)].toArray) below meth c H locs 0 0 (MQ below (va_Qv (fun u => (uCe Bz.1 Bz.2, Bz.2) = u) (fun u t => HW G.1 35 a (EB G a u) t.heap) (Aw 35 a)) ([.ref (a 0)].toArray) s 0 0 (Aw 35 a)) (F0 m 2 ls []) := by
    intro n
    induction n with
    | zero =>
      intro j cz H locs ls hj hn hK
      exact absurd hn (by omega)
    | succ n ih =>
      intro j cz H locs ls hj hn hK h hS hl
      refine lv_iload_n hx hb dX2_restoreAllRows_2 rfl (lv_at hl 1 rfl) ?_
      refine lv_bipush (v := nI 8) hx hb dX2_restoreAllRows_3 (by decide) ?_
      refine lv_icmp_ge (tgt := 23) hx hb dX2_restoreAllRows_5 (by decide) (fun c5 => ?_) (fun c5 => ?_)
      · skip
        exact eV C hret hlk (uCe Bz.1 Bz.2, Bz.2) (HB_eq h ⟨fun _ _ => ⟨rfl, rfl⟩, fun t q ht hq => hK t q (by rw [nI_leI (by omega) (by omega)] at c5; omega) hq, fun _ _ _ _ => rfl, rfl, fun _ _ => rfl, fun _ _ => rfl, rfl, fun _ _ _ _ => rfl, rfl, fun _ _ => rfl, rfl⟩) hS rfl dX2_restoreAllRows_23
      · skip
        have hj8 : j < 8 := by rw [nI_leI (by omega) (by omega)] at c5; omega
        refine lv_aload_n hx hb dX2_restoreAllRows_8 rfl (lv_at hl 0 rfl) ?_
        refine fg_X2_11 C h dX2_restoreAllRows_9 ?_
        refine lv_iload_n hx hb dX2_restoreAllRows_12 rfl (lv_at hl 1 rfl) ?_
        refine al_rk C h (by first | assumption | omega) dX2_restoreAllRows_13 ?_
        refine kV (rVN (As := []) (rest := []) C h lk_X2_180 (j + 11) (by omega) (EB_r _ _ _ (by first | assumption | omega)) rfl rfl (c_restoreCells l G a _ j hj8) ⟨Nat.le_of_ble_eq_true rfl, Nat.le_of_ble_eq_true rfl⟩ hl.1 rfl rfl (Nat.le_of_ble_eq_true rfl) dX2_restoreAllRows_14 ⟨Nat.zero_le _, Nat.zero_le _⟩) hS (fun u H locs hp h hS => ?_)
        obtain rfl := hp
        refine lv_iinc (v := nI (j + 1)) (lv' := [(1, .int (nI (j + 1))), (0, .ref (a 0))]) hx hb dX2_restoreAllRows_17 hl (k := 1) rfl (nI_1 j) (by decide) rfl (fun ls hl => ?_)
        refine lv_goto (tgt := 2) hx hb dX2_restoreAllRows_20 (by decide) ?_
        exact ih (j + 1) _ _ _ _ (by omega) (by omega) (fun r p hr hp => by by_cases e : r = j; (rw [e, va_up_self]; simp [va_cpy, hp]); (rw [va_up_ne _ _ e]; exact hK r p (by omega) hp)) h hS (lv_sub hl [1, 0] rfl)
  refine lv_iconst (v := nI 0) hx hb dX2_restoreAllRows_0 (by decide) ?_
  refine lv_istore_n (lv' := [(1, .int (nI 0)), (0, .ref (a 0))]) hx hb dX2_restoreAllRows_1 rfl hl (by decide) rfl (fun ls hl => ?_)
  exact lp 9 0 (sCe Bz.1) _ _ _ (by omega) (by omega) (fun r p hr => absurd hr (by omega)) h hS (lv_sub hl [1, 0] rfl)

set_option maxHeartbeats 4000000 in
set_option maxRecDepth 100000 in
theorem c_moving (l : Launch) (G : Gx) (a : Nat → Nat) (Bz : BS) (hI : Inv Bz.1) (q r : Nat) (hq : q < 8) (hr : r < 8) (iz jz nz : Int64) (hi : sml iz) (hj : sml jz) (hn : sml nz) : CtI l G 35 a (EB G a) yX2_moving cX2_moving 10 (some .int) 3 70 [.ref (a 0), .ref (a (q + 11)), .long iz, .ref (a (r + 11)), .long jz, .long nz] Bz (fun v u => v = nI (movS Bz.1 q r iz jz nz).1 ∧ ((movS Bz.1 q r iz jz nz).2, Bz.2) = u) := by
  refine ent_of (by decide) (Nat.le_of_ble_eq_true rfl) ?_
  intro p e s m below meth c ls C h hS hret hlk hl
  have C : Cx p s m _ c cX2_moving RX2 10 G := C
  have hx := C.1
  have hb := C.2.1
  have hl : lv_has ls 10 [(0, .ref (a 0)), (1, .ref (a (q + 11))), (2, .long iz), (4, .ref (a (r + 11))), (5, .long jz), (7, .long nz)] := hl
  refine lv_aload_n hx hb dX2_moving_0 rfl (lv_at hl 1 rfl) ?_
  refine lv_ifnull hx hb dX2_moving_1 ?_
  refine lv_aload hx hb dX2_moving_4 (lv_at hl 3 rfl) ?_
  refine lv_ifnonnull (tgt := 11) hx hb dX2_moving_6 (by decide) ?_
  refine lv_aload_n hx hb dX2_moving_11 rfl (lv_at hl 0 rfl) ?_
  refine lv_iconst (v := nI 0) hx hb dX2_moving_12 (by decide) ?_
  refine fp_X2_37 C h hS dX2_moving_13 (fun H locs h hS => ?_)
  refine lv_aload_n hx hb dX2_moving_16 rfl (lv_at hl 1 rfl) ?_
  refine lv_lload_n hx hb dX2_moving_17 rfl (lv_at hl 2 rfl) ?_
  refine lv_aload hx hb dX2_moving_18 (lv_at hl 3 rfl) ?_
  refine lv_lload hx hb dX2_moving_20 (lv_at hl 4 rfl) ?_
  refine lv_lload hx hb dX2_moving_22 (lv_at hl 5 rfl) ?_
  refine kI (rS (As := [.ref (a (q + 11)), .long iz, .ref (a (r + 11)), .long jz, .long nz]) (rest := []) C h lk_X2_145 (c_hindrance l G a (uCm Bz.1 (nI 0), Bz.2) hI q r hq hr iz jz nz) ⟨Nat.le_of_ble_eq_true rfl, Nat.le_of_ble_eq_true rfl⟩ hl.1 rfl rfl (Nat.le_of_ble_eq_true rfl) dX2_moving_24 ⟨Nat.zero_le _, Nat.zero_le _⟩) hS (fun rv u H locs hp h hS => ?_)
  obtain ⟨rfl, rfl⟩ := hp
  refine lw_ti (show nI (hind (uCm Bz.1 (nI 0)) q r iz jz nz) = nI (hind Bz.1 q r iz jz nz) from rfl) ?_
  by_cases hh : hind Bz.1 q r iz jz nz = 0
  · refine lw_ti (show _ = nI 0 from congrArg nI hh) ?_
    obtain ⟨hE, h1, h2, h3⟩ := hind_0 hh
    obtain ⟨ii, kk, e1, e2, h4⟩ := strP_nat h1 hi hn (hI.1 q hq).2
    obtain ⟨jj, k2, e3, e4, h5⟩ := strP_nat h2 hj hn (hI.1 r hr).2
    have l1 := (hI.1 q hq).2
    have l2 := (hI.1 r hr).2
    subst e1
    subst e2
    subst e3
    have e4 := (lN_eq (by omega) (by omega)).mp e4
    subst e4
    have hc := come_le Bz.1 q r ii kk
    have hmv := movS_d hh (by omega) (by omega) (by omega)
    refine lv_istore (lv' := [(9, .int (nI 0)), (0, .ref (a 0)), (1, .ref (a (q + 11))), (2, .long (lN ii)), (4, .ref (a (r + 11))), (5, .long (lN jj)), (7, .long (lN kk))]) hx hb dX2_moving_27 hl (by decide) rfl (fun ls hl => ?_)
    refine lv_iload hx hb dX2_moving_29 (lv_at hl 0 rfl) ?_
    refine lv_if_ne (tgt := 89) hx hb dX2_moving_31 (by decide) (fun c0 => absurd c0 (by decide)) (fun _ => ?_)
    refine lv_aload_n hx hb dX2_moving_34 rfl (lv_at hl 1 rfl) ?_
    refine lv_aload_n hx hb dX2_moving_35 rfl (lv_at hl 1 rfl) ?_
    refine lv_aload_n hx hb dX2_moving_36 rfl (lv_at hl 2 rfl) ?_
    refine lv_lload_n hx hb dX2_moving_37 rfl (lv_at hl 3 rfl) ?_
    refine lv_l2i hx hb dX2_moving_38 rfl ?_
    refine lw_ti (lN_i _) ?_
    refine lv_aload hx hb dX2_moving_39 (lv_at hl 4 rfl) ?_
    refine lv_lload hx hb dX2_moving_41 (lv_at hl 6 rfl) ?_
    refine lv_l2i hx hb dX2_moving_43 rfl ?_
    refine lw_ti (lN_i _) ?_
    refine kI (rV (As := [.ref (a (q + 11)), .int (nI ii), .ref (a (r + 11)), .int (nI kk)]) (rest := [.ref (a 0)]) C h lk_X2_148 0 (by decide) rfl rfl rfl (c_mayCome l G a (uCm Bz.1 (nI 0), Bz.2) hI q r hq hr ii kk (by omega)) ⟨Nat.le_of_ble_eq_true rfl, Nat.le_of_ble_eq_true rfl⟩ hl.1 rfl rfl (Nat.le_of_ble_eq_true rfl) dX2_moving_44 ⟨Nat.zero_le _, Nat.zero_le _⟩) hS (fun rv u H locs hp h hS => ?_)
    obtain ⟨rfl, rfl⟩ := hp
    refine lw_ti (show nI (comeC (uCm Bz.1 (nI 0)) q r ii kk) = nI (comeC Bz.1 q r ii kk) from congrArg nI (come_cm _ _ _ _ _ _)) ?_
    refine fp_X2_37 C h hS dX2_moving_47 (fun H locs h hS => ?_)
    refine lv_aload_n hx hb dX2_moving_50 rfl (lv_at hl 2 rfl) ?_
    refine fg_X2_74 C h (by first | assumption | omega) dX2_moving_51 ?_
    refine lv_lload_n hx hb dX2_moving_54 rfl (lv_at hl 3 rfl) ?_
    refine lv_l2i hx hb dX2_moving_55 rfl ?_
    refine lw_ti (lN_i _) ?_
    refine lv_aload hx hb dX2_moving_56 (lv_at hl 4 rfl) ?_
    refine fg_X2_74 C h (by first | assumption | omega) dX2_moving_58 ?_
    refine lv_lload hx hb dX2_moving_61 (lv_at hl 5 rfl) ?_
    refine lv_l2i hx hb dX2_moving_63 rfl ?_
    refine lw_ti (lN_i _) ?_
    refine lv_aload_n hx hb dX2_moving_64 rfl (lv_at hl 1 rfl) ?_
    refine fg_X2_37 C h dX2_moving_65 ?_
    refine lw_ti (show (sCm ((uCm ((uCm Bz.1 (nI 0), Bz.2)).1 (nI (comeC Bz.1 q r ii kk)), ((uCm Bz.1 (nI 0), Bz.2)).2)).1 : Int32) = nI (comeC Bz.1 q r ii kk) from rfl) ?_
    refine cp_move (sp := ii) (dp := jj) (n := comeC Bz.1 q r ii kk) C hl.1 h hS hq hr (by omega) (by omega) (Nat.le_of_ble_eq_true rfl) (Nat.le_of_ble_eq_true rfl) dX2_moving_68 (fun H locs h hS => ?_)
    refine lv_aload_n hx hb dX2_moving_71 rfl (lv_at hl 1 rfl) ?_
    refine fg_X2_37 C h dX2_moving_72 ?_
    refine lw_ti (show (sCm ((uCe ((uCm ((uCm Bz.1 (nI 0), Bz.2)).1 (nI (comeC Bz.1 q r ii kk)), ((uCm Bz.1 (nI 0), Bz.2)).2)).1 (va_up (sCe ((uCm ((uCm Bz.1 (nI 0), Bz.2)).1 (nI (comeC Bz.1 q r ii kk)), ((uCm Bz.1 (nI 0), Bz.2)).2)).1) r (va_cpy (sCe ((uCm ((uCm Bz.1 (nI 0), Bz.2)).1 (nI (comeC Bz.1 q r ii kk)), ((uCm Bz.1 (nI 0), Bz.2)).2)).1 q) (sCe ((uCm ((uCm Bz.1 (nI 0), Bz.2)).1 (nI (comeC Bz.1 q r ii kk)), ((uCm Bz.1 (nI 0), Bz.2)).2)).1 r) ii jj (comeC Bz.1 q r ii kk))), ((uCm ((uCm Bz.1 (nI 0), Bz.2)).1 (nI (comeC Bz.1 q r ii kk)), ((uCm Bz.1 (nI 0), Bz.2)).2)).2)).1 : Int32) = nI (comeC Bz.1 q r ii kk) from rfl) ?_
    refine lv_i2l hx hb dX2_moving_75 rfl ?_
    refine lw_tl (nI_l (by omega)) ?_
    refine lv_lload hx hb dX2_moving_76 (lv_at hl 6 rfl) ?_
    refine W.lcmp hx hb dX2_moving_78 ?_
    refine lv_if_ge (tgt := 86) hx hb dX2_moving_79 (by decide) (fun c79 => ?_) (fun c79 => ?_)
    · have c79 := (lg_cmp_ge _ _).mp c79
      have hcc : ¬ comeC Bz.1 q r ii kk < kk := by rw [lN_le (by omega) (by omega)] at c79; omega
      refine lv_iconst (v := nI 0) hx hb dX2_moving_86 (by decide) ?_
      refine lv_istore (lv' := [(9, .int (nI 0)), (0, .ref (a 0)), (1, .ref (a (q + 11))), (2, .long (lN ii)), (4, .ref (a (r + 11))), (5, .long (lN jj)), (7, .long (lN kk))]) hx hb dX2_moving_87 hl (by decide) rfl (fun ls hl => ?_)
      refine lv_aload_n hx hb dX2_moving_89 rfl (lv_at hl 1 rfl) ?_
      refine fg_X2_30 C h dX2_moving_90 ?_
      refine lv_iload hx hb dX2_moving_93 (lv_at hl 0 rfl) ?_
      refine lv_dup2_11 hx hb dX2_moving_95 rfl rfl ?_
      refine al_mv C h (by decide) dX2_moving_96 ?_
      refine lw_ti (show (sMv ((uCe ((uCm ((uCm Bz.1 (nI 0), Bz.2)).1 (nI (comeC Bz.1 q r ii kk)), ((uCm Bz.1 (nI 0), Bz.2)).2)).1 (va_up (sCe ((uCm ((uCm Bz.1 (nI 0), Bz.2)).1 (nI (comeC Bz.1 q r ii kk)), ((uCm Bz.1 (nI 0), Bz.2)).2)).1) r (va_cpy (sCe ((uCm ((uCm Bz.1 (nI 0), Bz.2)).1 (nI (comeC Bz.1 q r ii kk)), ((uCm Bz.1 (nI 0), Bz.2)).2)).1 q) (sCe ((uCm ((uCm Bz.1 (nI 0), Bz.2)).1 (nI (comeC Bz.1 q r ii kk)), ((uCm Bz.1 (nI 0), Bz.2)).2)).1 r) ii jj (comeC Bz.1 q r ii kk))), ((uCm ((uCm Bz.1 (nI 0), Bz.2)).1 (nI (comeC Bz.1 q r ii kk)), ((uCm Bz.1 (nI 0), Bz.2)).2)).2)).1 0 : Int32) = (sMv Bz.1) 0 from rfl) ?_
      refine lv_iconst (v := nI 1) hx hb dX2_moving_97 (by decide) ?_
      refine lv_iadd hx hb dX2_moving_98 ?_
      refine as_mv C h hS (by decide) dX2_moving_99 (fun H locs h hS => ?_)
      refine lv_iload hx hb dX2_moving_100 (lv_at hl 0 rfl) ?_
      exact eI C hret hlk ((uMv ((uCe ((uCm ((uCm Bz.1 (nI 0), Bz.2)).1 (nI (comeC Bz.1 q r ii kk)), ((uCm Bz.1 (nI 0), Bz.2)).2)).1 (va_up (sCe ((uCm ((uCm Bz.1 (nI 0), Bz.2)).1 (nI (comeC Bz.1 q r ii kk)), ((uCm Bz.1 (nI 0), Bz.2)).2)).1) r (va_cpy (sCe ((uCm ((uCm Bz.1 (nI 0), Bz.2)).1 (nI (comeC Bz.1 q r ii kk)), ((uCm Bz.1 (nI 0), Bz.2)).2)).1 q) (sCe ((uCm ((uCm Bz.1 (nI 0), Bz.2)).1 (nI (comeC Bz.1 q r ii kk)), ((uCm Bz.1 (nI 0), Bz.2)).2)).1 r) ii jj (comeC Bz.1 q r ii kk))), ((uCm ((uCm Bz.1 (nI 0), Bz.2)).1 (nI (comeC Bz.1 q r ii kk)), ((uCm Bz.1 (nI 0), Bz.2)).2)).2)).1 (upd (sMv ((uCe ((uCm ((uCm Bz.1 (nI 0), Bz.2)).1 (nI (comeC Bz.1 q r ii kk)), ((uCm Bz.1 (nI 0), Bz.2)).2)).1 (va_up (sCe ((uCm ((uCm Bz.1 (nI 0), Bz.2)).1 (nI (comeC Bz.1 q r ii kk)), ((uCm Bz.1 (nI 0), Bz.2)).2)).1) r (va_cpy (sCe ((uCm ((uCm Bz.1 (nI 0), Bz.2)).1 (nI (comeC Bz.1 q r ii kk)), ((uCm Bz.1 (nI 0), Bz.2)).2)).1 q) (sCe ((uCm ((uCm Bz.1 (nI 0), Bz.2)).1 (nI (comeC Bz.1 q r ii kk)), ((uCm Bz.1 (nI 0), Bz.2)).2)).1 r) ii jj (comeC Bz.1 q r ii kk))), ((uCm ((uCm Bz.1 (nI 0), Bz.2)).1 (nI (comeC Bz.1 q r ii kk)), ((uCm Bz.1 (nI 0), Bz.2)).2)).2)).1) 0 (((sMv Bz.1) 0) + (nI 1))), ((uCe ((uCm ((uCm Bz.1 (nI 0), Bz.2)).1 (nI (comeC Bz.1 q r ii kk)), ((uCm Bz.1 (nI 0), Bz.2)).2)).1 (va_up (sCe ((uCm ((uCm Bz.1 (nI 0), Bz.2)).1 (nI (comeC Bz.1 q r ii kk)), ((uCm Bz.1 (nI 0), Bz.2)).2)).1) r (va_cpy (sCe ((uCm ((uCm Bz.1 (nI 0), Bz.2)).1 (nI (comeC Bz.1 q r ii kk)), ((uCm Bz.1 (nI 0), Bz.2)).2)).1 q) (sCe ((uCm ((uCm Bz.1 (nI 0), Bz.2)).1 (nI (comeC Bz.1 q r ii kk)), ((uCm Bz.1 (nI 0), Bz.2)).2)).1 r) ii jj (comeC Bz.1 q r ii kk))), ((uCm ((uCm Bz.1 (nI 0), Bz.2)).1 (nI (comeC Bz.1 q r ii kk)), ((uCm Bz.1 (nI 0), Bz.2)).2)).2)).2)) h hS (⟨by rw [hmv]; unfold movD; rw [if_neg hcc], by rw [hmv]; unfold movD; rw [if_neg hcc]⟩) dX2_moving_102
    · have c79 : ¬ (lN kk) ≤ (lN (comeC Bz.1 q r ii kk)) := fun q => c79 ((lg_cmp_ge _ _).mpr q)
      have hcc : comeC Bz.1 q r ii kk < kk := by rw [lN_le (by omega) (by omega)] at c79; omega
      refine lv_iconst (v := nI 4) hx hb dX2_moving_82 (by decide) ?_
      refine lv_goto (tgt := 87) hx hb dX2_moving_83 (by decide) ?_
      refine lv_istore (lv' := [(9, .int (nI 4)), (0, .ref (a 0)), (1, .ref (a (q + 11))), (2, .long (lN ii)), (4, .ref (a (r + 11))), (5, .long (lN jj)), (7, .long (lN kk))]) hx hb dX2_moving_87 hl (by decide) rfl (fun ls hl => ?_)
      refine lv_aload_n hx hb dX2_moving_89 rfl (lv_at hl 1 rfl) ?_
      refine fg_X2_30 C h dX2_moving_90 ?_
      refine lv_iload hx hb dX2_moving_93 (lv_at hl 0 rfl) ?_
      refine lv_dup2_11 hx hb dX2_moving_95 rfl rfl ?_
      refine al_mv C h (by decide) dX2_moving_96 ?_
      refine lw_ti (show (sMv ((uCe ((uCm ((uCm Bz.1 (nI 0), Bz.2)).1 (nI (comeC Bz.1 q r ii kk)), ((uCm Bz.1 (nI 0), Bz.2)).2)).1 (va_up (sCe ((uCm ((uCm Bz.1 (nI 0), Bz.2)).1 (nI (comeC Bz.1 q r ii kk)), ((uCm Bz.1 (nI 0), Bz.2)).2)).1) r (va_cpy (sCe ((uCm ((uCm Bz.1 (nI 0), Bz.2)).1 (nI (comeC Bz.1 q r ii kk)), ((uCm Bz.1 (nI 0), Bz.2)).2)).1 q) (sCe ((uCm ((uCm Bz.1 (nI 0), Bz.2)).1 (nI (comeC Bz.1 q r ii kk)), ((uCm Bz.1 (nI 0), Bz.2)).2)).1 r) ii jj (comeC Bz.1 q r ii kk))), ((uCm ((uCm Bz.1 (nI 0), Bz.2)).1 (nI (comeC Bz.1 q r ii kk)), ((uCm Bz.1 (nI 0), Bz.2)).2)).2)).1 4 : Int32) = (sMv Bz.1) 4 from rfl) ?_
      refine lv_iconst (v := nI 1) hx hb dX2_moving_97 (by decide) ?_
      refine lv_iadd hx hb dX2_moving_98 ?_
      refine as_mv C h hS (by decide) dX2_moving_99 (fun H locs h hS => ?_)
      refine lv_iload hx hb dX2_moving_100 (lv_at hl 0 rfl) ?_
      exact eI C hret hlk ((uMv ((uCe ((uCm ((uCm Bz.1 (nI 0), Bz.2)).1 (nI (comeC Bz.1 q r ii kk)), ((uCm Bz.1 (nI 0), Bz.2)).2)).1 (va_up (sCe ((uCm ((uCm Bz.1 (nI 0), Bz.2)).1 (nI (comeC Bz.1 q r ii kk)), ((uCm Bz.1 (nI 0), Bz.2)).2)).1) r (va_cpy (sCe ((uCm ((uCm Bz.1 (nI 0), Bz.2)).1 (nI (comeC Bz.1 q r ii kk)), ((uCm Bz.1 (nI 0), Bz.2)).2)).1 q) (sCe ((uCm ((uCm Bz.1 (nI 0), Bz.2)).1 (nI (comeC Bz.1 q r ii kk)), ((uCm Bz.1 (nI 0), Bz.2)).2)).1 r) ii jj (comeC Bz.1 q r ii kk))), ((uCm ((uCm Bz.1 (nI 0), Bz.2)).1 (nI (comeC Bz.1 q r ii kk)), ((uCm Bz.1 (nI 0), Bz.2)).2)).2)).1 (upd (sMv ((uCe ((uCm ((uCm Bz.1 (nI 0), Bz.2)).1 (nI (comeC Bz.1 q r ii kk)), ((uCm Bz.1 (nI 0), Bz.2)).2)).1 (va_up (sCe ((uCm ((uCm Bz.1 (nI 0), Bz.2)).1 (nI (comeC Bz.1 q r ii kk)), ((uCm Bz.1 (nI 0), Bz.2)).2)).1) r (va_cpy (sCe ((uCm ((uCm Bz.1 (nI 0), Bz.2)).1 (nI (comeC Bz.1 q r ii kk)), ((uCm Bz.1 (nI 0), Bz.2)).2)).1 q) (sCe ((uCm ((uCm Bz.1 (nI 0), Bz.2)).1 (nI (comeC Bz.1 q r ii kk)), ((uCm Bz.1 (nI 0), Bz.2)).2)).1 r) ii jj (comeC Bz.1 q r ii kk))), ((uCm ((uCm Bz.1 (nI 0), Bz.2)).1 (nI (comeC Bz.1 q r ii kk)), ((uCm Bz.1 (nI 0), Bz.2)).2)).2)).1) 4 (((sMv Bz.1) 4) + (nI 1))), ((uCe ((uCm ((uCm Bz.1 (nI 0), Bz.2)).1 (nI (comeC Bz.1 q r ii kk)), ((uCm Bz.1 (nI 0), Bz.2)).2)).1 (va_up (sCe ((uCm ((uCm Bz.1 (nI 0), Bz.2)).1 (nI (comeC Bz.1 q r ii kk)), ((uCm Bz.1 (nI 0), Bz.2)).2)).1) r (va_cpy (sCe ((uCm ((uCm Bz.1 (nI 0), Bz.2)).1 (nI (comeC Bz.1 q r ii kk)), ((uCm Bz.1 (nI 0), Bz.2)).2)).1 q) (sCe ((uCm ((uCm Bz.1 (nI 0), Bz.2)).1 (nI (comeC Bz.1 q r ii kk)), ((uCm Bz.1 (nI 0), Bz.2)).2)).1 r) ii jj (comeC Bz.1 q r ii kk))), ((uCm ((uCm Bz.1 (nI 0), Bz.2)).1 (nI (comeC Bz.1 q r ii kk)), ((uCm Bz.1 (nI 0), Bz.2)).2)).2)).2)) h hS (⟨by rw [hmv]; unfold movD; rw [if_pos hcc], by rw [hmv]; unfold movD; rw [if_pos hcc]⟩) dX2_moving_102
  · have hle := hind_le Bz.1 q r iz jz nz
    have hmv := movS_n hh
    refine lv_istore (lv' := [(9, .int (nI (hind Bz.1 q r iz jz nz))), (0, .ref (a 0)), (1, .ref (a (q + 11))), (2, .long iz), (4, .ref (a (r + 11))), (5, .long jz), (7, .long nz)]) hx hb dX2_moving_27 hl (by decide) rfl (fun ls hl => ?_)
    refine lv_iload hx hb dX2_moving_29 (lv_at hl 0 rfl) ?_
    refine lv_if_ne (tgt := 89) hx hb dX2_moving_31 (by decide) (fun c31 => ?_) (fun c0 => absurd c0 (show _ = (0 : Int32) → False from fun z => hh ((nI_z (by omega)).mp z)))
    refine lv_aload_n hx hb dX2_moving_89 rfl (lv_at hl 1 rfl) ?_
    refine fg_X2_30 C h dX2_moving_90 ?_
    refine lv_iload hx hb dX2_moving_93 (lv_at hl 0 rfl) ?_
    refine lv_dup2_11 hx hb dX2_moving_95 rfl rfl ?_
    refine al_mv C h (by omega) dX2_moving_96 ?_
    refine lw_ti (show (sMv ((uCm Bz.1 (nI 0), Bz.2)).1 (hind Bz.1 q r iz jz nz) : Int32) = (sMv Bz.1) (hind Bz.1 q r iz jz nz) from rfl) ?_
    refine lv_iconst (v := nI 1) hx hb dX2_moving_97 (by decide) ?_
    refine lv_iadd hx hb dX2_moving_98 ?_
    refine as_mv C h hS (by omega) dX2_moving_99 (fun H locs h hS => ?_)
    refine lv_iload hx hb dX2_moving_100 (lv_at hl 0 rfl) ?_
    exact eI C hret hlk ((uMv ((uCm Bz.1 (nI 0), Bz.2)).1 (upd (sMv ((uCm Bz.1 (nI 0), Bz.2)).1) (hind Bz.1 q r iz jz nz) (((sMv Bz.1) (hind Bz.1 q r iz jz nz)) + (nI 1))), ((uCm Bz.1 (nI 0), Bz.2)).2)) h hS (⟨by rw [hmv]; rfl, by rw [hmv]; rfl⟩) dX2_moving_102
