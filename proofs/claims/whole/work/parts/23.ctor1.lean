section RK
variable {p : Program} {l : Launch} {e : Env} {R : Room} {s : State} {m : MethodId} {args : Array Value} {below : List Frame} {meth : Method} {c : Code} {H : Heap} {locs : List Loc} {cells slots : Nat} {Q : State → Prop}
variable {cc : ByteArray} {own : String} {nL : Nat} {G : Gx} {pc : Nat} {ls : Array Slot} {rest : List Value} {ws : va_W} {A : Nat → Prop} {H0 : Heap} {σ : Type} {W1 : σ → va_W} {y : MethodName} {cy : ByteArray} {n f lo mc ms index q : Nat} {e0 : va_E}
theorem preK_blind : FrameBlind (va_Pc [Value.ref q] (PreK G q e0 n)) := fun a U g mk z => by
  obtain ⟨z0, z1, zP, zK, zN, zO⟩ := z
  exact ⟨z0, z1, zP, va_K.moved (u := U) (U := U.calling g mk a) (Vm.Alike.refl U.vm) zK, zN.call, va_AO.moved (u := U) (U := U.calling g mk a) (Vm.Alike.refl U.vm) zO⟩
theorem preK (C : Cx p s m args c cc own nL G) (hO : va_AO RX1 s) (hP : va_P G.1 vwCl (ws ++ [(q, e0)]) H) : PreS s H (va_Pc [Value.ref q] (PreK G q e0 H.size)) [Value.ref q] :=
  ⟨preK_blind, fun U hU hW => ⟨rfl, by rw [hU], by
    rw [hU]
    intro k x hx
    have hz : k < 1 := (List.getElem?_eq_some_iff.mp hx).1
    rw [show k = 0 by omega] at hx
    exact hP ws.length x (by rw [List.getElem?_append_right (Nat.le_refl _), Nat.sub_self]; exact hx), va_K.moved hW.alike C.2.2.2.2.2.1, Nest.warm hW C.2.2.2.2.2.2, va_AO.moved hW.alike hO⟩⟩
theorem bK {kk : Nat} (C : Cx p s m args c cc own nL G) (h1 : Cond.code y cy n none ∈ wsL_law) : GoodIn wsL_law (.code y cy n none :: wsL_law) := fun w hw => by
  rcases List.mem_cons.mp hw with rfl | h
  · exact ⟨h1, (law_good _ h1).2⟩
  · exact ⟨h, (law_good _ h).2⟩
theorem endK (hr : va_Run p l e R s m args below meth c H locs cells slots mc ms (F0 m pc ls (.ref q :: rest)) rest (va_Qv (fun _ : σ => True) (fun u t => va_P G.1 vwCl (W1 u) t.heap ∧ va_D (va_A [(q, e0)] H.size) (W1 u)) (va_A [(q, e0)] H.size) [Value.ref q].toArray) (va_A [(q, e0)] H.size)) (hP : va_P G.1 vwCl (ws ++ [(q, e0)]) H) (hD : va_D A (ws ++ [(q, e0)])) (hS : va_S A H0 H locs) (hA : ∀ q, H0.size ≤ q → A q)
    (kk : ∀ (u : σ) (H1 : Heap) (locs1 : List Loc), va_P G.1 vwCl (ws ++ W1 u) H1 → va_D A (ws ++ W1 u) → va_S A H0 H1 locs1 → W p l e R s m args below meth c H1 locs1 (cells + mc) (slots + ms) Q (F0 m (pc + 3) ls rest)) : W p l e R s m args below meth c H locs cells slots Q (F0 m pc ls (.ref q :: rest)) := by
  have hF := freeLast hD hS hA
  refine va_callv hr hS (fun x _ h => hF x h) hF (fun u t H1 l1 ht _ _ hB _ hk hS1 => ?_)
  obtain ⟨hP1, hD1⟩ := hB
  rw [ht] at hP1
  obtain ⟨hP2, hD2⟩ := joinLast hP hD hk hF hP1 hD1
  exact kk u H1 l1 hP2 hD2 hS1
theorem rKN (C : Cx p s m args c cc own nL G) (hO : va_AO RX1 s) (hP : va_P G.1 vwCl (ws ++ [(q, e0)]) H) (hD : va_D A (ws ++ [(q, e0)])) (hS : va_S A H0 H locs) (hA : ∀ q, H0.size ≤ q → A q) (h1 : Cond.code y cy n none ∈ wsL_law) (h2 : Cond.initialized y.cls ∈ wsL_law) (h3 : Cond.methodLinkNest own index y "BeadLoom" ∈ nestW) (h4 : Cond.instanceMethod y ∈ wsL_law) (hy : y.name = "<init>") (hd : y.cls ≠ "java/lang/invoke/MethodHandle" ∧ y.cls ≠ "java/lang/invoke/VarHandle" ∧ (parseMethodDescriptor y.desc).map (fun d => d.parameters.length) = some 0)
    (hM : CtK l G y cy n f lo mc ms q e0 H.size W1) (hR : f + 1 ≤ R.frames ∧ 8 + (n + 11) + lo ≤ R.locals) (hls : ls.size = nL) (hW : (rest.map fun v => v.category).sum ≤ 8) (hdg : decode cc pc = .ok (.invokespecial index, 3)) (hf : cells + mc ≤ R.cells ∧ slots + ms ≤ R.slots)
    (kk : ∀ (u : σ) (H1 : Heap) (locs1 : List Loc), va_P G.1 vwCl (ws ++ W1 u) H1 → va_D A (ws ++ W1 u) → va_S A H0 H1 locs1 → W p l e R s m args below meth c H1 locs1 (cells + mc) (slots + ms) Q (F0 m (pc + 3) ls rest)) : W p l e R s m args below meth c H locs cells slots Q (F0 m pc ls (.ref q :: rest)) :=
  endK (va_runIN (n := 0) (As := []) (rest := rest) (Ts := wsL_law) ⟨C.1, C.2.1, C.2.2.1, C.2.2.2.1, C.2.2.2.2.1⟩ hM ⟨va_cnB 0 (Ts := wsL_law) C.2.2.2.2.1 (bK (kk := 0) C h1) rfl rfl rfl (C.2.2.2.2.2.2 _ h3) (C.2.2.2.2.1 _ h2) hd hR, hy, C.2.2.2.2.1 _ h4⟩ (preK C hO hP) rfl rfl hls rfl (lv_room hW) hdg hf) hP hD hS hA kk
theorem rKI (C : Cx p s m args c cc own nL G) (hO : va_AO RX1 s) (hP : va_P G.1 vwCl (ws ++ [(q, e0)]) H) (hD : va_D A (ws ++ [(q, e0)])) (hS : va_S A H0 H locs) (hA : ∀ q, H0.size ≤ q → A q) (h1 : Cond.code y cy n none ∈ wsL_law) (h2 : Cond.initialized y.cls ∈ wsL_law) (h3 : Cond.methodLink own index y ∈ wsL_law) (h4 : Cond.instanceMethod y ∈ wsL_law) (hy : y.name = "<init>") (hd : y.cls ≠ "java/lang/invoke/MethodHandle" ∧ y.cls ≠ "java/lang/invoke/VarHandle" ∧ (parseMethodDescriptor y.desc).map (fun d => d.parameters.length) = some 0)
    (hM : CtK l G y cy n f lo mc ms q e0 H.size W1) (hR : f + 1 ≤ R.frames ∧ 8 + (n + 11) + lo ≤ R.locals) (hls : ls.size = nL) (hW : (rest.map fun v => v.category).sum ≤ 8) (hdg : decode cc pc = .ok (.invokespecial index, 3)) (hf : cells + mc ≤ R.cells ∧ slots + ms ≤ R.slots)
    (kk : ∀ (u : σ) (H1 : Heap) (locs1 : List Loc), va_P G.1 vwCl (ws ++ W1 u) H1 → va_D A (ws ++ W1 u) → va_S A H0 H1 locs1 → W p l e R s m args below meth c H1 locs1 (cells + mc) (slots + ms) Q (F0 m (pc + 3) ls rest)) : W p l e R s m args below meth c H locs cells slots Q (F0 m pc ls (.ref q :: rest)) :=
  endK (va_runI (n := 0) (As := []) (rest := rest) (Ts := wsL_law) ⟨C.1, C.2.1, C.2.2.1, C.2.2.2.1, C.2.2.2.2.1⟩ hM ⟨callB_of 0 (Ts := wsL_law) C.2.2.2.2.1 (bK (kk := 0) C h1) rfl rfl rfl (C.2.2.2.2.1 _ h2) (C.2.2.2.2.1 _ h3) hd hR, hy, C.2.2.2.2.1 _ h4⟩ (preK C hO hP) rfl rfl hls rfl (lv_room hW) hdg hf) hP hD hS hA kk
end RK

abbrev w0_Pat (G : Gx) (h0 : Nat) (q : Nat × Nat × Nat × Nat × Nat) : va_W := [(h0, .inr (0, [.ref q.1, .ref q.2.1, .ref q.2.2.1, .ref q.2.2.2.1, .ref q.2.2.2.2, .int (nI 0)])), (q.1, .inl (G.2 0, 24, .inl (fun _ => 0))), (q.2.1, .inl (G.2 0, 24, .inl (fun _ => 0))), (q.2.2.1, .inl (G.2 0, 24, .inl (fun _ => 0))), (q.2.2.2.1, .inl (G.2 0, 24, .inl (fun _ => 0))), (q.2.2.2.2, .inl (G.2 0, 24, .inl (fun _ => 0)))]
abbrev w0_Rk (G : Gx) (h0 : Nat) (q : Nat × Nat) : va_W := [(h0, .inr (1, [.ref q.1, .ref q.2, .int (nI 0), .int (nI 0)])), (q.1, .inl (G.2 1, 40, .inr (.inl (fun _ => 0)))), (q.2, .inl (G.2 1, 40, .inr (.inl (fun _ => 0))))]
set_option maxHeartbeats 4000000 in
set_option maxRecDepth 100000 in
theorem c_X0_init (l : Launch) (G : Gx) (h0 sz : Nat) : CtK (σ := Nat × Nat × Nat × Nat × Nat) l G yX0_init cX0_init 1 1 20 5 120 h0 (.inr (0, [.null, .null, .null, .null, .null, .int 0])) sz (w0_Pat G h0) := by
  refine ent_K (by decide) rfl (Nat.le_of_ble_eq_true rfl) ?_
  intro p e s m below meth c ls A hAe C hO hin hP hD hS hA hret hlk hl
  have C : Cx p s m _ c cX0_init RX0 1 G := C
  have hx := C.1
  have hb := C.2.1
  have hl : lv_has ls 1 [(0, .ref h0)] := hl
  have hP : va_P G.1 vwCl [(h0, .inr (0, [.null, .null, .null, .null, .null, .int 0]))] s.heap := hP
  have hD : va_D A [(h0, .inr (0, [.null, .null, .null, .null, .null, .int 0]))] := hD
  refine lv_aload_n hx hb dX0_init_0 rfl (lv_at hl 0 rfl) ?_
  refine W.objInit hx hb C.2.2.2.1 (C.2.2.2.2.1 (.methodLink RX0 3 objectInit) (List.mem_of_getElem? (i := 31) rfl)) (C.2.2.2.2.1 (.instanceMethod objectInit) (List.mem_of_getElem? (i := 11) rfl)) (C.2.2.2.2.1 (.code objectInit ⟨#[0xb1]⟩ 1 none) (List.mem_of_getElem? (i := 12) rfl)) rfl (by rw [C.2.2.1]; exact hl.1) rfl dX0_init_1 (Nat.le_of_ble_eq_true rfl) (Nat.le_of_ble_eq_true rfl) ?_
  refine W.eq (g2 := F0 m 4 ls []) rfl ?_
  refine lv_aload_n hx hb dX0_init_4 rfl (lv_at hl 0 rfl) ?_
  refine lv_bipush (v := nI 24) hx hb dX0_init_5 (by decide) ?_
  refine kn_i (n := 24) C hP hD hS hA (by decide) (Nat.le_of_ble_eq_true rfl) (Nat.le_of_ble_eq_true rfl) dX0_init_7 (fun q1 H hP hD hS => ?_)
  have hP : va_P G.1 vwCl [(h0, .inr (0, [.null, .null, .null, .null, .null, .int 0])), (q1, .inl (G.2 0, 24, .inl (fun _ => 0)))] H := hP
  have hD : va_D A [(h0, .inr (0, [.null, .null, .null, .null, .null, .int 0])), (q1, .inl (G.2 0, 24, .inl (fun _ => 0)))] := hD
  refine W.widen (k := 1) (n := 24) (Nat.le_of_ble_eq_true rfl) (Nat.le_of_ble_eq_true rfl) ?_
  refine kp_F (ty := .array .int) C hP hD hS hin 0 rfl inlX0 tyX0 tyX0_ok nmX0 rfl 0 (by decide) (List.mem_of_getElem? (i := 32) rfl) rfl rfl (by decide +kernel) rfl rfl (Nat.le_of_ble_eq_true rfl) dX0_init_9 (fun H locs hP hD hS => ?_)
  have hP : va_P G.1 vwCl [(h0, .inr (0, [.ref q1, .null, .null, .null, .null, .int 0])), (q1, .inl (G.2 0, 24, .inl (fun _ => 0)))] H := hP
  have hD : va_D A [(h0, .inr (0, [.ref q1, .null, .null, .null, .null, .int 0])), (q1, .inl (G.2 0, 24, .inl (fun _ => 0)))] := hD
  refine lv_aload_n hx hb dX0_init_12 rfl (lv_at hl 0 rfl) ?_
  refine lv_bipush (v := nI 24) hx hb dX0_init_13 (by decide) ?_
  refine kn_i (n := 24) C hP hD hS hA (by decide) (Nat.le_of_ble_eq_true rfl) (Nat.le_of_ble_eq_true rfl) dX0_init_15 (fun q2 H hP hD hS => ?_)
  have hP : va_P G.1 vwCl [(h0, .inr (0, [.ref q1, .null, .null, .null, .null, .int 0])), (q1, .inl (G.2 0, 24, .inl (fun _ => 0))), (q2, .inl (G.2 0, 24, .inl (fun _ => 0)))] H := hP
  have hD : va_D A [(h0, .inr (0, [.ref q1, .null, .null, .null, .null, .int 0])), (q1, .inl (G.2 0, 24, .inl (fun _ => 0))), (q2, .inl (G.2 0, 24, .inl (fun _ => 0)))] := hD
  refine W.widen (k := 2) (n := 48) (Nat.le_of_ble_eq_true rfl) (Nat.le_of_ble_eq_true rfl) ?_
  refine kp_F (ty := .array .int) C hP hD hS hin 0 rfl inlX0 tyX0 tyX0_ok nmX0 rfl 1 (by decide) (List.mem_of_getElem? (i := 33) rfl) rfl rfl (by decide +kernel) rfl rfl (Nat.le_of_ble_eq_true rfl) dX0_init_17 (fun H locs hP hD hS => ?_)
  have hP : va_P G.1 vwCl [(h0, .inr (0, [.ref q1, .ref q2, .null, .null, .null, .int 0])), (q1, .inl (G.2 0, 24, .inl (fun _ => 0))), (q2, .inl (G.2 0, 24, .inl (fun _ => 0)))] H := hP
  have hD : va_D A [(h0, .inr (0, [.ref q1, .ref q2, .null, .null, .null, .int 0])), (q1, .inl (G.2 0, 24, .inl (fun _ => 0))), (q2, .inl (G.2 0, 24, .inl (fun _ => 0)))] := hD
  refine lv_aload_n hx hb dX0_init_20 rfl (lv_at hl 0 rfl) ?_
  refine lv_bipush (v := nI 24) hx hb dX0_init_21 (by decide) ?_
  refine kn_i (n := 24) C hP hD hS hA (by decide) (Nat.le_of_ble_eq_true rfl) (Nat.le_of_ble_eq_true rfl) dX0_init_23 (fun q3 H hP hD hS => ?_)
  have hP : va_P G.1 vwCl [(h0, .inr (0, [.ref q1, .ref q2, .null, .null, .null, .int 0])), (q1, .inl (G.2 0, 24, .inl (fun _ => 0))), (q2, .inl (G.2 0, 24, .inl (fun _ => 0))), (q3, .inl (G.2 0, 24, .inl (fun _ => 0)))] H := hP
  have hD : va_D A [(h0, .inr (0, [.ref q1, .ref q2, .null, .null, .null, .int 0])), (q1, .inl (G.2 0, 24, .inl (fun _ => 0))), (q2, .inl (G.2 0, 24, .inl (fun _ => 0))), (q3, .inl (G.2 0, 24, .inl (fun _ => 0)))] := hD
  refine W.widen (k := 3) (n := 72) (Nat.le_of_ble_eq_true rfl) (Nat.le_of_ble_eq_true rfl) ?_
  refine kp_F (ty := .array .int) C hP hD hS hin 0 rfl inlX0 tyX0 tyX0_ok nmX0 rfl 2 (by decide) (List.mem_of_getElem? (i := 34) rfl) rfl rfl (by decide +kernel) rfl rfl (Nat.le_of_ble_eq_true rfl) dX0_init_25 (fun H locs hP hD hS => ?_)
  have hP : va_P G.1 vwCl [(h0, .inr (0, [.ref q1, .ref q2, .ref q3, .null, .null, .int 0])), (q1, .inl (G.2 0, 24, .inl (fun _ => 0))), (q2, .inl (G.2 0, 24, .inl (fun _ => 0))), (q3, .inl (G.2 0, 24, .inl (fun _ => 0)))] H := hP
  have hD : va_D A [(h0, .inr (0, [.ref q1, .ref q2, .ref q3, .null, .null, .int 0])), (q1, .inl (G.2 0, 24, .inl (fun _ => 0))), (q2, .inl (G.2 0, 24, .inl (fun _ => 0))), (q3, .inl (G.2 0, 24, .inl (fun _ => 0)))] := hD
  refine lv_aload_n hx hb dX0_init_28 rfl (lv_at hl 0 rfl) ?_
  refine lv_bipush (v := nI 24) hx hb dX0_init_29 (by decide) ?_
  refine kn_i (n := 24) C hP hD hS hA (by decide) (Nat.le_of_ble_eq_true rfl) (Nat.le_of_ble_eq_true rfl) dX0_init_31 (fun q4 H hP hD hS => ?_)
  have hP : va_P G.1 vwCl [(h0, .inr (0, [.ref q1, .ref q2, .ref q3, .null, .null, .int 0])), (q1, .inl (G.2 0, 24, .inl (fun _ => 0))), (q2, .inl (G.2 0, 24, .inl (fun _ => 0))), (q3, .inl (G.2 0, 24, .inl (fun _ => 0))), (q4, .inl (G.2 0, 24, .inl (fun _ => 0)))] H := hP
  have hD : va_D A [(h0, .inr (0, [.ref q1, .ref q2, .ref q3, .null, .null, .int 0])), (q1, .inl (G.2 0, 24, .inl (fun _ => 0))), (q2, .inl (G.2 0, 24, .inl (fun _ => 0))), (q3, .inl (G.2 0, 24, .inl (fun _ => 0))), (q4, .inl (G.2 0, 24, .inl (fun _ => 0)))] := hD
  refine W.widen (k := 4) (n := 96) (Nat.le_of_ble_eq_true rfl) (Nat.le_of_ble_eq_true rfl) ?_
  refine kp_F (ty := .array .int) C hP hD hS hin 0 rfl inlX0 tyX0 tyX0_ok nmX0 rfl 3 (by decide) (List.mem_of_getElem? (i := 35) rfl) rfl rfl (by decide +kernel) rfl rfl (Nat.le_of_ble_eq_true rfl) dX0_init_33 (fun H locs hP hD hS => ?_)
  have hP : va_P G.1 vwCl [(h0, .inr (0, [.ref q1, .ref q2, .ref q3, .ref q4, .null, .int 0])), (q1, .inl (G.2 0, 24, .inl (fun _ => 0))), (q2, .inl (G.2 0, 24, .inl (fun _ => 0))), (q3, .inl (G.2 0, 24, .inl (fun _ => 0))), (q4, .inl (G.2 0, 24, .inl (fun _ => 0)))] H := hP
  have hD : va_D A [(h0, .inr (0, [.ref q1, .ref q2, .ref q3, .ref q4, .null, .int 0])), (q1, .inl (G.2 0, 24, .inl (fun _ => 0))), (q2, .inl (G.2 0, 24, .inl (fun _ => 0))), (q3, .inl (G.2 0, 24, .inl (fun _ => 0))), (q4, .inl (G.2 0, 24, .inl (fun _ => 0)))] := hD
  refine lv_aload_n hx hb dX0_init_36 rfl (lv_at hl 0 rfl) ?_
  refine lv_bipush (v := nI 24) hx hb dX0_init_37 (by decide) ?_
  refine kn_i (n := 24) C hP hD hS hA (by decide) (Nat.le_of_ble_eq_true rfl) (Nat.le_of_ble_eq_true rfl) dX0_init_39 (fun q5 H hP hD hS => ?_)
  have hP : va_P G.1 vwCl [(h0, .inr (0, [.ref q1, .ref q2, .ref q3, .ref q4, .null, .int 0])), (q1, .inl (G.2 0, 24, .inl (fun _ => 0))), (q2, .inl (G.2 0, 24, .inl (fun _ => 0))), (q3, .inl (G.2 0, 24, .inl (fun _ => 0))), (q4, .inl (G.2 0, 24, .inl (fun _ => 0))), (q5, .inl (G.2 0, 24, .inl (fun _ => 0)))] H := hP
  have hD : va_D A [(h0, .inr (0, [.ref q1, .ref q2, .ref q3, .ref q4, .null, .int 0])), (q1, .inl (G.2 0, 24, .inl (fun _ => 0))), (q2, .inl (G.2 0, 24, .inl (fun _ => 0))), (q3, .inl (G.2 0, 24, .inl (fun _ => 0))), (q4, .inl (G.2 0, 24, .inl (fun _ => 0))), (q5, .inl (G.2 0, 24, .inl (fun _ => 0)))] := hD
  refine W.widen (k := 5) (n := 120) (Nat.le_of_ble_eq_true rfl) (Nat.le_of_ble_eq_true rfl) ?_
  refine kp_F (ty := .array .int) C hP hD hS hin 0 rfl inlX0 tyX0 tyX0_ok nmX0 rfl 4 (by decide) (List.mem_of_getElem? (i := 36) rfl) rfl rfl (by decide +kernel) rfl rfl (Nat.le_of_ble_eq_true rfl) dX0_init_41 (fun H locs hP hD hS => ?_)
  have hP : va_P G.1 vwCl [(h0, .inr (0, [.ref q1, .ref q2, .ref q3, .ref q4, .ref q5, .int 0])), (q1, .inl (G.2 0, 24, .inl (fun _ => 0))), (q2, .inl (G.2 0, 24, .inl (fun _ => 0))), (q3, .inl (G.2 0, 24, .inl (fun _ => 0))), (q4, .inl (G.2 0, 24, .inl (fun _ => 0))), (q5, .inl (G.2 0, 24, .inl (fun _ => 0)))] H := hP
  have hD : va_D A [(h0, .inr (0, [.ref q1, .ref q2, .ref q3, .ref q4, .ref q5, .int 0])), (q1, .inl (G.2 0, 24, .inl (fun _ => 0))), (q2, .inl (G.2 0, 24, .inl (fun _ => 0))), (q3, .inl (G.2 0, 24, .inl (fun _ => 0))), (q4, .inl (G.2 0, 24, .inl (fun _ => 0))), (q5, .inl (G.2 0, 24, .inl (fun _ => 0)))] := hD
  refine lv_aload_n hx hb dX0_init_44 rfl (lv_at hl 0 rfl) ?_
  refine lv_iconst (v := nI 0) hx hb dX0_init_45 (by decide) ?_
  refine kp_I C hP hD hS 0 rfl inlX0 tyX0 tyX0_ok nmX0 rfl 5 (by decide) (List.mem_of_getElem? (i := 37) rfl) rfl (by decide +kernel) (Nat.le_of_ble_eq_true rfl) dX0_init_46 (fun H locs hP hD hS => ?_)
  have hP : va_P G.1 vwCl [(h0, .inr (0, [.ref q1, .ref q2, .ref q3, .ref q4, .ref q5, .int (nI 0)])), (q1, .inl (G.2 0, 24, .inl (fun _ => 0))), (q2, .inl (G.2 0, 24, .inl (fun _ => 0))), (q3, .inl (G.2 0, 24, .inl (fun _ => 0))), (q4, .inl (G.2 0, 24, .inl (fun _ => 0))), (q5, .inl (G.2 0, 24, .inl (fun _ => 0)))] H := hP
  have hD : va_D A [(h0, .inr (0, [.ref q1, .ref q2, .ref q3, .ref q4, .ref q5, .int (nI 0)])), (q1, .inl (G.2 0, 24, .inl (fun _ => 0))), (q2, .inl (G.2 0, 24, .inl (fun _ => 0))), (q3, .inl (G.2 0, 24, .inl (fun _ => 0))), (q4, .inl (G.2 0, 24, .inl (fun _ => 0))), (q5, .inl (G.2 0, 24, .inl (fun _ => 0)))] := hD
  exact W.vret hx hb hret (fun t ht _ => ⟨⟨(q1, q2, q3, q4, q5), rfl, trivial, by rw [ht]; exact hP, hD⟩, hS.F ht⟩) hS.2.2 dX0_init_49

set_option maxHeartbeats 4000000 in
set_option maxRecDepth 100000 in
theorem c_X1_init (l : Launch) (G : Gx) (h0 sz : Nat) : CtK (σ := Nat × Nat) l G yX1_init cX1_init 1 1 20 2 80 h0 (.inr (1, [.null, .null, .int 0, .int 0])) sz (w0_Rk G h0) := by
  refine ent_K (by decide) rfl (Nat.le_of_ble_eq_true rfl) ?_
  intro p e s m below meth c ls A hAe C hO hin hP hD hS hA hret hlk hl
  have C : Cx p s m _ c cX1_init RX1 1 G := C
  have hx := C.1
  have hb := C.2.1
  have hl : lv_has ls 1 [(0, .ref h0)] := hl
  have hP : va_P G.1 vwCl [(h0, .inr (1, [.null, .null, .int 0, .int 0]))] s.heap := hP
  have hD : va_D A [(h0, .inr (1, [.null, .null, .int 0, .int 0]))] := hD
  refine lv_aload_n hx hb dX1_init_0 rfl (lv_at hl 0 rfl) ?_
  refine W.objInit hx hb C.2.2.2.1 (C.2.2.2.2.1 (.methodLink RX1 3 objectInit) (List.mem_of_getElem? (i := 40) rfl)) (C.2.2.2.2.1 (.instanceMethod objectInit) (List.mem_of_getElem? (i := 11) rfl)) (C.2.2.2.2.1 (.code objectInit ⟨#[0xb1]⟩ 1 none) (List.mem_of_getElem? (i := 12) rfl)) rfl (by rw [C.2.2.1]; exact hl.1) rfl dX1_init_1 (Nat.le_of_ble_eq_true rfl) (Nat.le_of_ble_eq_true rfl) ?_
  refine W.eq (g2 := F0 m 4 ls []) rfl ?_
  refine lv_aload_n hx hb dX1_init_4 rfl (lv_at hl 0 rfl) ?_
  refine lv_bipush (v := nI 40) hx hb dX1_init_5 (by decide) ?_
  refine kn_l (n := 40) C hP hD hS hA (by decide) (Nat.le_of_ble_eq_true rfl) (Nat.le_of_ble_eq_true rfl) dX1_init_7 (fun q1 H hP hD hS => ?_)
  have hP : va_P G.1 vwCl [(h0, .inr (1, [.null, .null, .int 0, .int 0])), (q1, .inl (G.2 1, 40, .inr (.inl (fun _ => 0))))] H := hP
  have hD : va_D A [(h0, .inr (1, [.null, .null, .int 0, .int 0])), (q1, .inl (G.2 1, 40, .inr (.inl (fun _ => 0))))] := hD
  refine W.widen (k := 1) (n := 40) (Nat.le_of_ble_eq_true rfl) (Nat.le_of_ble_eq_true rfl) ?_
  refine kp_F (ty := .array .long) C hP hD hS hin 0 rfl inlX1 tyX1 tyX1_ok nmX1 rfl 0 (by decide) (List.mem_of_getElem? (i := 42) rfl) rfl rfl (by decide +kernel) rfl rfl (Nat.le_of_ble_eq_true rfl) dX1_init_9 (fun H locs hP hD hS => ?_)
  have hP : va_P G.1 vwCl [(h0, .inr (1, [.ref q1, .null, .int 0, .int 0])), (q1, .inl (G.2 1, 40, .inr (.inl (fun _ => 0))))] H := hP
  have hD : va_D A [(h0, .inr (1, [.ref q1, .null, .int 0, .int 0])), (q1, .inl (G.2 1, 40, .inr (.inl (fun _ => 0))))] := hD
  refine lv_aload_n hx hb dX1_init_12 rfl (lv_at hl 0 rfl) ?_
  refine lv_bipush (v := nI 40) hx hb dX1_init_13 (by decide) ?_
  refine kn_l (n := 40) C hP hD hS hA (by decide) (Nat.le_of_ble_eq_true rfl) (Nat.le_of_ble_eq_true rfl) dX1_init_15 (fun q2 H hP hD hS => ?_)
  have hP : va_P G.1 vwCl [(h0, .inr (1, [.ref q1, .null, .int 0, .int 0])), (q1, .inl (G.2 1, 40, .inr (.inl (fun _ => 0)))), (q2, .inl (G.2 1, 40, .inr (.inl (fun _ => 0))))] H := hP
  have hD : va_D A [(h0, .inr (1, [.ref q1, .null, .int 0, .int 0])), (q1, .inl (G.2 1, 40, .inr (.inl (fun _ => 0)))), (q2, .inl (G.2 1, 40, .inr (.inl (fun _ => 0))))] := hD
  refine W.widen (k := 2) (n := 80) (Nat.le_of_ble_eq_true rfl) (Nat.le_of_ble_eq_true rfl) ?_
  refine kp_F (ty := .array .long) C hP hD hS hin 0 rfl inlX1 tyX1 tyX1_ok nmX1 rfl 1 (by decide) (List.mem_of_getElem? (i := 43) rfl) rfl rfl (by decide +kernel) rfl rfl (Nat.le_of_ble_eq_true rfl) dX1_init_17 (fun H locs hP hD hS => ?_)
  have hP : va_P G.1 vwCl [(h0, .inr (1, [.ref q1, .ref q2, .int 0, .int 0])), (q1, .inl (G.2 1, 40, .inr (.inl (fun _ => 0)))), (q2, .inl (G.2 1, 40, .inr (.inl (fun _ => 0))))] H := hP
  have hD : va_D A [(h0, .inr (1, [.ref q1, .ref q2, .int 0, .int 0])), (q1, .inl (G.2 1, 40, .inr (.inl (fun _ => 0)))), (q2, .inl (G.2 1, 40, .inr (.inl (fun _ => 0))))] := hD
  refine lv_aload_n hx hb dX1_init_20 rfl (lv_at hl 0 rfl) ?_
  refine lv_iconst (v := nI 0) hx hb dX1_init_21 (by decide) ?_
  refine kp_I C hP hD hS 0 rfl inlX1 tyX1 tyX1_ok nmX1 rfl 2 (by decide) (List.mem_of_getElem? (i := 44) rfl) rfl (by decide +kernel) (Nat.le_of_ble_eq_true rfl) dX1_init_22 (fun H locs hP hD hS => ?_)
  have hP : va_P G.1 vwCl [(h0, .inr (1, [.ref q1, .ref q2, .int (nI 0), .int 0])), (q1, .inl (G.2 1, 40, .inr (.inl (fun _ => 0)))), (q2, .inl (G.2 1, 40, .inr (.inl (fun _ => 0))))] H := hP
  have hD : va_D A [(h0, .inr (1, [.ref q1, .ref q2, .int (nI 0), .int 0])), (q1, .inl (G.2 1, 40, .inr (.inl (fun _ => 0)))), (q2, .inl (G.2 1, 40, .inr (.inl (fun _ => 0))))] := hD
  refine lv_aload_n hx hb dX1_init_25 rfl (lv_at hl 0 rfl) ?_
  refine lv_iconst (v := nI 0) hx hb dX1_init_26 (by decide) ?_
  refine kp_I C hP hD hS 0 rfl inlX1 tyX1 tyX1_ok nmX1 rfl 3 (by decide) (List.mem_of_getElem? (i := 45) rfl) rfl (by decide +kernel) (Nat.le_of_ble_eq_true rfl) dX1_init_27 (fun H locs hP hD hS => ?_)
  have hP : va_P G.1 vwCl [(h0, .inr (1, [.ref q1, .ref q2, .int (nI 0), .int (nI 0)])), (q1, .inl (G.2 1, 40, .inr (.inl (fun _ => 0)))), (q2, .inl (G.2 1, 40, .inr (.inl (fun _ => 0))))] H := hP
  have hD : va_D A [(h0, .inr (1, [.ref q1, .ref q2, .int (nI 0), .int (nI 0)])), (q1, .inl (G.2 1, 40, .inr (.inl (fun _ => 0)))), (q2, .inl (G.2 1, 40, .inr (.inl (fun _ => 0))))] := hD
  exact W.vret hx hb hret (fun t ht _ => ⟨⟨(q1, q2), rfl, trivial, by rw [ht]; exact hP, hD⟩, hS.F ht⟩) hS.2.2 dX1_init_30

abbrev M0 : MS := (S0, fun _ => 0, fun _ => 0, fun _ => 0, fun _ => 0, fun _ => 0)
theorem wl10 (a : Nat → Nat) (E : Nat → va_E) : wl 10 a E = [(a 0, E 0), (a 1, E 1), (a 2, E 2), (a 3, E 3), (a 4, E 4), (a 5, E 5), (a 6, E 6), (a 7, E 7), (a 8, E 8), (a 9, E 9)] := rfl

set_option maxHeartbeats 4000000 in
set_option maxRecDepth 100000 in
theorem c_X3_init (l : Launch) (G : Gx) (h0 sz : Nat) : CtK (σ := Nat → Nat) l G yX3_init cX3_init 1 1 20 9 1222 h0 (.inr (3, [.null, .null, .null, .null, .null, .int 0, .null, .null, .int 0, .null, .int 0, .null, .int 0])) sz (fun a => wl 10 (va_up a 0 h0) (EM G (va_up a 0 h0) M0)) := by
  refine ent_K (by decide) rfl (Nat.le_of_ble_eq_true rfl) ?_
  intro p e s m below meth c ls A hAe C hO hin hP hD hS hA hret hlk hl
  have C : Cx p s m _ c cX3_init RX3 1 G := C
  have hx := C.1
  have hb := C.2.1
  have hl : lv_has ls 1 [(0, .ref h0)] := hl
  have hP : va_P G.1 vwCl [(h0, .inr (3, [.null, .null, .null, .null, .null, .int 0, .null, .null, .int 0, .null, .int 0, .null, .int 0]))] s.heap := hP
  have hD : va_D A [(h0, .inr (3, [.null, .null, .null, .null, .null, .int 0, .null, .null, .int 0, .null, .int 0, .null, .int 0]))] := hD
  refine lv_aload_n hx hb dX3_init_0 rfl (lv_at hl 0 rfl) ?_
  refine W.objInit hx hb C.2.2.2.1 (C.2.2.2.2.1 (.methodLink RX3 1 objectInit) (List.mem_of_getElem? (i := 49) rfl)) (C.2.2.2.2.1 (.instanceMethod objectInit) (List.mem_of_getElem? (i := 11) rfl)) (C.2.2.2.2.1 (.code objectInit ⟨#[0xb1]⟩ 1 none) (List.mem_of_getElem? (i := 12) rfl)) rfl (by rw [C.2.2.1]; exact hl.1) rfl dX3_init_1 (Nat.le_of_ble_eq_true rfl) (Nat.le_of_ble_eq_true rfl) ?_
  refine W.eq (g2 := F0 m 4 ls []) rfl ?_
  refine lv_aload_n hx hb dX3_init_4 rfl (lv_at hl 0 rfl) ?_
  refine lv_bipush (v := nI 8) hx hb dX3_init_5 (by decide) ?_
  refine kn_i (n := 8) C hP hD hS hA (by decide) (Nat.le_of_ble_eq_true rfl) (Nat.le_of_ble_eq_true rfl) dX3_init_7 (fun q1 H hP hD hS => ?_)
  have hP : va_P G.1 vwCl [(h0, .inr (3, [.null, .null, .null, .null, .null, .int 0, .null, .null, .int 0, .null, .int 0, .null, .int 0])), (q1, .inl (G.2 0, 8, .inl (fun _ => 0)))] H := hP
  have hD : va_D A [(h0, .inr (3, [.null, .null, .null, .null, .null, .int 0, .null, .null, .int 0, .null, .int 0, .null, .int 0])), (q1, .inl (G.2 0, 8, .inl (fun _ => 0)))] := hD
  refine W.widen (k := 1) (n := 8) (Nat.le_of_ble_eq_true rfl) (Nat.le_of_ble_eq_true rfl) ?_
  refine kp_F (ty := .array .int) C hP hD hS hin 0 rfl inlX3 tyX3 tyX3_ok nmX3 rfl 0 (by decide) (List.mem_of_getElem? (i := 50) rfl) rfl rfl (by decide +kernel) rfl rfl (Nat.le_of_ble_eq_true rfl) dX3_init_9 (fun H locs hP hD hS => ?_)
  have hP : va_P G.1 vwCl [(h0, .inr (3, [.ref q1, .null, .null, .null, .null, .int 0, .null, .null, .int 0, .null, .int 0, .null, .int 0])), (q1, .inl (G.2 0, 8, .inl (fun _ => 0)))] H := hP
  have hD : va_D A [(h0, .inr (3, [.ref q1, .null, .null, .null, .null, .int 0, .null, .null, .int 0, .null, .int 0, .null, .int 0])), (q1, .inl (G.2 0, 8, .inl (fun _ => 0)))] := hD
  refine lv_aload_n hx hb dX3_init_12 rfl (lv_at hl 0 rfl) ?_
  refine lv_bipush (v := nI 8) hx hb dX3_init_13 (by decide) ?_
  refine kn_i (n := 8) C hP hD hS hA (by decide) (Nat.le_of_ble_eq_true rfl) (Nat.le_of_ble_eq_true rfl) dX3_init_15 (fun q2 H hP hD hS => ?_)
  have hP : va_P G.1 vwCl [(h0, .inr (3, [.ref q1, .null, .null, .null, .null, .int 0, .null, .null, .int 0, .null, .int 0, .null, .int 0])), (q1, .inl (G.2 0, 8, .inl (fun _ => 0))), (q2, .inl (G.2 0, 8, .inl (fun _ => 0)))] H := hP
  have hD : va_D A [(h0, .inr (3, [.ref q1, .null, .null, .null, .null, .int 0, .null, .null, .int 0, .null, .int 0, .null, .int 0])), (q1, .inl (G.2 0, 8, .inl (fun _ => 0))), (q2, .inl (G.2 0, 8, .inl (fun _ => 0)))] := hD
  refine W.widen (k := 2) (n := 16) (Nat.le_of_ble_eq_true rfl) (Nat.le_of_ble_eq_true rfl) ?_
  refine kp_F (ty := .array .int) C hP hD hS hin 0 rfl inlX3 tyX3 tyX3_ok nmX3 rfl 1 (by decide) (List.mem_of_getElem? (i := 51) rfl) rfl rfl (by decide +kernel) rfl rfl (Nat.le_of_ble_eq_true rfl) dX3_init_17 (fun H locs hP hD hS => ?_)
  have hP : va_P G.1 vwCl [(h0, .inr (3, [.ref q1, .ref q2, .null, .null, .null, .int 0, .null, .null, .int 0, .null, .int 0, .null, .int 0])), (q1, .inl (G.2 0, 8, .inl (fun _ => 0))), (q2, .inl (G.2 0, 8, .inl (fun _ => 0)))] H := hP
  have hD : va_D A [(h0, .inr (3, [.ref q1, .ref q2, .null, .null, .null, .int 0, .null, .null, .int 0, .null, .int 0, .null, .int 0])), (q1, .inl (G.2 0, 8, .inl (fun _ => 0))), (q2, .inl (G.2 0, 8, .inl (fun _ => 0)))] := hD
  refine lv_aload_n hx hb dX3_init_20 rfl (lv_at hl 0 rfl) ?_
  refine lv_sipush (v := nI 320) hx hb dX3_init_21 (by decide) ?_
  refine kn_l (n := 320) C hP hD hS hA (by decide) (Nat.le_of_ble_eq_true rfl) (Nat.le_of_ble_eq_true rfl) dX3_init_24 (fun q3 H hP hD hS => ?_)
  have hP : va_P G.1 vwCl [(h0, .inr (3, [.ref q1, .ref q2, .null, .null, .null, .int 0, .null, .null, .int 0, .null, .int 0, .null, .int 0])), (q1, .inl (G.2 0, 8, .inl (fun _ => 0))), (q2, .inl (G.2 0, 8, .inl (fun _ => 0))), (q3, .inl (G.2 1, 320, .inr (.inl (fun _ => 0))))] H := hP
  have hD : va_D A [(h0, .inr (3, [.ref q1, .ref q2, .null, .null, .null, .int 0, .null, .null, .int 0, .null, .int 0, .null, .int 0])), (q1, .inl (G.2 0, 8, .inl (fun _ => 0))), (q2, .inl (G.2 0, 8, .inl (fun _ => 0))), (q3, .inl (G.2 1, 320, .inr (.inl (fun _ => 0))))] := hD
  refine W.widen (k := 3) (n := 336) (Nat.le_of_ble_eq_true rfl) (Nat.le_of_ble_eq_true rfl) ?_
  refine kp_F (ty := .array .long) C hP hD hS hin 0 rfl inlX3 tyX3 tyX3_ok nmX3 rfl 2 (by decide) (List.mem_of_getElem? (i := 52) rfl) rfl rfl (by decide +kernel) rfl rfl (Nat.le_of_ble_eq_true rfl) dX3_init_26 (fun H locs hP hD hS => ?_)
  have hP : va_P G.1 vwCl [(h0, .inr (3, [.ref q1, .ref q2, .ref q3, .null, .null, .int 0, .null, .null, .int 0, .null, .int 0, .null, .int 0])), (q1, .inl (G.2 0, 8, .inl (fun _ => 0))), (q2, .inl (G.2 0, 8, .inl (fun _ => 0))), (q3, .inl (G.2 1, 320, .inr (.inl (fun _ => 0))))] H := hP
  have hD : va_D A [(h0, .inr (3, [.ref q1, .ref q2, .ref q3, .null, .null, .int 0, .null, .null, .int 0, .null, .int 0, .null, .int 0])), (q1, .inl (G.2 0, 8, .inl (fun _ => 0))), (q2, .inl (G.2 0, 8, .inl (fun _ => 0))), (q3, .inl (G.2 1, 320, .inr (.inl (fun _ => 0))))] := hD
  refine lv_aload_n hx hb dX3_init_29 rfl (lv_at hl 0 rfl) ?_
  refine lv_sipush (v := nI 320) hx hb dX3_init_30 (by decide) ?_
  refine kn_l (n := 320) C hP hD hS hA (by decide) (Nat.le_of_ble_eq_true rfl) (Nat.le_of_ble_eq_true rfl) dX3_init_33 (fun q4 H hP hD hS => ?_)
  have hP : va_P G.1 vwCl [(h0, .inr (3, [.ref q1, .ref q2, .ref q3, .null, .null, .int 0, .null, .null, .int 0, .null, .int 0, .null, .int 0])), (q1, .inl (G.2 0, 8, .inl (fun _ => 0))), (q2, .inl (G.2 0, 8, .inl (fun _ => 0))), (q3, .inl (G.2 1, 320, .inr (.inl (fun _ => 0)))), (q4, .inl (G.2 1, 320, .inr (.inl (fun _ => 0))))] H := hP
  have hD : va_D A [(h0, .inr (3, [.ref q1, .ref q2, .ref q3, .null, .null, .int 0, .null, .null, .int 0, .null, .int 0, .null, .int 0])), (q1, .inl (G.2 0, 8, .inl (fun _ => 0))), (q2, .inl (G.2 0, 8, .inl (fun _ => 0))), (q3, .inl (G.2 1, 320, .inr (.inl (fun _ => 0)))), (q4, .inl (G.2 1, 320, .inr (.inl (fun _ => 0))))] := hD
  refine W.widen (k := 4) (n := 656) (Nat.le_of_ble_eq_true rfl) (Nat.le_of_ble_eq_true rfl) ?_
  refine kp_F (ty := .array .long) C hP hD hS hin 0 rfl inlX3 tyX3 tyX3_ok nmX3 rfl 3 (by decide) (List.mem_of_getElem? (i := 53) rfl) rfl rfl (by decide +kernel) rfl rfl (Nat.le_of_ble_eq_true rfl) dX3_init_35 (fun H locs hP hD hS => ?_)
  have hP : va_P G.1 vwCl [(h0, .inr (3, [.ref q1, .ref q2, .ref q3, .ref q4, .null, .int 0, .null, .null, .int 0, .null, .int 0, .null, .int 0])), (q1, .inl (G.2 0, 8, .inl (fun _ => 0))), (q2, .inl (G.2 0, 8, .inl (fun _ => 0))), (q3, .inl (G.2 1, 320, .inr (.inl (fun _ => 0)))), (q4, .inl (G.2 1, 320, .inr (.inl (fun _ => 0))))] H := hP
  have hD : va_D A [(h0, .inr (3, [.ref q1, .ref q2, .ref q3, .ref q4, .null, .int 0, .null, .null, .int 0, .null, .int 0, .null, .int 0])), (q1, .inl (G.2 0, 8, .inl (fun _ => 0))), (q2, .inl (G.2 0, 8, .inl (fun _ => 0))), (q3, .inl (G.2 1, 320, .inr (.inl (fun _ => 0)))), (q4, .inl (G.2 1, 320, .inr (.inl (fun _ => 0))))] := hD
  refine lv_aload_n hx hb dX3_init_38 rfl (lv_at hl 0 rfl) ?_
  refine lv_bipush (v := nI 40) hx hb dX3_init_39 (by decide) ?_
  refine kn_l (n := 40) C hP hD hS hA (by decide) (Nat.le_of_ble_eq_true rfl) (Nat.le_of_ble_eq_true rfl) dX3_init_41 (fun q5 H hP hD hS => ?_)
  have hP : va_P G.1 vwCl [(h0, .inr (3, [.ref q1, .ref q2, .ref q3, .ref q4, .null, .int 0, .null, .null, .int 0, .null, .int 0, .null, .int 0])), (q1, .inl (G.2 0, 8, .inl (fun _ => 0))), (q2, .inl (G.2 0, 8, .inl (fun _ => 0))), (q3, .inl (G.2 1, 320, .inr (.inl (fun _ => 0)))), (q4, .inl (G.2 1, 320, .inr (.inl (fun _ => 0)))), (q5, .inl (G.2 1, 40, .inr (.inl (fun _ => 0))))] H := hP
  have hD : va_D A [(h0, .inr (3, [.ref q1, .ref q2, .ref q3, .ref q4, .null, .int 0, .null, .null, .int 0, .null, .int 0, .null, .int 0])), (q1, .inl (G.2 0, 8, .inl (fun _ => 0))), (q2, .inl (G.2 0, 8, .inl (fun _ => 0))), (q3, .inl (G.2 1, 320, .inr (.inl (fun _ => 0)))), (q4, .inl (G.2 1, 320, .inr (.inl (fun _ => 0)))), (q5, .inl (G.2 1, 40, .inr (.inl (fun _ => 0))))] := hD
  refine W.widen (k := 5) (n := 696) (Nat.le_of_ble_eq_true rfl) (Nat.le_of_ble_eq_true rfl) ?_
  refine kp_F (ty := .array .long) C hP hD hS hin 0 rfl inlX3 tyX3 tyX3_ok nmX3 rfl 4 (by decide) (List.mem_of_getElem? (i := 54) rfl) rfl rfl (by decide +kernel) rfl rfl (Nat.le_of_ble_eq_true rfl) dX3_init_43 (fun H locs hP hD hS => ?_)
  have hP : va_P G.1 vwCl [(h0, .inr (3, [.ref q1, .ref q2, .ref q3, .ref q4, .ref q5, .int 0, .null, .null, .int 0, .null, .int 0, .null, .int 0])), (q1, .inl (G.2 0, 8, .inl (fun _ => 0))), (q2, .inl (G.2 0, 8, .inl (fun _ => 0))), (q3, .inl (G.2 1, 320, .inr (.inl (fun _ => 0)))), (q4, .inl (G.2 1, 320, .inr (.inl (fun _ => 0)))), (q5, .inl (G.2 1, 40, .inr (.inl (fun _ => 0))))] H := hP
  have hD : va_D A [(h0, .inr (3, [.ref q1, .ref q2, .ref q3, .ref q4, .ref q5, .int 0, .null, .null, .int 0, .null, .int 0, .null, .int 0])), (q1, .inl (G.2 0, 8, .inl (fun _ => 0))), (q2, .inl (G.2 0, 8, .inl (fun _ => 0))), (q3, .inl (G.2 1, 320, .inr (.inl (fun _ => 0)))), (q4, .inl (G.2 1, 320, .inr (.inl (fun _ => 0)))), (q5, .inl (G.2 1, 40, .inr (.inl (fun _ => 0))))] := hD
  refine lv_aload_n hx hb dX3_init_46 rfl (lv_at hl 0 rfl) ?_
  refine lv_sipush (v := nI 200) hx hb dX3_init_47 (by decide) ?_
  refine kn_i (n := 200) C hP hD hS hA (by decide) (Nat.le_of_ble_eq_true rfl) (Nat.le_of_ble_eq_true rfl) dX3_init_50 (fun q6 H hP hD hS => ?_)
  have hP : va_P G.1 vwCl [(h0, .inr (3, [.ref q1, .ref q2, .ref q3, .ref q4, .ref q5, .int 0, .null, .null, .int 0, .null, .int 0, .null, .int 0])), (q1, .inl (G.2 0, 8, .inl (fun _ => 0))), (q2, .inl (G.2 0, 8, .inl (fun _ => 0))), (q3, .inl (G.2 1, 320, .inr (.inl (fun _ => 0)))), (q4, .inl (G.2 1, 320, .inr (.inl (fun _ => 0)))), (q5, .inl (G.2 1, 40, .inr (.inl (fun _ => 0)))), (q6, .inl (G.2 0, 200, .inl (fun _ => 0)))] H := hP
  have hD : va_D A [(h0, .inr (3, [.ref q1, .ref q2, .ref q3, .ref q4, .ref q5, .int 0, .null, .null, .int 0, .null, .int 0, .null, .int 0])), (q1, .inl (G.2 0, 8, .inl (fun _ => 0))), (q2, .inl (G.2 0, 8, .inl (fun _ => 0))), (q3, .inl (G.2 1, 320, .inr (.inl (fun _ => 0)))), (q4, .inl (G.2 1, 320, .inr (.inl (fun _ => 0)))), (q5, .inl (G.2 1, 40, .inr (.inl (fun _ => 0)))), (q6, .inl (G.2 0, 200, .inl (fun _ => 0)))] := hD
  refine W.widen (k := 6) (n := 896) (Nat.le_of_ble_eq_true rfl) (Nat.le_of_ble_eq_true rfl) ?_
  refine kp_F (ty := .array .int) C hP hD hS hin 0 rfl inlX3 tyX3 tyX3_ok nmX3 rfl 6 (by decide) (List.mem_of_getElem? (i := 55) rfl) rfl rfl (by decide +kernel) rfl rfl (Nat.le_of_ble_eq_true rfl) dX3_init_52 (fun H locs hP hD hS => ?_)
  have hP : va_P G.1 vwCl [(h0, .inr (3, [.ref q1, .ref q2, .ref q3, .ref q4, .ref q5, .int 0, .ref q6, .null, .int 0, .null, .int 0, .null, .int 0])), (q1, .inl (G.2 0, 8, .inl (fun _ => 0))), (q2, .inl (G.2 0, 8, .inl (fun _ => 0))), (q3, .inl (G.2 1, 320, .inr (.inl (fun _ => 0)))), (q4, .inl (G.2 1, 320, .inr (.inl (fun _ => 0)))), (q5, .inl (G.2 1, 40, .inr (.inl (fun _ => 0)))), (q6, .inl (G.2 0, 200, .inl (fun _ => 0)))] H := hP
  have hD : va_D A [(h0, .inr (3, [.ref q1, .ref q2, .ref q3, .ref q4, .ref q5, .int 0, .ref q6, .null, .int 0, .null, .int 0, .null, .int 0])), (q1, .inl (G.2 0, 8, .inl (fun _ => 0))), (q2, .inl (G.2 0, 8, .inl (fun _ => 0))), (q3, .inl (G.2 1, 320, .inr (.inl (fun _ => 0)))), (q4, .inl (G.2 1, 320, .inr (.inl (fun _ => 0)))), (q5, .inl (G.2 1, 40, .inr (.inl (fun _ => 0)))), (q6, .inl (G.2 0, 200, .inl (fun _ => 0)))] := hD
  refine lv_aload_n hx hb dX3_init_55 rfl (lv_at hl 0 rfl) ?_
  refine lv_sipush (v := nI 200) hx hb dX3_init_56 (by decide) ?_
  refine kn_z (n := 200) C hP hD hS hA (by decide) (Nat.le_of_ble_eq_true rfl) (Nat.le_of_ble_eq_true rfl) dX3_init_59 (fun q7 H hP hD hS => ?_)
  have hP : va_P G.1 vwCl [(h0, .inr (3, [.ref q1, .ref q2, .ref q3, .ref q4, .ref q5, .int 0, .ref q6, .null, .int 0, .null, .int 0, .null, .int 0])), (q1, .inl (G.2 0, 8, .inl (fun _ => 0))), (q2, .inl (G.2 0, 8, .inl (fun _ => 0))), (q3, .inl (G.2 1, 320, .inr (.inl (fun _ => 0)))), (q4, .inl (G.2 1, 320, .inr (.inl (fun _ => 0)))), (q5, .inl (G.2 1, 40, .inr (.inl (fun _ => 0)))), (q6, .inl (G.2 0, 200, .inl (fun _ => 0))), (q7, .inl (G.2 2, 200, .inl (fun _ => 0)))] H := hP
  have hD : va_D A [(h0, .inr (3, [.ref q1, .ref q2, .ref q3, .ref q4, .ref q5, .int 0, .ref q6, .null, .int 0, .null, .int 0, .null, .int 0])), (q1, .inl (G.2 0, 8, .inl (fun _ => 0))), (q2, .inl (G.2 0, 8, .inl (fun _ => 0))), (q3, .inl (G.2 1, 320, .inr (.inl (fun _ => 0)))), (q4, .inl (G.2 1, 320, .inr (.inl (fun _ => 0)))), (q5, .inl (G.2 1, 40, .inr (.inl (fun _ => 0)))), (q6, .inl (G.2 0, 200, .inl (fun _ => 0))), (q7, .inl (G.2 2, 200, .inl (fun _ => 0)))] := hD
  refine W.widen (k := 7) (n := 1096) (Nat.le_of_ble_eq_true rfl) (Nat.le_of_ble_eq_true rfl) ?_
  refine kp_F (ty := .array .boolean) C hP hD hS hin 0 rfl inlX3 tyX3 tyX3_ok nmX3 rfl 7 (by decide) (List.mem_of_getElem? (i := 56) rfl) rfl rfl (by decide +kernel) rfl rfl (Nat.le_of_ble_eq_true rfl) dX3_init_61 (fun H locs hP hD hS => ?_)
  have hP : va_P G.1 vwCl [(h0, .inr (3, [.ref q1, .ref q2, .ref q3, .ref q4, .ref q5, .int 0, .ref q6, .ref q7, .int 0, .null, .int 0, .null, .int 0])), (q1, .inl (G.2 0, 8, .inl (fun _ => 0))), (q2, .inl (G.2 0, 8, .inl (fun _ => 0))), (q3, .inl (G.2 1, 320, .inr (.inl (fun _ => 0)))), (q4, .inl (G.2 1, 320, .inr (.inl (fun _ => 0)))), (q5, .inl (G.2 1, 40, .inr (.inl (fun _ => 0)))), (q6, .inl (G.2 0, 200, .inl (fun _ => 0))), (q7, .inl (G.2 2, 200, .inl (fun _ => 0)))] H := hP
  have hD : va_D A [(h0, .inr (3, [.ref q1, .ref q2, .ref q3, .ref q4, .ref q5, .int 0, .ref q6, .ref q7, .int 0, .null, .int 0, .null, .int 0])), (q1, .inl (G.2 0, 8, .inl (fun _ => 0))), (q2, .inl (G.2 0, 8, .inl (fun _ => 0))), (q3, .inl (G.2 1, 320, .inr (.inl (fun _ => 0)))), (q4, .inl (G.2 1, 320, .inr (.inl (fun _ => 0)))), (q5, .inl (G.2 1, 40, .inr (.inl (fun _ => 0)))), (q6, .inl (G.2 0, 200, .inl (fun _ => 0))), (q7, .inl (G.2 2, 200, .inl (fun _ => 0)))] := hD
  refine lv_aload_n hx hb dX3_init_64 rfl (lv_at hl 0 rfl) ?_
  refine lv_bipush (v := nI 120) hx hb dX3_init_65 (by decide) ?_
  refine kn_i (n := 120) C hP hD hS hA (by decide) (Nat.le_of_ble_eq_true rfl) (Nat.le_of_ble_eq_true rfl) dX3_init_67 (fun q8 H hP hD hS => ?_)
  have hP : va_P G.1 vwCl [(h0, .inr (3, [.ref q1, .ref q2, .ref q3, .ref q4, .ref q5, .int 0, .ref q6, .ref q7, .int 0, .null, .int 0, .null, .int 0])), (q1, .inl (G.2 0, 8, .inl (fun _ => 0))), (q2, .inl (G.2 0, 8, .inl (fun _ => 0))), (q3, .inl (G.2 1, 320, .inr (.inl (fun _ => 0)))), (q4, .inl (G.2 1, 320, .inr (.inl (fun _ => 0)))), (q5, .inl (G.2 1, 40, .inr (.inl (fun _ => 0)))), (q6, .inl (G.2 0, 200, .inl (fun _ => 0))), (q7, .inl (G.2 2, 200, .inl (fun _ => 0))), (q8, .inl (G.2 0, 120, .inl (fun _ => 0)))] H := hP
  have hD : va_D A [(h0, .inr (3, [.ref q1, .ref q2, .ref q3, .ref q4, .ref q5, .int 0, .ref q6, .ref q7, .int 0, .null, .int 0, .null, .int 0])), (q1, .inl (G.2 0, 8, .inl (fun _ => 0))), (q2, .inl (G.2 0, 8, .inl (fun _ => 0))), (q3, .inl (G.2 1, 320, .inr (.inl (fun _ => 0)))), (q4, .inl (G.2 1, 320, .inr (.inl (fun _ => 0)))), (q5, .inl (G.2 1, 40, .inr (.inl (fun _ => 0)))), (q6, .inl (G.2 0, 200, .inl (fun _ => 0))), (q7, .inl (G.2 2, 200, .inl (fun _ => 0))), (q8, .inl (G.2 0, 120, .inl (fun _ => 0)))] := hD
  refine W.widen (k := 8) (n := 1216) (Nat.le_of_ble_eq_true rfl) (Nat.le_of_ble_eq_true rfl) ?_
  refine kp_F (ty := .array .int) C hP hD hS hin 0 rfl inlX3 tyX3 tyX3_ok nmX3 rfl 9 (by decide) (List.mem_of_getElem? (i := 57) rfl) rfl rfl (by decide +kernel) rfl rfl (Nat.le_of_ble_eq_true rfl) dX3_init_69 (fun H locs hP hD hS => ?_)
  have hP : va_P G.1 vwCl [(h0, .inr (3, [.ref q1, .ref q2, .ref q3, .ref q4, .ref q5, .int 0, .ref q6, .ref q7, .int 0, .ref q8, .int 0, .null, .int 0])), (q1, .inl (G.2 0, 8, .inl (fun _ => 0))), (q2, .inl (G.2 0, 8, .inl (fun _ => 0))), (q3, .inl (G.2 1, 320, .inr (.inl (fun _ => 0)))), (q4, .inl (G.2 1, 320, .inr (.inl (fun _ => 0)))), (q5, .inl (G.2 1, 40, .inr (.inl (fun _ => 0)))), (q6, .inl (G.2 0, 200, .inl (fun _ => 0))), (q7, .inl (G.2 2, 200, .inl (fun _ => 0))), (q8, .inl (G.2 0, 120, .inl (fun _ => 0)))] H := hP
  have hD : va_D A [(h0, .inr (3, [.ref q1, .ref q2, .ref q3, .ref q4, .ref q5, .int 0, .ref q6, .ref q7, .int 0, .ref q8, .int 0, .null, .int 0])), (q1, .inl (G.2 0, 8, .inl (fun _ => 0))), (q2, .inl (G.2 0, 8, .inl (fun _ => 0))), (q3, .inl (G.2 1, 320, .inr (.inl (fun _ => 0)))), (q4, .inl (G.2 1, 320, .inr (.inl (fun _ => 0)))), (q5, .inl (G.2 1, 40, .inr (.inl (fun _ => 0)))), (q6, .inl (G.2 0, 200, .inl (fun _ => 0))), (q7, .inl (G.2 2, 200, .inl (fun _ => 0))), (q8, .inl (G.2 0, 120, .inl (fun _ => 0)))] := hD
  refine lv_aload_n hx hb dX3_init_72 rfl (lv_at hl 0 rfl) ?_
  refine lv_bipush (v := nI 6) hx hb dX3_init_73 (by decide) ?_
  refine kn_i (n := 6) C hP hD hS hA (by decide) (Nat.le_of_ble_eq_true rfl) (Nat.le_of_ble_eq_true rfl) dX3_init_75 (fun q9 H hP hD hS => ?_)
  have hP : va_P G.1 vwCl [(h0, .inr (3, [.ref q1, .ref q2, .ref q3, .ref q4, .ref q5, .int 0, .ref q6, .ref q7, .int 0, .ref q8, .int 0, .null, .int 0])), (q1, .inl (G.2 0, 8, .inl (fun _ => 0))), (q2, .inl (G.2 0, 8, .inl (fun _ => 0))), (q3, .inl (G.2 1, 320, .inr (.inl (fun _ => 0)))), (q4, .inl (G.2 1, 320, .inr (.inl (fun _ => 0)))), (q5, .inl (G.2 1, 40, .inr (.inl (fun _ => 0)))), (q6, .inl (G.2 0, 200, .inl (fun _ => 0))), (q7, .inl (G.2 2, 200, .inl (fun _ => 0))), (q8, .inl (G.2 0, 120, .inl (fun _ => 0))), (q9, .inl (G.2 0, 6, .inl (fun _ => 0)))] H := hP
  have hD : va_D A [(h0, .inr (3, [.ref q1, .ref q2, .ref q3, .ref q4, .ref q5, .int 0, .ref q6, .ref q7, .int 0, .ref q8, .int 0, .null, .int 0])), (q1, .inl (G.2 0, 8, .inl (fun _ => 0))), (q2, .inl (G.2 0, 8, .inl (fun _ => 0))), (q3, .inl (G.2 1, 320, .inr (.inl (fun _ => 0)))), (q4, .inl (G.2 1, 320, .inr (.inl (fun _ => 0)))), (q5, .inl (G.2 1, 40, .inr (.inl (fun _ => 0)))), (q6, .inl (G.2 0, 200, .inl (fun _ => 0))), (q7, .inl (G.2 2, 200, .inl (fun _ => 0))), (q8, .inl (G.2 0, 120, .inl (fun _ => 0))), (q9, .inl (G.2 0, 6, .inl (fun _ => 0)))] := hD
  refine W.widen (k := 9) (n := 1222) (Nat.le_of_ble_eq_true rfl) (Nat.le_of_ble_eq_true rfl) ?_
  refine kp_F (ty := .array .int) C hP hD hS hin 0 rfl inlX3 tyX3 tyX3_ok nmX3 rfl 11 (by decide) (List.mem_of_getElem? (i := 58) rfl) rfl rfl (by decide +kernel) rfl rfl (Nat.le_of_ble_eq_true rfl) dX3_init_77 (fun H locs hP hD hS => ?_)
  have hP : va_P G.1 vwCl [(h0, .inr (3, [.ref q1, .ref q2, .ref q3, .ref q4, .ref q5, .int 0, .ref q6, .ref q7, .int 0, .ref q8, .int 0, .ref q9, .int 0])), (q1, .inl (G.2 0, 8, .inl (fun _ => 0))), (q2, .inl (G.2 0, 8, .inl (fun _ => 0))), (q3, .inl (G.2 1, 320, .inr (.inl (fun _ => 0)))), (q4, .inl (G.2 1, 320, .inr (.inl (fun _ => 0)))), (q5, .inl (G.2 1, 40, .inr (.inl (fun _ => 0)))), (q6, .inl (G.2 0, 200, .inl (fun _ => 0))), (q7, .inl (G.2 2, 200, .inl (fun _ => 0))), (q8, .inl (G.2 0, 120, .inl (fun _ => 0))), (q9, .inl (G.2 0, 6, .inl (fun _ => 0)))] H := hP
  have hD : va_D A [(h0, .inr (3, [.ref q1, .ref q2, .ref q3, .ref q4, .ref q5, .int 0, .ref q6, .ref q7, .int 0, .ref q8, .int 0, .ref q9, .int 0])), (q1, .inl (G.2 0, 8, .inl (fun _ => 0))), (q2, .inl (G.2 0, 8, .inl (fun _ => 0))), (q3, .inl (G.2 1, 320, .inr (.inl (fun _ => 0)))), (q4, .inl (G.2 1, 320, .inr (.inl (fun _ => 0)))), (q5, .inl (G.2 1, 40, .inr (.inl (fun _ => 0)))), (q6, .inl (G.2 0, 200, .inl (fun _ => 0))), (q7, .inl (G.2 2, 200, .inl (fun _ => 0))), (q8, .inl (G.2 0, 120, .inl (fun _ => 0))), (q9, .inl (G.2 0, 6, .inl (fun _ => 0)))] := hD
  have e0 : [(h0, .inr (3, [.ref q1, .ref q2, .ref q3, .ref q4, .ref q5, .int 0, .ref q6, .ref q7, .int 0, .ref q8, .int 0, .ref q9, .int 0])), (q1, .inl (G.2 0, 8, .inl (fun _ => 0))), (q2, .inl (G.2 0, 8, .inl (fun _ => 0))), (q3, .inl (G.2 1, 320, .inr (.inl (fun _ => 0)))), (q4, .inl (G.2 1, 320, .inr (.inl (fun _ => 0)))), (q5, .inl (G.2 1, 40, .inr (.inl (fun _ => 0)))), (q6, .inl (G.2 0, 200, .inl (fun _ => 0))), (q7, .inl (G.2 2, 200, .inl (fun _ => 0))), (q8, .inl (G.2 0, 120, .inl (fun _ => 0))), (q9, .inl (G.2 0, 6, .inl (fun _ => 0)))] = wl 10 (va_up (fun k => match k with | 1 => q1 | 2 => q2 | 3 => q3 | 4 => q4 | 5 => q5 | 6 => q6 | 7 => q7 | 8 => q8 | _ => q9) 0 h0) (EM G (va_up (fun k => match k with | 1 => q1 | 2 => q2 | 3 => q3 | 4 => q4 | 5 => q5 | 6 => q6 | 7 => q7 | 8 => q8 | _ => q9) 0 h0) M0) := rfl
  rw [e0] at hP hD
  exact W.vret hx hb hret (fun t ht _ => ⟨⟨(fun k => match k with | 1 => q1 | 2 => q2 | 3 => q3 | 4 => q4 | 5 => q5 | 6 => q6 | 7 => q7 | 8 => q8 | _ => q9), rfl, trivial, by rw [ht]; exact hP, hD⟩, hS.F ht⟩) hS.2.2 dX3_init_80
