abbrev bsL (G : Gx) (h0 q1 q2 q3 q4 q5 q6 q7 q8 q9 q10 : Nat) (f : Nat → Option Nat) : va_W := [(h0, .inr (2, [.ref q1, .ref q2, .ref q3, .ref q4, .ref q10, .int (nI 0), .int (nI 0), .int (nI 0)])), (q1, .inl (G.2 3, 8, .inr (.inr (.inr (.inr f))))), (q2, .inl (G.2 0, 200, .inl (fun _ => 0))), (q3, .inl (G.2 2, 200, .inl (fun _ => 0))), (q4, .inr (0, [.ref q5, .ref q6, .ref q7, .ref q8, .ref q9, .int (nI 0)])), (q5, .inl (G.2 0, 24, .inl (fun _ => 0))), (q6, .inl (G.2 0, 24, .inl (fun _ => 0))), (q7, .inl (G.2 0, 24, .inl (fun _ => 0))), (q8, .inl (G.2 0, 24, .inl (fun _ => 0))), (q9, .inl (G.2 0, 24, .inl (fun _ => 0))), (q10, .inl (G.2 0, 5, .inl (fun _ => 0)))]
def flt (G : Gx) (L : List (Nat × Nat × Nat)) : va_W := L.flatMap (fun t => w0_Rk G t.1 t.2)
theorem flt_app (G : Gx) (L : List (Nat × Nat × Nat)) (t : Nat × Nat × Nat) : flt G (L ++ [t]) = flt G L ++ w0_Rk G t.1 t.2 := by simp [flt]
theorem flt_len (G : Gx) : ∀ L : List (Nat × Nat × Nat), (flt G L).length = 3 * L.length
  | [] => rfl
  | t :: L => by
    have := flt_len G L
    simp only [flt, List.flatMap_cons, List.length_append, List.length_cons, List.length_nil] at this ⊢
    omega
theorem fst_app (L : List (Nat × Nat × Nat)) (t : Nat × Nat × Nat) : va_up (fun r => (L[r]?).map Prod.fst) L.length (some t.1) = fun r => ((L ++ [t])[r]?).map Prod.fst := by
  funext r
  unfold va_up
  by_cases h : r = L.length
  · rw [if_pos h, h]; simp
  · rw [if_neg h]
    by_cases h2 : r < L.length
    · rw [List.getElem?_append_left h2]
    · show (L[r]?).map Prod.fst = ((L ++ [t])[r]?).map Prod.fst
      rw [List.getElem?_eq_none (l := L) (by omega), List.getElem?_eq_none (l := L ++ [t]) (by simp; omega)]
theorem at_q {D : va_G} {x : Nat} {cA : ClassId} {n : Nat} {f g : Nat → Option Nat} {H : Heap} (he : ∀ j, j < n → f j = g j) (h : va_at D vwCl (x, .inl (cA, n, .inr (.inr (.inr (.inr f))))) H) : va_at D vwCl (x, .inl (cA, n, .inr (.inr (.inr (.inr g))))) H := by
  have e : vp_cell cA (n, .inr (.inr (.inr (.inr f)))) = vp_cell cA (n, .inr (.inr (.inr (.inr g)))) := by
    rw [vp_cell_q, vp_cell_q]
    unfold arrV
    congr 1
    congr 1
    funext j
    exact congrArg va_rf (he j.val j.isLt)
  show H[x]? = some (vp_cell cA (n, .inr (.inr (.inr (.inr g)))))
  rw [← e]; exact h
theorem toWl {D : va_G} {N : Nat} {ws : va_W} {a : Nat → Nat} {E : Nat → va_E} {A : Nat → Prop} {H : Heap} (pos : Nat → Nat) (hi : ∀ i j, i < N → j < N → pos i = pos j → i = j) (h : ∀ k, k < N → ∃ e, ws[pos k]? = some (a k, e) ∧ (va_at D vwCl (a k, e) H → va_at D vwCl (a k, E k) H)) (hP : va_P D vwCl ws H) (hD : va_D A ws) : va_P D vwCl (wl N a E) H ∧ va_D A (wl N a E) := by
  refine ⟨fun k q hk => ?_, fun i j x y hx hy hxy => ?_, fun k q hk => ?_⟩
  · obtain ⟨h1, rfl⟩ := wl_inv hk
    obtain ⟨e, h2, h3⟩ := h k h1
    exact h3 (hP _ _ h2)
  · obtain ⟨h1, rfl⟩ := wl_inv hx
    obtain ⟨h2, rfl⟩ := wl_inv hy
    obtain ⟨e1, a1, -⟩ := h i h1
    obtain ⟨e2, a2, -⟩ := h j h2
    exact hi i j h1 h2 (hD.1 _ _ _ _ a1 a2 hxy)
  · obtain ⟨h1, rfl⟩ := wl_inv hk
    obtain ⟨e1, a1, -⟩ := h k h1
    have h9 := hD.2 _ _ a1
    exact h9
def pos35 (k : Nat) : Nat := if k < 11 then k else if k < 19 then 11 + 3 * (k - 11) else if k < 27 then 12 + 3 * (k - 19) else 13 + 3 * (k - 27)
theorem pos35_inj (i j : Nat) (hi : i < 35) (hj : j < 35) (h : pos35 i = pos35 j) : i = j := by
  unfold pos35 at h
  repeat' split at h
  all_goals omega
abbrev B0 : BS := (S0, fun _ _ => 0)

set_option maxRecDepth 100000 in
set_option maxHeartbeats 4000000 in
theorem wl35 (G : Gx) (h0 q1 q2 q3 q4 q5 q6 q7 q8 q9 q10 : Nat) (t0 t1 t2 t3 t4 t5 t6 t7 : Nat × Nat × Nat) {A : Nat → Prop} {H : Heap} (hP : va_P G.1 vwCl (bsL G h0 q1 q2 q3 q4 q5 q6 q7 q8 q9 q10 (fun r => ([t0, t1, t2, t3, t4, t5, t6, t7][r]?).map Prod.fst) ++ flt G [t0, t1, t2, t3, t4, t5, t6, t7]) H) (hD : va_D A (bsL G h0 q1 q2 q3 q4 q5 q6 q7 q8 q9 q10 (fun r => ([t0, t1, t2, t3, t4, t5, t6, t7][r]?).map Prod.fst) ++ flt G [t0, t1, t2, t3, t4, t5, t6, t7])) : ∃ a : Nat → Nat, va_P G.1 vwCl (wl 35 (va_up a 0 h0) (EB G (va_up a 0 h0) B0)) H ∧ va_D A (wl 35 (va_up a 0 h0) (EB G (va_up a 0 h0) B0)) := by
  refine ⟨fun k => match k with | 1 => q1 | 2 => q2 | 3 => q3 | 4 => q4 | 5 => q5 | 6 => q6 | 7 => q7 | 8 => q8 | 9 => q9 | 10 => q10 | 11 => t0.1 | 12 => t1.1 | 13 => t2.1 | 14 => t3.1 | 15 => t4.1 | 16 => t5.1 | 17 => t6.1 | 18 => t7.1 | 19 => t0.2.1 | 20 => t1.2.1 | 21 => t2.2.1 | 22 => t3.2.1 | 23 => t4.2.1 | 24 => t5.2.1 | 25 => t6.2.1 | 26 => t7.2.1 | 27 => t0.2.2 | 28 => t1.2.2 | 29 => t2.2.2 | 30 => t3.2.2 | 31 => t4.2.2 | 32 => t5.2.2 | 33 => t6.2.2 | _ => t7.2.2, toWl pos35 pos35_inj ?_ hP hD⟩
  intro k hk
  match k, hk with
  | 0, _ => exact ⟨_, rfl, id⟩
  | 1, _ => exact ⟨_, rfl, at_q (fun j hj => by rcases (show j = 0 ∨ j = 1 ∨ j = 2 ∨ j = 3 ∨ j = 4 ∨ j = 5 ∨ j = 6 ∨ j = 7 by omega) with rfl | rfl | rfl | rfl | rfl | rfl | rfl | rfl <;> rfl)⟩
  | 2, _ => exact ⟨_, rfl, id⟩
  | 3, _ => exact ⟨_, rfl, id⟩
  | 4, _ => exact ⟨_, rfl, id⟩
  | 5, _ => exact ⟨_, rfl, id⟩
  | 6, _ => exact ⟨_, rfl, id⟩
  | 7, _ => exact ⟨_, rfl, id⟩
  | 8, _ => exact ⟨_, rfl, id⟩
  | 9, _ => exact ⟨_, rfl, id⟩
  | 10, _ => exact ⟨_, rfl, id⟩
  | 11, _ => exact ⟨_, rfl, id⟩
  | 12, _ => exact ⟨_, rfl, id⟩
  | 13, _ => exact ⟨_, rfl, id⟩
  | 14, _ => exact ⟨_, rfl, id⟩
  | 15, _ => exact ⟨_, rfl, id⟩
  | 16, _ => exact ⟨_, rfl, id⟩
  | 17, _ => exact ⟨_, rfl, id⟩
  | 18, _ => exact ⟨_, rfl, id⟩
  | 19, _ => exact ⟨_, rfl, id⟩
  | 20, _ => exact ⟨_, rfl, id⟩
  | 21, _ => exact ⟨_, rfl, id⟩
  | 22, _ => exact ⟨_, rfl, id⟩
  | 23, _ => exact ⟨_, rfl, id⟩
  | 24, _ => exact ⟨_, rfl, id⟩
  | 25, _ => exact ⟨_, rfl, id⟩
  | 26, _ => exact ⟨_, rfl, id⟩
  | 27, _ => exact ⟨_, rfl, id⟩
  | 28, _ => exact ⟨_, rfl, id⟩
  | 29, _ => exact ⟨_, rfl, id⟩
  | 30, _ => exact ⟨_, rfl, id⟩
  | 31, _ => exact ⟨_, rfl, id⟩
  | 32, _ => exact ⟨_, rfl, id⟩
  | 33, _ => exact ⟨_, rfl, id⟩
  | 34, _ => exact ⟨_, rfl, id⟩
  | k + 35, h => exact absurd h (by omega)

set_option maxHeartbeats 4000000 in
set_option maxRecDepth 100000 in
theorem c_X2_init (l : Launch) (G : Gx) (h0 sz : Nat) : CtK (σ := Nat → Nat) l G yX2_init cX2_init 2 2 40 34 1211 h0 (.inr (2, [.null, .null, .null, .null, .null, .int 0, .int 0, .int 0])) sz (fun a => wl 35 (va_up a 0 h0) (EB G (va_up a 0 h0) B0)) := by
  refine ent_K (by decide) rfl (Nat.le_of_ble_eq_true rfl) ?_
  intro p e s m below meth c ls A hAe C hO hin hP hD hS hA hret hlk hl
  have C : Cx p s m _ c cX2_init RX2 2 G := C
  have hx := C.1
  have hb := C.2.1
  have hl : lv_has ls 2 [(0, .ref h0)] := hl
  have hP : va_P G.1 vwCl [(h0, .inr (2, [.null, .null, .null, .null, .null, .int 0, .int 0, .int 0]))] s.heap := hP
  have hD : va_D A [(h0, .inr (2, [.null, .null, .null, .null, .null, .int 0, .int 0, .int 0]))] := hD
  refine lv_aload_n hx hb dX2_init_0 rfl (lv_at hl 0 rfl) ?_
  refine W.objInit hx hb C.2.2.2.1 (C.2.2.2.2.1 (.methodLink RX2 1 objectInit) (List.mem_of_getElem? (i := 10) rfl)) (C.2.2.2.2.1 (.instanceMethod objectInit) (List.mem_of_getElem? (i := 11) rfl)) (C.2.2.2.2.1 (.code objectInit ⟨#[0xb1]⟩ 1 none) (List.mem_of_getElem? (i := 12) rfl)) rfl (by rw [C.2.2.1]; exact hl.1) rfl dX2_init_1 (Nat.le_of_ble_eq_true rfl) (Nat.le_of_ble_eq_true rfl) ?_
  refine W.eq (g2 := F0 m 4 ls []) rfl ?_
  refine lv_aload_n hx hb dX2_init_4 rfl (lv_at hl 0 rfl) ?_
  refine lv_bipush (v := nI 8) hx hb dX2_init_5 (by decide) ?_
  refine kn_q (n := 8) C hO hP hD hS hA (List.mem_of_getElem? (i := 13) rfl) (by decide) (Nat.le_of_ble_eq_true rfl) (Nat.le_of_ble_eq_true rfl) dX2_init_7 (fun q1 H hP hD hS => ?_)
  have hP : va_P G.1 vwCl [(h0, .inr (2, [.null, .null, .null, .null, .null, .int 0, .int 0, .int 0])), (q1, .inl (G.2 3, 8, .inr (.inr (.inr (.inr (fun _ => none))))))] H := hP
  have hD : va_D A [(h0, .inr (2, [.null, .null, .null, .null, .null, .int 0, .int 0, .int 0])), (q1, .inl (G.2 3, 8, .inr (.inr (.inr (.inr (fun _ => none))))))] := hD
  refine W.widen (k := 1) (n := 8) (Nat.le_of_ble_eq_true rfl) (Nat.le_of_ble_eq_true rfl) ?_
  refine kp_F (ty := .array (.object "BeadLoom$Rack")) C hP hD hS hin 0 rfl inlX2 tyX2 tyX2_ok nmX2 rfl 0 (by decide) (List.mem_of_getElem? (i := 14) rfl) rfl rfl (by decide +kernel) rfl rfl (Nat.le_of_ble_eq_true rfl) dX2_init_10 (fun H locs hP hD hS => ?_)
  have hP : va_P G.1 vwCl [(h0, .inr (2, [.ref q1, .null, .null, .null, .null, .int 0, .int 0, .int 0])), (q1, .inl (G.2 3, 8, .inr (.inr (.inr (.inr (fun _ => none))))))] H := hP
  have hD : va_D A [(h0, .inr (2, [.ref q1, .null, .null, .null, .null, .int 0, .int 0, .int 0])), (q1, .inl (G.2 3, 8, .inr (.inr (.inr (.inr (fun _ => none))))))] := hD
  refine lv_aload_n hx hb dX2_init_13 rfl (lv_at hl 0 rfl) ?_
  refine lv_sipush (v := nI 200) hx hb dX2_init_14 (by decide) ?_
  refine kn_i (n := 200) C hP hD hS hA (by decide) (Nat.le_of_ble_eq_true rfl) (Nat.le_of_ble_eq_true rfl) dX2_init_17 (fun q2 H hP hD hS => ?_)
  have hP : va_P G.1 vwCl [(h0, .inr (2, [.ref q1, .null, .null, .null, .null, .int 0, .int 0, .int 0])), (q1, .inl (G.2 3, 8, .inr (.inr (.inr (.inr (fun _ => none)))))), (q2, .inl (G.2 0, 200, .inl (fun _ => 0)))] H := hP
  have hD : va_D A [(h0, .inr (2, [.ref q1, .null, .null, .null, .null, .int 0, .int 0, .int 0])), (q1, .inl (G.2 3, 8, .inr (.inr (.inr (.inr (fun _ => none)))))), (q2, .inl (G.2 0, 200, .inl (fun _ => 0)))] := hD
  refine W.widen (k := 2) (n := 208) (Nat.le_of_ble_eq_true rfl) (Nat.le_of_ble_eq_true rfl) ?_
  refine kp_F (ty := .array .int) C hP hD hS hin 0 rfl inlX2 tyX2 tyX2_ok nmX2 rfl 1 (by decide) (List.mem_of_getElem? (i := 16) rfl) rfl rfl (by decide +kernel) rfl rfl (Nat.le_of_ble_eq_true rfl) dX2_init_19 (fun H locs hP hD hS => ?_)
  have hP : va_P G.1 vwCl [(h0, .inr (2, [.ref q1, .ref q2, .null, .null, .null, .int 0, .int 0, .int 0])), (q1, .inl (G.2 3, 8, .inr (.inr (.inr (.inr (fun _ => none)))))), (q2, .inl (G.2 0, 200, .inl (fun _ => 0)))] H := hP
  have hD : va_D A [(h0, .inr (2, [.ref q1, .ref q2, .null, .null, .null, .int 0, .int 0, .int 0])), (q1, .inl (G.2 3, 8, .inr (.inr (.inr (.inr (fun _ => none)))))), (q2, .inl (G.2 0, 200, .inl (fun _ => 0)))] := hD
  refine lv_aload_n hx hb dX2_init_22 rfl (lv_at hl 0 rfl) ?_
  refine lv_sipush (v := nI 200) hx hb dX2_init_23 (by decide) ?_
  refine kn_z (n := 200) C hP hD hS hA (by decide) (Nat.le_of_ble_eq_true rfl) (Nat.le_of_ble_eq_true rfl) dX2_init_26 (fun q3 H hP hD hS => ?_)
  have hP : va_P G.1 vwCl [(h0, .inr (2, [.ref q1, .ref q2, .null, .null, .null, .int 0, .int 0, .int 0])), (q1, .inl (G.2 3, 8, .inr (.inr (.inr (.inr (fun _ => none)))))), (q2, .inl (G.2 0, 200, .inl (fun _ => 0))), (q3, .inl (G.2 2, 200, .inl (fun _ => 0)))] H := hP
  have hD : va_D A [(h0, .inr (2, [.ref q1, .ref q2, .null, .null, .null, .int 0, .int 0, .int 0])), (q1, .inl (G.2 3, 8, .inr (.inr (.inr (.inr (fun _ => none)))))), (q2, .inl (G.2 0, 200, .inl (fun _ => 0))), (q3, .inl (G.2 2, 200, .inl (fun _ => 0)))] := hD
  refine W.widen (k := 3) (n := 408) (Nat.le_of_ble_eq_true rfl) (Nat.le_of_ble_eq_true rfl) ?_
  refine kp_F (ty := .array .boolean) C hP hD hS hin 0 rfl inlX2 tyX2 tyX2_ok nmX2 rfl 2 (by decide) (List.mem_of_getElem? (i := 18) rfl) rfl rfl (by decide +kernel) rfl rfl (Nat.le_of_ble_eq_true rfl) dX2_init_28 (fun H locs hP hD hS => ?_)
  have hP : va_P G.1 vwCl [(h0, .inr (2, [.ref q1, .ref q2, .ref q3, .null, .null, .int 0, .int 0, .int 0])), (q1, .inl (G.2 3, 8, .inr (.inr (.inr (.inr (fun _ => none)))))), (q2, .inl (G.2 0, 200, .inl (fun _ => 0))), (q3, .inl (G.2 2, 200, .inl (fun _ => 0)))] H := hP
  have hD : va_D A [(h0, .inr (2, [.ref q1, .ref q2, .ref q3, .null, .null, .int 0, .int 0, .int 0])), (q1, .inl (G.2 3, 8, .inr (.inr (.inr (.inr (fun _ => none)))))), (q2, .inl (G.2 0, 200, .inl (fun _ => 0))), (q3, .inl (G.2 2, 200, .inl (fun _ => 0)))] := hD
  refine lv_aload_n hx hb dX2_init_31 rfl (lv_at hl 0 rfl) ?_
  refine va_new (tys := gTy G) (ci := 0) (fs := [.null, .null, .null, .null, .null, .int 0]) (C := RX0) (T := TX0) (N := 6) hx hb C.2.2.2.2.1 inlX0 tyX0 tyX0_ok C.2.2.2.1 (C.2.2.2.2.1 (.classLink RX2 23 RX0) (List.mem_of_getElem? (i := 19) rfl)) (C.2.2.2.2.1 (.instantiable RX0 6) (List.mem_of_getElem? (i := 20) rfl)) (C.2.2.2.2.1 (.initialized RX0) (List.mem_of_getElem? (i := 21) rfl)) C.2.2.2.2.2.1 hP hD hS hA rfl (fun j hj => by rcases (show j = 0 ∨ j = 1 ∨ j = 2 ∨ j = 3 ∨ j = 4 ∨ j = 5 by omega) with rfl | rfl | rfl | rfl | rfl | rfl <;> rfl) (Nat.le_of_ble_eq_true rfl) (Nat.le_of_ble_eq_true rfl) dX2_init_32 (fun q4 H hP hD hS => ?_)
  refine W.widen (k := 4) (n := 414) (Nat.le_of_ble_eq_true rfl) (Nat.le_of_ble_eq_true rfl) ?_
  have hP : va_P G.1 vwCl ([(h0, .inr (2, [.ref q1, .ref q2, .ref q3, .null, .null, .int 0, .int 0, .int 0])), (q1, .inl (G.2 3, 8, .inr (.inr (.inr (.inr (fun _ => none)))))), (q2, .inl (G.2 0, 200, .inl (fun _ => 0))), (q3, .inl (G.2 2, 200, .inl (fun _ => 0)))] ++ [(q4, .inr (0, [.null, .null, .null, .null, .null, .int 0]))]) H := hP
  have hD : va_D A ([(h0, .inr (2, [.ref q1, .ref q2, .ref q3, .null, .null, .int 0, .int 0, .int 0])), (q1, .inl (G.2 3, 8, .inr (.inr (.inr (.inr (fun _ => none)))))), (q2, .inl (G.2 0, 200, .inl (fun _ => 0))), (q3, .inl (G.2 2, 200, .inl (fun _ => 0)))] ++ [(q4, .inr (0, [.null, .null, .null, .null, .null, .int 0]))]) := hD
  refine lv_dup hx hb dX2_init_35 rfl ?_
  refine rKN (rest := [.ref q4, .ref h0]) C hO hP hD hS hA (List.mem_of_getElem? (i := 30) rfl) (List.mem_of_getElem? (i := 21) rfl) (List.mem_of_getElem? (i := 15) rfl) (List.mem_of_getElem? (i := 29) rfl) rfl (by decide +kernel) (c_X0_init l G q4 H.size) ⟨Nat.le_of_ble_eq_true rfl, Nat.le_of_ble_eq_true rfl⟩ hl.1 (Nat.le_of_ble_eq_true rfl) dX2_init_36 ⟨Nat.le_of_ble_eq_true rfl, Nat.le_of_ble_eq_true rfl⟩ (fun u H locs hP hD hS => ?_)
  obtain ⟨q5, q6, q7, q8, q9⟩ := u
  have hP : va_P G.1 vwCl [(h0, .inr (2, [.ref q1, .ref q2, .ref q3, .null, .null, .int 0, .int 0, .int 0])), (q1, .inl (G.2 3, 8, .inr (.inr (.inr (.inr (fun _ => none)))))), (q2, .inl (G.2 0, 200, .inl (fun _ => 0))), (q3, .inl (G.2 2, 200, .inl (fun _ => 0))), (q4, .inr (0, [.ref q5, .ref q6, .ref q7, .ref q8, .ref q9, .int (nI 0)])), (q5, .inl (G.2 0, 24, .inl (fun _ => 0))), (q6, .inl (G.2 0, 24, .inl (fun _ => 0))), (q7, .inl (G.2 0, 24, .inl (fun _ => 0))), (q8, .inl (G.2 0, 24, .inl (fun _ => 0))), (q9, .inl (G.2 0, 24, .inl (fun _ => 0)))] H := hP
  have hD : va_D A [(h0, .inr (2, [.ref q1, .ref q2, .ref q3, .null, .null, .int 0, .int 0, .int 0])), (q1, .inl (G.2 3, 8, .inr (.inr (.inr (.inr (fun _ => none)))))), (q2, .inl (G.2 0, 200, .inl (fun _ => 0))), (q3, .inl (G.2 2, 200, .inl (fun _ => 0))), (q4, .inr (0, [.ref q5, .ref q6, .ref q7, .ref q8, .ref q9, .int (nI 0)])), (q5, .inl (G.2 0, 24, .inl (fun _ => 0))), (q6, .inl (G.2 0, 24, .inl (fun _ => 0))), (q7, .inl (G.2 0, 24, .inl (fun _ => 0))), (q8, .inl (G.2 0, 24, .inl (fun _ => 0))), (q9, .inl (G.2 0, 24, .inl (fun _ => 0)))] := hD
  refine W.widen (k := 9) (n := 534) (Nat.le_of_ble_eq_true rfl) (Nat.le_of_ble_eq_true rfl) ?_
  refine kp_F (ty := .object "BeadLoom$Pattern") C hP hD hS hin 0 rfl inlX2 tyX2 tyX2_ok nmX2 rfl 3 (by decide) (List.mem_of_getElem? (i := 22) rfl) rfl rfl (by decide +kernel) rfl rfl (Nat.le_of_ble_eq_true rfl) dX2_init_39 (fun H locs hP hD hS => ?_)
  have hP : va_P G.1 vwCl [(h0, .inr (2, [.ref q1, .ref q2, .ref q3, .ref q4, .null, .int 0, .int 0, .int 0])), (q1, .inl (G.2 3, 8, .inr (.inr (.inr (.inr (fun _ => none)))))), (q2, .inl (G.2 0, 200, .inl (fun _ => 0))), (q3, .inl (G.2 2, 200, .inl (fun _ => 0))), (q4, .inr (0, [.ref q5, .ref q6, .ref q7, .ref q8, .ref q9, .int (nI 0)])), (q5, .inl (G.2 0, 24, .inl (fun _ => 0))), (q6, .inl (G.2 0, 24, .inl (fun _ => 0))), (q7, .inl (G.2 0, 24, .inl (fun _ => 0))), (q8, .inl (G.2 0, 24, .inl (fun _ => 0))), (q9, .inl (G.2 0, 24, .inl (fun _ => 0)))] H := hP
  have hD : va_D A [(h0, .inr (2, [.ref q1, .ref q2, .ref q3, .ref q4, .null, .int 0, .int 0, .int 0])), (q1, .inl (G.2 3, 8, .inr (.inr (.inr (.inr (fun _ => none)))))), (q2, .inl (G.2 0, 200, .inl (fun _ => 0))), (q3, .inl (G.2 2, 200, .inl (fun _ => 0))), (q4, .inr (0, [.ref q5, .ref q6, .ref q7, .ref q8, .ref q9, .int (nI 0)])), (q5, .inl (G.2 0, 24, .inl (fun _ => 0))), (q6, .inl (G.2 0, 24, .inl (fun _ => 0))), (q7, .inl (G.2 0, 24, .inl (fun _ => 0))), (q8, .inl (G.2 0, 24, .inl (fun _ => 0))), (q9, .inl (G.2 0, 24, .inl (fun _ => 0)))] := hD
  refine lv_aload_n hx hb dX2_init_42 rfl (lv_at hl 0 rfl) ?_
  refine lv_iconst (v := nI 5) hx hb dX2_init_43 (by decide) ?_
  refine kn_i (n := 5) C hP hD hS hA (by decide) (Nat.le_of_ble_eq_true rfl) (Nat.le_of_ble_eq_true rfl) dX2_init_44 (fun q10 H hP hD hS => ?_)
  have hP : va_P G.1 vwCl [(h0, .inr (2, [.ref q1, .ref q2, .ref q3, .ref q4, .null, .int 0, .int 0, .int 0])), (q1, .inl (G.2 3, 8, .inr (.inr (.inr (.inr (fun _ => none)))))), (q2, .inl (G.2 0, 200, .inl (fun _ => 0))), (q3, .inl (G.2 2, 200, .inl (fun _ => 0))), (q4, .inr (0, [.ref q5, .ref q6, .ref q7, .ref q8, .ref q9, .int (nI 0)])), (q5, .inl (G.2 0, 24, .inl (fun _ => 0))), (q6, .inl (G.2 0, 24, .inl (fun _ => 0))), (q7, .inl (G.2 0, 24, .inl (fun _ => 0))), (q8, .inl (G.2 0, 24, .inl (fun _ => 0))), (q9, .inl (G.2 0, 24, .inl (fun _ => 0))), (q10, .inl (G.2 0, 5, .inl (fun _ => 0)))] H := hP
  have hD : va_D A [(h0, .inr (2, [.ref q1, .ref q2, .ref q3, .ref q4, .null, .int 0, .int 0, .int 0])), (q1, .inl (G.2 3, 8, .inr (.inr (.inr (.inr (fun _ => none)))))), (q2, .inl (G.2 0, 200, .inl (fun _ => 0))), (q3, .inl (G.2 2, 200, .inl (fun _ => 0))), (q4, .inr (0, [.ref q5, .ref q6, .ref q7, .ref q8, .ref q9, .int (nI 0)])), (q5, .inl (G.2 0, 24, .inl (fun _ => 0))), (q6, .inl (G.2 0, 24, .inl (fun _ => 0))), (q7, .inl (G.2 0, 24, .inl (fun _ => 0))), (q8, .inl (G.2 0, 24, .inl (fun _ => 0))), (q9, .inl (G.2 0, 24, .inl (fun _ => 0))), (q10, .inl (G.2 0, 5, .inl (fun _ => 0)))] := hD
  refine W.widen (k := 10) (n := 539) (Nat.le_of_ble_eq_true rfl) (Nat.le_of_ble_eq_true rfl) ?_
  refine kp_F (ty := .array .int) C hP hD hS hin 0 rfl inlX2 tyX2 tyX2_ok nmX2 rfl 4 (by decide) (List.mem_of_getElem? (i := 23) rfl) rfl rfl (by decide +kernel) rfl rfl (Nat.le_of_ble_eq_true rfl) dX2_init_46 (fun H locs hP hD hS => ?_)
  have hP : va_P G.1 vwCl [(h0, .inr (2, [.ref q1, .ref q2, .ref q3, .ref q4, .ref q10, .int 0, .int 0, .int 0])), (q1, .inl (G.2 3, 8, .inr (.inr (.inr (.inr (fun _ => none)))))), (q2, .inl (G.2 0, 200, .inl (fun _ => 0))), (q3, .inl (G.2 2, 200, .inl (fun _ => 0))), (q4, .inr (0, [.ref q5, .ref q6, .ref q7, .ref q8, .ref q9, .int (nI 0)])), (q5, .inl (G.2 0, 24, .inl (fun _ => 0))), (q6, .inl (G.2 0, 24, .inl (fun _ => 0))), (q7, .inl (G.2 0, 24, .inl (fun _ => 0))), (q8, .inl (G.2 0, 24, .inl (fun _ => 0))), (q9, .inl (G.2 0, 24, .inl (fun _ => 0))), (q10, .inl (G.2 0, 5, .inl (fun _ => 0)))] H := hP
  have hD : va_D A [(h0, .inr (2, [.ref q1, .ref q2, .ref q3, .ref q4, .ref q10, .int 0, .int 0, .int 0])), (q1, .inl (G.2 3, 8, .inr (.inr (.inr (.inr (fun _ => none)))))), (q2, .inl (G.2 0, 200, .inl (fun _ => 0))), (q3, .inl (G.2 2, 200, .inl (fun _ => 0))), (q4, .inr (0, [.ref q5, .ref q6, .ref q7, .ref q8, .ref q9, .int (nI 0)])), (q5, .inl (G.2 0, 24, .inl (fun _ => 0))), (q6, .inl (G.2 0, 24, .inl (fun _ => 0))), (q7, .inl (G.2 0, 24, .inl (fun _ => 0))), (q8, .inl (G.2 0, 24, .inl (fun _ => 0))), (q9, .inl (G.2 0, 24, .inl (fun _ => 0))), (q10, .inl (G.2 0, 5, .inl (fun _ => 0)))] := hD
  refine lv_aload_n hx hb dX2_init_49 rfl (lv_at hl 0 rfl) ?_
  refine lv_iconst (v := nI 0) hx hb dX2_init_50 (by decide) ?_
  refine kp_I C hP hD hS 0 rfl inlX2 tyX2 tyX2_ok nmX2 rfl 5 (by decide) (List.mem_of_getElem? (i := 24) rfl) rfl (by decide +kernel) (Nat.le_of_ble_eq_true rfl) dX2_init_51 (fun H locs hP hD hS => ?_)
  have hP : va_P G.1 vwCl [(h0, .inr (2, [.ref q1, .ref q2, .ref q3, .ref q4, .ref q10, .int (nI 0), .int 0, .int 0])), (q1, .inl (G.2 3, 8, .inr (.inr (.inr (.inr (fun _ => none)))))), (q2, .inl (G.2 0, 200, .inl (fun _ => 0))), (q3, .inl (G.2 2, 200, .inl (fun _ => 0))), (q4, .inr (0, [.ref q5, .ref q6, .ref q7, .ref q8, .ref q9, .int (nI 0)])), (q5, .inl (G.2 0, 24, .inl (fun _ => 0))), (q6, .inl (G.2 0, 24, .inl (fun _ => 0))), (q7, .inl (G.2 0, 24, .inl (fun _ => 0))), (q8, .inl (G.2 0, 24, .inl (fun _ => 0))), (q9, .inl (G.2 0, 24, .inl (fun _ => 0))), (q10, .inl (G.2 0, 5, .inl (fun _ => 0)))] H := hP
  have hD : va_D A [(h0, .inr (2, [.ref q1, .ref q2, .ref q3, .ref q4, .ref q10, .int (nI 0), .int 0, .int 0])), (q1, .inl (G.2 3, 8, .inr (.inr (.inr (.inr (fun _ => none)))))), (q2, .inl (G.2 0, 200, .inl (fun _ => 0))), (q3, .inl (G.2 2, 200, .inl (fun _ => 0))), (q4, .inr (0, [.ref q5, .ref q6, .ref q7, .ref q8, .ref q9, .int (nI 0)])), (q5, .inl (G.2 0, 24, .inl (fun _ => 0))), (q6, .inl (G.2 0, 24, .inl (fun _ => 0))), (q7, .inl (G.2 0, 24, .inl (fun _ => 0))), (q8, .inl (G.2 0, 24, .inl (fun _ => 0))), (q9, .inl (G.2 0, 24, .inl (fun _ => 0))), (q10, .inl (G.2 0, 5, .inl (fun _ => 0)))] := hD
  refine lv_aload_n hx hb dX2_init_54 rfl (lv_at hl 0 rfl) ?_
  refine lv_iconst (v := nI 0) hx hb dX2_init_55 (by decide) ?_
  refine kp_I C hP hD hS 0 rfl inlX2 tyX2 tyX2_ok nmX2 rfl 6 (by decide) (List.mem_of_getElem? (i := 25) rfl) rfl (by decide +kernel) (Nat.le_of_ble_eq_true rfl) dX2_init_56 (fun H locs hP hD hS => ?_)
  have hP : va_P G.1 vwCl [(h0, .inr (2, [.ref q1, .ref q2, .ref q3, .ref q4, .ref q10, .int (nI 0), .int (nI 0), .int 0])), (q1, .inl (G.2 3, 8, .inr (.inr (.inr (.inr (fun _ => none)))))), (q2, .inl (G.2 0, 200, .inl (fun _ => 0))), (q3, .inl (G.2 2, 200, .inl (fun _ => 0))), (q4, .inr (0, [.ref q5, .ref q6, .ref q7, .ref q8, .ref q9, .int (nI 0)])), (q5, .inl (G.2 0, 24, .inl (fun _ => 0))), (q6, .inl (G.2 0, 24, .inl (fun _ => 0))), (q7, .inl (G.2 0, 24, .inl (fun _ => 0))), (q8, .inl (G.2 0, 24, .inl (fun _ => 0))), (q9, .inl (G.2 0, 24, .inl (fun _ => 0))), (q10, .inl (G.2 0, 5, .inl (fun _ => 0)))] H := hP
  have hD : va_D A [(h0, .inr (2, [.ref q1, .ref q2, .ref q3, .ref q4, .ref q10, .int (nI 0), .int (nI 0), .int 0])), (q1, .inl (G.2 3, 8, .inr (.inr (.inr (.inr (fun _ => none)))))), (q2, .inl (G.2 0, 200, .inl (fun _ => 0))), (q3, .inl (G.2 2, 200, .inl (fun _ => 0))), (q4, .inr (0, [.ref q5, .ref q6, .ref q7, .ref q8, .ref q9, .int (nI 0)])), (q5, .inl (G.2 0, 24, .inl (fun _ => 0))), (q6, .inl (G.2 0, 24, .inl (fun _ => 0))), (q7, .inl (G.2 0, 24, .inl (fun _ => 0))), (q8, .inl (G.2 0, 24, .inl (fun _ => 0))), (q9, .inl (G.2 0, 24, .inl (fun _ => 0))), (q10, .inl (G.2 0, 5, .inl (fun _ => 0)))] := hD
  refine lv_aload_n hx hb dX2_init_59 rfl (lv_at hl 0 rfl) ?_
  refine lv_iconst (v := nI 0) hx hb dX2_init_60 (by decide) ?_
  refine kp_I C hP hD hS 0 rfl inlX2 tyX2 tyX2_ok nmX2 rfl 7 (by decide) (List.mem_of_getElem? (i := 26) rfl) rfl (by decide +kernel) (Nat.le_of_ble_eq_true rfl) dX2_init_61 (fun H locs hP hD hS => ?_)
  have hP : va_P G.1 vwCl [(h0, .inr (2, [.ref q1, .ref q2, .ref q3, .ref q4, .ref q10, .int (nI 0), .int (nI 0), .int (nI 0)])), (q1, .inl (G.2 3, 8, .inr (.inr (.inr (.inr (fun _ => none)))))), (q2, .inl (G.2 0, 200, .inl (fun _ => 0))), (q3, .inl (G.2 2, 200, .inl (fun _ => 0))), (q4, .inr (0, [.ref q5, .ref q6, .ref q7, .ref q8, .ref q9, .int (nI 0)])), (q5, .inl (G.2 0, 24, .inl (fun _ => 0))), (q6, .inl (G.2 0, 24, .inl (fun _ => 0))), (q7, .inl (G.2 0, 24, .inl (fun _ => 0))), (q8, .inl (G.2 0, 24, .inl (fun _ => 0))), (q9, .inl (G.2 0, 24, .inl (fun _ => 0))), (q10, .inl (G.2 0, 5, .inl (fun _ => 0)))] H := hP
  have hD : va_D A [(h0, .inr (2, [.ref q1, .ref q2, .ref q3, .ref q4, .ref q10, .int (nI 0), .int (nI 0), .int (nI 0)])), (q1, .inl (G.2 3, 8, .inr (.inr (.inr (.inr (fun _ => none)))))), (q2, .inl (G.2 0, 200, .inl (fun _ => 0))), (q3, .inl (G.2 2, 200, .inl (fun _ => 0))), (q4, .inr (0, [.ref q5, .ref q6, .ref q7, .ref q8, .ref q9, .int (nI 0)])), (q5, .inl (G.2 0, 24, .inl (fun _ => 0))), (q6, .inl (G.2 0, 24, .inl (fun _ => 0))), (q7, .inl (G.2 0, 24, .inl (fun _ => 0))), (q8, .inl (G.2 0, 24, .inl (fun _ => 0))), (q9, .inl (G.2 0, 24, .inl (fun _ => 0))), (q10, .inl (G.2 0, 5, .inl (fun _ => 0)))] := hD
  have lp : ∀ (n j : Nat) (L : List (Nat × Nat × Nat)) (H : Heap) (locs : List Loc) (ls : Array Slot), L.length = j → j ≤ 8 → 8 < j + n → va_P G.1 vwCl (bsL G h0 q1 q2 q3 q4 q5 q6 q7 q8 q9 q10 (fun r => (L[r]?).map Prod.fst) ++ flt G L) H → va_D A (bsL G h0 q1 q2 q3 q4 q5 q6 q7 q8 q9 q10 (fun r => (L[r]?).map Prod.fst) ++ flt G L) → va_S A s.heap H locs → lv_has ls 2 [(0, .ref h0), (1, .int (nI j))] → W p l e (rmK 2 40 34 1211) s m [Value.ref h0].toArray below meth c H locs (10 + 3 * j) (539 + 84 * j) (MQ below (va_Qv (fun _ : Nat → Nat => True) (fun u t => va_P G.1 vwCl (wl 35 (va_up u 0 h0) (EB G (va_up u 0 h0) B0)) t.heap ∧ va_D A (wl 35 (va_up u 0 h0) (EB G (va_up u 0 h0) B0))) A) [Value.ref h0].toArray s 34 1211 A) (F0 m 66 ls []) := by
    intro n
    induction n with
    | zero =>
      intro j L H locs ls hL hj hn
      exact absurd hn (by omega)
    | succ n ih =>
      intro j L H locs ls hL hj hn hP hD hS hl
      refine lv_iload_n hx hb dX2_init_66 rfl (lv_at hl 1 rfl) ?_
      refine lv_bipush (v := nI 8) hx hb dX2_init_67 (by decide) ?_
      refine lv_icmp_ge (tgt := 91) hx hb dX2_init_69 (by decide) (fun c69 => ?_) (fun c69 => ?_)
      · have hj8 : j = 8 := by rw [nI_leI (by omega) (by omega)] at c69; omega
        rw [hj8] at hL ⊢
        match L, hL, hP, hD with
        | [t0, t1, t2, t3, t4, t5, t6, t7], _, hP, hD =>
          obtain ⟨a, hP2, hD2⟩ := wl35 G h0 q1 q2 q3 q4 q5 q6 q7 q8 q9 q10 t0 t1 t2 t3 t4 t5 t6 t7 hP hD
          exact W.vret hx hb hret (fun t ht _ => ⟨⟨a, rfl, trivial, by rw [ht]; exact hP2, hD2⟩, hS.F ht⟩) hS.2.2 dX2_init_91
      · have hj8 : j < 8 := by rw [nI_leI (by omega) (by omega)] at c69; omega
        refine lv_aload_n hx hb dX2_init_72 rfl (lv_at hl 0 rfl) ?_
        refine va_get (D := G.1) (tys := gTy G) (ci := 2) (v := .ref q1) (C := RX2) (T := TX2) (N := 8) hx hb C.2.2.2.2.1 inlX2 C.2.2.2.1 C.2.2.2.2.2.1 hP 0 rfl rfl 0 (by decide) (C.2.2.2.2.1 (.fieldLink RX2 11 "BeadLoom" "racks" "[LBeadLoom$Rack;") (List.mem_of_getElem? (i := 14) rfl)) (fun _ h9 => h9) rfl dX2_init_73 ?_
        refine lv_iload_n hx hb dX2_init_76 rfl (lv_at hl 1 rfl) ?_
        refine va_new (tys := gTy G) (ci := 1) (fs := [.null, .null, .int 0, .int 0]) (C := RX1) (T := TX1) (N := 4) hx hb C.2.2.2.2.1 inlX1 tyX1 tyX1_ok C.2.2.2.1 (C.2.2.2.2.1 (.classLink RX2 9 RX1) (List.mem_of_getElem? (i := 13) rfl)) (C.2.2.2.2.1 (.instantiable RX1 4) (List.mem_of_getElem? (i := 27) rfl)) (C.2.2.2.2.1 (.initialized RX1) (List.mem_of_getElem? (i := 28) rfl)) C.2.2.2.2.2.1 hP hD hS hA rfl (fun j hj => by rcases (show j = 0 ∨ j = 1 ∨ j = 2 ∨ j = 3 by omega) with rfl | rfl | rfl | rfl <;> rfl) (by show 10 + 3 * j + 1 ≤ 34; omega) (by show 539 + 84 * j + 4 ≤ 1211; omega) dX2_init_77 (fun x1 H hP hD hS => ?_)
        refine lv_dup hx hb dX2_init_80 rfl ?_
        refine rKN (rest := [.ref x1, .int (nI j), .ref q1]) C hO hP hD hS hA (List.mem_of_getElem? (i := 39) rfl) (List.mem_of_getElem? (i := 28) rfl) (List.mem_of_getElem? (i := 16) rfl) (List.mem_of_getElem? (i := 38) rfl) rfl (by decide +kernel) (c_X1_init l G x1 H.size) ⟨Nat.le_of_ble_eq_true rfl, Nat.le_of_ble_eq_true rfl⟩ hl.1 (Nat.le_of_ble_eq_true rfl) dX2_init_81 ⟨by show 10 + 3 * j + 1 + 2 ≤ 34; omega, by show 539 + 84 * j + 4 + 80 ≤ 1211; omega⟩ (fun u H locs hP hD hS => ?_)
        have hlen : (bsL G h0 q1 q2 q3 q4 q5 q6 q7 q8 q9 q10 (fun r => (L[r]?).map Prod.fst) ++ flt G L).length = 11 + 3 * j := by rw [List.length_append, flt_len, hL]; rfl
        refine va_astq (tys := gTy G) (r := (RX1, TX1, 4)) (vs := [.ref u.1, .ref u.2, .int (nI 0), .int (nI 0)]) hx hb C.2.2.2.2.2.1 hP hD hS 1 3 (11 + 3 * j) 1 rfl rfl (by rw [List.getElem?_append_right (by omega), hlen, Nat.sub_self]; rfl) rfl (vp_in_nI hj8 (by decide)) dX2_init_84 (fun H locs hP hD hS => ?_)
        rw [nI_clamp (by omega)] at hP hD
        have hset : (((bsL G h0 q1 q2 q3 q4 q5 q6 q7 q8 q9 q10 (fun r => (L[r]?).map Prod.fst) ++ flt G L) ++ w0_Rk G x1 u)).set 1 (q1, .inl (G.2 3, 8, .inr (.inr (.inr (.inr (va_up (fun r => (L[r]?).map Prod.fst) j (some x1))))))) = bsL G h0 q1 q2 q3 q4 q5 q6 q7 q8 q9 q10 (fun r => ((L ++ [(x1, u)])[r]?).map Prod.fst) ++ flt G (L ++ [(x1, u)]) := by
          rw [flt_app, ← fst_app, hL, ← List.append_assoc]; rfl
        rw [hset] at hP hD
        refine lv_iinc (v := nI (j + 1)) (lv' := [(1, .int (nI (j + 1))), (0, .ref h0)]) hx hb dX2_init_85 hl (k := 1) rfl (nI_1 j) (by decide) rfl (fun ls hl => ?_)
        refine lv_goto (tgt := 66) hx hb dX2_init_88 (by decide) ?_
        refine W.widen (k := 10 + 3 * (j + 1)) (n := 539 + 84 * (j + 1)) (by omega) (by omega) ?_
        exact ih (j + 1) (L ++ [(x1, u)]) _ _ _ (by simp [hL]) (by omega) (by omega) hP hD hS (lv_sub hl [1, 0] rfl)
  refine lv_iconst (v := nI 0) hx hb dX2_init_64 (by decide) ?_
  refine lv_istore_n (lv' := [(1, .int (nI 0)), (0, .ref h0)]) hx hb dX2_init_65 rfl hl (by decide) rfl (fun ls hl => ?_)
  exact lp 9 0 [] _ _ _ rfl (by omega) (by omega) (by show va_P G.1 vwCl (bsL G h0 q1 q2 q3 q4 q5 q6 q7 q8 q9 q10 (fun _ => none) ++ []) _; rw [List.append_nil]; exact hP) (by show va_D A (bsL G h0 q1 q2 q3 q4 q5 q6 q7 q8 q9 q10 (fun _ => none) ++ []); rw [List.append_nil]; exact hD) hS (lv_sub hl [1, 0] rfl)
