/-! constructors: worlds that grow -/
theorem joinLast {A0 : Nat → Prop} {D : va_G} {cl : List vw_C} {ws w1 : va_W} {q : Nat} {e : va_E} {H H1 : Heap} (hP : va_P D cl (ws ++ [(q, e)]) H) (hD : va_D A0 (ws ++ [(q, e)])) (hk : ∀ x, x < H.size → ¬ va_A [(q, e)] H.size x → H1[x]? = H[x]?) (hF : ∀ x, va_A [(q, e)] H.size x → A0 x) (hP1 : va_P D cl w1 H1) (hD1 : va_D (va_A [(q, e)] H.size) w1) : va_P D cl (ws ++ w1) H1 ∧ va_D A0 (ws ++ w1) := by
  have hlast : (ws ++ [(q, e)])[ws.length]? = some (q, e) := by simp
  have hin : ∀ (k : Nat) (x : Nat × va_E), ws[k]? = some x → (ws ++ [(q, e)])[k]? = some x ∧ k < ws.length := fun k x hx => by
    have hl := (List.getElem?_eq_some_iff.mp hx).1
    exact ⟨by rw [List.getElem?_append_left hl]; exact hx, hl⟩
  have apart : ∀ (k : Nat) (x : Nat × va_E), ws[k]? = some x → x.1 < H.size ∧ ¬ va_A [(q, e)] H.size x.1 := fun k x hx => by
    obtain ⟨h1, h2⟩ := hin k x hx
    have hlt := (hP k x h1).lt
    refine ⟨hlt, fun z => ?_⟩
    rcases z with ⟨k2, e2, z⟩ | z
    · have hz : k2 < 1 := (List.getElem?_eq_some_iff.mp z).1
      rw [show k2 = 0 by omega] at z
      have hq : q = x.1 := congrArg Prod.fst (Option.some.inj z)
      have := hD.1 k ws.length x (q, e) h1 hlast hq.symm
      omega
    · omega
  refine ⟨va_P.app (fun k x hx => (hP k x (hin k x hx).1).kept (hk x.1 (apart k x hx).1 (apart k x hx).2)) hP1, va_D.app ⟨fun i j x y hx hy hxy => hD.1 i j x y (hin i x hx).1 (hin j y hy).1 hxy, fun k x hx => hD.2 k x (hin k x hx).1⟩ (hD1.weaken (fun k x _ z => hF x.1 z)) (fun i j x y hx hy hxy => ?_)⟩
  exact (apart i x hx).2 (by rw [hxy]; exact hD1.2 j y hy)
theorem freeLast {A0 : Nat → Prop} {ws : va_W} {q : Nat} {e : va_E} {H0 H : Heap} {locs : List Loc} (hD : va_D A0 (ws ++ [(q, e)])) (hS : va_S A0 H0 H locs) (hA : ∀ q, H0.size ≤ q → A0 q) : ∀ x, va_A [(q, e)] H.size x → A0 x := by
  intro x z
  rcases z with ⟨k2, e2, z⟩ | z
  · have hz : k2 < 1 := (List.getElem?_eq_some_iff.mp z).1
    rw [show k2 = 0 by omega] at z
    have hq : q = x := congrArg Prod.fst (Option.some.inj z)
    have := hD.2 ws.length (q, e) (by simp)
    rw [← hq]; exact this
  · exact hA x (Nat.le_trans hS.1 z)
section KN
variable {p : Program} {l : Launch} {e : Env} {R : Room} {s : State} {m : MethodId} {args : Array Value} {below : List Frame} {meth : Method} {c : Code} {H : Heap} {locs : List Loc} {cells slots : Nat} {Q : State → Prop}
variable {cc : ByteArray} {own : String} {nL : Nat} {G : Gx} {pc : Nat} {ls : Array Slot} {rest : List Value} {ws : va_W} {A : Nat → Prop} {H0 : Heap}
theorem kn_i (C : Cx p s m args c cc own nL G) (hP : va_P G.1 vwCl ws H) (hD : va_D A ws) (hS : va_S A H0 H locs) (hA : ∀ q, H0.size ≤ q → A q) {n : Nat} (hn : n ≤ 400) (hcells : cells + 1 ≤ R.cells) (hslots : slots + n ≤ R.slots) (hdg : decode cc pc = .ok (.newarray .int, 2))
    (kk : ∀ (q : Nat) (H1 : Heap), va_P G.1 vwCl (ws ++ [(q, .inl (G.2 0, n, .inl (fun _ => 0)))]) H1 → va_D A (ws ++ [(q, .inl (G.2 0, n, .inl (fun _ => 0)))]) → va_S A H0 H1 locs → W p l e R s m args below meth c H1 locs (cells + 1) (slots + n) Q (F0 m (pc + 2) ls (.ref q :: rest))) : W p l e R s m args below meth c H locs cells slots Q (F0 m pc ls (.int (nI n) :: rest)) := by
  refine va_newa (tys := gTy G) (ty := .int) (a0 := (n, .inl (fun _ => 0))) C.1 C.2.1 (C.2.2.2.2.1 _ (by decide +kernel)) rfl C.2.2.2.2.2.1 hP hD hS hA (fun _ => rfl) (nI_pos (by omega)) (nI_clamp (by omega)) (by show n * 4 ≤ _; omega) hcells hslots hdg (fun q cA H1 hK1 hP1 hD1 hS1 => ?_)
  have e1 : s.vm.findClass ("[" ++ FieldType.int.toString) = some cA := (hK1.2 4 (cA, .int) rfl).2
  have e2 : s.vm.findClass ("[" ++ FieldType.int.toString) = some (G.2 0) := (C.2.2.2.2.2.1.2 0 (G.2 0, .int) rfl).2
  have e3 : cA = G.2 0 := Option.some.inj (e1.symm.trans e2)
  subst e3
  exact kk q H1 hP1 hD1 hS1
theorem kn_l (C : Cx p s m args c cc own nL G) (hP : va_P G.1 vwCl ws H) (hD : va_D A ws) (hS : va_S A H0 H locs) (hA : ∀ q, H0.size ≤ q → A q) {n : Nat} (hn : n ≤ 400) (hcells : cells + 1 ≤ R.cells) (hslots : slots + n ≤ R.slots) (hdg : decode cc pc = .ok (.newarray .long, 2))
    (kk : ∀ (q : Nat) (H1 : Heap), va_P G.1 vwCl (ws ++ [(q, .inl (G.2 1, n, .inr (.inl (fun _ => 0))))]) H1 → va_D A (ws ++ [(q, .inl (G.2 1, n, .inr (.inl (fun _ => 0))))]) → va_S A H0 H1 locs → W p l e R s m args below meth c H1 locs (cells + 1) (slots + n) Q (F0 m (pc + 2) ls (.ref q :: rest))) : W p l e R s m args below meth c H locs cells slots Q (F0 m pc ls (.int (nI n) :: rest)) := by
  refine va_newa (tys := gTy G) (ty := .long) (a0 := (n, .inr (.inl (fun _ => 0)))) C.1 C.2.1 (C.2.2.2.2.1 _ (by decide +kernel)) rfl C.2.2.2.2.2.1 hP hD hS hA (fun _ => rfl) (nI_pos (by omega)) (nI_clamp (by omega)) (by show n * 8 ≤ _; omega) hcells hslots hdg (fun q cA H1 hK1 hP1 hD1 hS1 => ?_)
  have e1 : s.vm.findClass ("[" ++ FieldType.long.toString) = some cA := (hK1.2 4 (cA, .long) rfl).2
  have e2 : s.vm.findClass ("[" ++ FieldType.long.toString) = some (G.2 1) := (C.2.2.2.2.2.1.2 1 (G.2 1, .long) rfl).2
  have e3 : cA = G.2 1 := Option.some.inj (e1.symm.trans e2)
  subst e3
  exact kk q H1 hP1 hD1 hS1
theorem kn_z (C : Cx p s m args c cc own nL G) (hP : va_P G.1 vwCl ws H) (hD : va_D A ws) (hS : va_S A H0 H locs) (hA : ∀ q, H0.size ≤ q → A q) {n : Nat} (hn : n ≤ 400) (hcells : cells + 1 ≤ R.cells) (hslots : slots + n ≤ R.slots) (hdg : decode cc pc = .ok (.newarray .boolean, 2))
    (kk : ∀ (q : Nat) (H1 : Heap), va_P G.1 vwCl (ws ++ [(q, .inl (G.2 2, n, .inl (fun _ => 0)))]) H1 → va_D A (ws ++ [(q, .inl (G.2 2, n, .inl (fun _ => 0)))]) → va_S A H0 H1 locs → W p l e R s m args below meth c H1 locs (cells + 1) (slots + n) Q (F0 m (pc + 2) ls (.ref q :: rest))) : W p l e R s m args below meth c H locs cells slots Q (F0 m pc ls (.int (nI n) :: rest)) := by
  refine va_newa (tys := gTy G) (ty := .boolean) (a0 := (n, .inl (fun _ => 0))) C.1 C.2.1 (C.2.2.2.2.1 _ (by decide +kernel)) rfl C.2.2.2.2.2.1 hP hD hS hA (fun _ => rfl) (nI_pos (by omega)) (nI_clamp (by omega)) (by show n * 1 ≤ _; omega) hcells hslots hdg (fun q cA H1 hK1 hP1 hD1 hS1 => ?_)
  have e1 : s.vm.findClass ("[" ++ FieldType.boolean.toString) = some cA := (hK1.2 4 (cA, .boolean) rfl).2
  have e2 : s.vm.findClass ("[" ++ FieldType.boolean.toString) = some (G.2 2) := (C.2.2.2.2.2.1.2 2 (G.2 2, .boolean) rfl).2
  have e3 : cA = G.2 2 := Option.some.inj (e1.symm.trans e2)
  subst e3
  exact kk q H1 hP1 hD1 hS1
theorem kn_q (C : Cx p s m args c cc own nL G) (hO : va_AO RX1 s) (hP : va_P G.1 vwCl ws H) (hD : va_D A ws) (hS : va_S A H0 H locs) (hA : ∀ q, H0.size ≤ q → A q) {n index : Nat} (hcl : Cond.classLink own index RX1 ∈ wsL_law) (hn : n ≤ 400) (hcells : cells + 1 ≤ R.cells) (hslots : slots + n ≤ R.slots) (hdg : decode cc pc = .ok (.anewarray index, 3))
    (kk : ∀ (q : Nat) (H1 : Heap), va_P G.1 vwCl (ws ++ [(q, .inl (G.2 3, n, .inr (.inr (.inr (.inr (fun _ => none))))))]) H1 → va_D A (ws ++ [(q, .inl (G.2 3, n, .inr (.inr (.inr (.inr (fun _ => none))))))]) → va_S A H0 H1 locs → W p l e R s m args below meth c H1 locs (cells + 1) (slots + n) Q (F0 m (pc + 3) ls (.ref q :: rest))) : W p l e R s m args below meth c H locs cells slots Q (F0 m pc ls (.int (nI n) :: rest)) := by
  refine va_newq (tys := gTy G) (C := RX1) C.1 C.2.1 C.2.2.2.1 (C.2.2.2.2.1 _ hcl) hO C.2.2.2.2.2.1 hP hD hS hA (nI_pos (by omega)) (nI_clamp (by omega)) (by omega) hcells hslots hdg (fun q cA H1 hK1 hP1 hD1 hS1 => ?_)
  obtain ⟨_, _, _, _, _, e1⟩ := (hK1.2 4 (cA, .object RX1) rfl).2
  obtain ⟨_, _, _, _, _, e2⟩ := (C.2.2.2.2.2.1.2 3 (G.2 3, .object RX1) rfl).2
  have e3 : cA = G.2 3 := Option.some.inj (e1.symm.trans e2)
  subst e3
  exact kk q H1 hP1 hD1 hS1
/-- a final field that a constructor sets -/
theorem kp_F (C : Cx p s m args c cc own nL G) (hP : va_P G.1 vwCl ws H) (hD : va_D A ws) (hS : va_S A H0 H locs) (hin2 : meth.name = "<init>") (q0 : Nat) {a ci : Nat} {fs : List Value} (he : ws[q0]? = some (a, .inr (ci, fs))) {Cn : String} {T : u_T} {Nf : Nat} (hin : ∀ w ∈ u_ws Cn T Nf, w ∈ wsL_law) (ty0 : Nat → FieldType) (hty : ∀ k, k < Nf → parseFieldDescriptor (T k).2.2.1 = some (ty0 k)) (hnm : ∀ a, a < Nf → ∀ b, b < Nf → a ≠ b → (T a).2.1 ≠ (T b).2.1) (hc : vwCl[ci]? = some (Cn, T, Nf)) (j : Nat) (hj : j < Nf) {index : Nat} (hlink : Cond.fieldLink own index (T j).1 (T j).2.1 (T j).2.2.1 ∈ wsL_law) (hfin : (T j).2.2.2 = true) (hdecl : (T j).1 = own) {ty : FieldType} (hd : parseFieldDescriptor (T j).2.2.1 = some ty) {v : Nat} (hn : narrow ty (.ref v) = .ref v) (hfit : fits ty (.ref v) = true) (hl : j < fs.length) (hdg : decode cc pc = .ok (.putfield index, 3))
    (kk : ∀ (H1 : Heap) (locs1 : List Loc), va_P G.1 vwCl (ws.set q0 (a, .inr (ci, fs.set j (.ref v)))) H1 → va_D A (ws.set q0 (a, .inr (ci, fs.set j (.ref v)))) → va_S A H0 H1 locs1 → W p l e R s m args below meth c H1 locs1 cells slots Q (F0 m (pc + 3) ls rest)) : W p l e R s m args below meth c H locs cells slots Q (F0 m pc ls (.ref v :: .ref a :: rest)) :=
  va_putF C.1 C.2.1 C.2.2.2.2.1 hin ty0 hty hnm C.2.2.2.1 C.2.2.2.2.2.1 hP hD hS q0 he hc j hj (C.2.2.2.2.1 _ hlink) (fun _ x => x) hfin hin2 hdecl hd hn hfit hl hdg kk
theorem kp_I (C : Cx p s m args c cc own nL G) (hP : va_P G.1 vwCl ws H) (hD : va_D A ws) (hS : va_S A H0 H locs) (q0 : Nat) {a ci : Nat} {fs : List Value} (he : ws[q0]? = some (a, .inr (ci, fs))) {Cn : String} {T : u_T} {Nf : Nat} (hin : ∀ w ∈ u_ws Cn T Nf, w ∈ wsL_law) (ty0 : Nat → FieldType) (hty : ∀ k, k < Nf → parseFieldDescriptor (T k).2.2.1 = some (ty0 k)) (hnm : ∀ a, a < Nf → ∀ b, b < Nf → a ≠ b → (T a).2.1 ≠ (T b).2.1) (hc : vwCl[ci]? = some (Cn, T, Nf)) (j : Nat) (hj : j < Nf) {index : Nat} (hlink : Cond.fieldLink own index (T j).1 (T j).2.1 (T j).2.2.1 ∈ wsL_law) (hfin : (T j).2.2.2 = false) (hd : parseFieldDescriptor (T j).2.2.1 = some .int) {v : Int32} (hl : j < fs.length) (hdg : decode cc pc = .ok (.putfield index, 3))
    (kk : ∀ (H1 : Heap) (locs1 : List Loc), va_P G.1 vwCl (ws.set q0 (a, .inr (ci, fs.set j (.int v)))) H1 → va_D A (ws.set q0 (a, .inr (ci, fs.set j (.int v)))) → va_S A H0 H1 locs1 → W p l e R s m args below meth c H1 locs1 cells slots Q (F0 m (pc + 3) ls rest)) : W p l e R s m args below meth c H locs cells slots Q (F0 m pc ls (.int v :: .ref a :: rest)) :=
  va_put C.1 C.2.1 C.2.2.2.2.1 hin ty0 hty hnm C.2.2.2.1 C.2.2.2.2.2.1 hP hD hS q0 he hc j hj (C.2.2.2.2.1 _ hlink) (fun _ x => x) hfin hd rfl rfl hl hdg kk
end KN
/-- a constructor's contract -/
abbrev rmK (f lo mc ms : Nat) : Room := { frames := f, cells := mc, slots := ms, locals := lo }
def PreK (G : Gx) (h0 : Nat) (e0 : va_E) (sz : Nat) (U : State) : Prop := U.heap.size = sz ∧ va_P G.1 vwCl [(h0, e0)] U.heap ∧ va_K G.1 vwCl (gTy G) U ∧ Nest U ∧ va_AO RX1 U
def CtK {σ : Type} (l : Launch) (G : Gx) (y : MethodName) (cc : ByteArray) (n f lo mc ms : Nat) (h0 : Nat) (e0 : va_E) (sz : Nat) (W1 : σ → va_W) : Prop :=
  Met l y (.code y cc n none :: wsL_law) (rmK f lo mc ms) (va_Pc [.ref h0] (PreK G h0 e0 sz)) (va_Qv (fun _ : σ => True) (fun u t => va_P G.1 vwCl (W1 u) t.heap ∧ va_D (va_A [(h0, e0)] sz) (W1 u)) (va_A [(h0, e0)] sz)) mc ms (va_A [(h0, e0)] sz)
theorem ent_K {σ : Type} {l : Launch} {G : Gx} {y : MethodName} {cc : ByteArray} {n f lo mc ms h0 sz : Nat} {e0 : va_E} {W1 : σ → va_W}
    (hy : plainName y.cls = true) (hyi : y.name = "<init>") (hn : (lg_sl [Value.ref h0]).length ≤ n)
    (body : ∀ (p : Program) (e : Env) (s : State) (m : MethodId) (below : List Frame) (meth : Method) (c : Code) (ls : Array Slot) (A : Nat → Prop), va_A [(h0, e0)] s.heap.size = A → Cx p s m [Value.ref h0].toArray c cc y.cls n G → va_AO RX1 s → meth.name = "<init>" → va_P G.1 vwCl [(h0, e0)] s.heap → va_D A [(h0, e0)] → va_S A s.heap s.heap [] → (∀ q, s.heap.size ≤ q → A q) → meth.sig.returnType = none → meth.locks = false → lv_has ls n (lv_args 0 [Value.ref h0]) →
      W p l e (rmK f lo mc ms) s m [Value.ref h0].toArray below meth c s.heap [] 0 0 (MQ below (va_Qv (fun _ : σ => True) (fun u t => va_P G.1 vwCl (W1 u) t.heap ∧ va_D A (W1 u)) A) [Value.ref h0].toArray s mc ms A) (F0 m 0 ls [])) : CtK l G y cc n f lo mc ms h0 e0 sz W1 := by
  refine Met.ofW (cc := cc) (maxL := n) (ret := none) hy rfl ?_
  intro p e s m args below meth c s₁ B hml hv
  obtain ⟨rfl, hsz, hP, hK, hN, hO⟩ := hv
  subst hsz
  have hts := atoms_spec (ws := .code y cc n none :: wsL_law) B.pre
  have hown : s.vm.findClass y.cls = some m.cls := findClass_of_methodNamed B.named
  have hin : meth.name = "<init>" := (name_of_methodNamed B.named B.method).1.trans hyi
  have hD : va_D (va_A [(h0, e0)] s.heap.size) [(h0, e0)] := by
    refine ⟨fun i j x y hx hy _ => ?_, fun k q hk => va_A.in hk⟩
    have h1 : i < 1 := (List.getElem?_eq_some_iff.mp hx).1
    have h2 : j < 1 := (List.getElem?_eq_some_iff.mp hy).1
    omega
  rw [lg_entry_eq]
  exact body p e s m below meth c _ _ rfl ⟨B.exec, B.bytes, hml, hown, fun w hw => hts w (List.mem_cons_of_mem _ hw), hK, hN⟩ hO hin hP hD va_S.rf (fun q h => Or.inr h) B.returns B.notSynchronized (lv_entry _ hn)
