/-! contracts over a world of a fixed number of cells -/
abbrev rmB (f lo : Nat) : Room := { frames := f, cells := 0, slots := 0, locals := lo }
def PreW {σ : Type} (G : Gx) (N : Nat) (a : Nat → Nat) (E : σ → Nat → va_E) (u0 : σ) (U : State) : Prop := HW G.1 N a (E u0) U.heap ∧ va_K G.1 vwCl (gTy G) U ∧ Nest U
def CtI {σ : Type} (l : Launch) (G : Gx) (N : Nat) (a : Nat → Nat) (E : σ → Nat → va_E) (y : MethodName) (cc : ByteArray) (n : Nat) (ret : Option FieldType) (f lo : Nat) (As : List Value) (u0 : σ) (post : Int32 → σ → Prop) : Prop :=
  Met l y (.code y cc n ret :: wsL_law) (rmB f lo) (va_Pc As (PreW G N a E u0)) (va_Qi post (fun u t => HW G.1 N a (E u) t.heap) (Aw N a)) 0 0 (Aw N a)
def CtL {σ : Type} (l : Launch) (G : Gx) (N : Nat) (a : Nat → Nat) (E : σ → Nat → va_E) (y : MethodName) (cc : ByteArray) (n : Nat) (ret : Option FieldType) (f lo : Nat) (As : List Value) (u0 : σ) (post : Int64 → σ → Prop) : Prop :=
  Met l y (.code y cc n ret :: wsL_law) (rmB f lo) (va_Pc As (PreW G N a E u0)) (va_Ql post (fun u t => HW G.1 N a (E u) t.heap) (Aw N a)) 0 0 (Aw N a)
def CtV {σ : Type} (l : Launch) (G : Gx) (N : Nat) (a : Nat → Nat) (E : σ → Nat → va_E) (y : MethodName) (cc : ByteArray) (n : Nat) (ret : Option FieldType) (f lo : Nat) (As : List Value) (u0 : σ) (post : σ → Prop) : Prop :=
  Met l y (.code y cc n ret :: wsL_law) (rmB f lo) (va_Pc As (PreW G N a E u0)) (va_Qv post (fun u t => HW G.1 N a (E u) t.heap) (Aw N a)) 0 0 (Aw N a)
def CtQ {σ : Type} (l : Launch) (G : Gx) (N : Nat) (a : Nat → Nat) (E : σ → Nat → va_E) (y : MethodName) (cc : ByteArray) (n : Nat) (ret : Option FieldType) (f lo : Nat) (As : List Value) (u0 : σ) (post : Option Nat → σ → Prop) : Prop :=
  Met l y (.code y cc n ret :: wsL_law) (rmB f lo) (va_Pc As (PreW G N a E u0)) (va_Qq post (fun u t => HW G.1 N a (E u) t.heap) (Aw N a)) 0 0 (Aw N a)
/-- what every walk of such a method begins with -/
def EntW {σ : Type} (p : Program) (s : State) (m : MethodId) (args : Array Value) (c : Code) (cc : ByteArray) (own : String) (n : Nat) (G : Gx) (N : Nat) (a : Nat → Nat) (E : σ → Nat → va_E) (u0 : σ) : Prop := Cx p s m args c cc own n G ∧ HW G.1 N a (E u0) s.heap ∧ va_S (Aw N a) s.heap s.heap []
theorem ent_of {σ : Type} {l : Launch} {G : Gx} {N : Nat} {a : Nat → Nat} {E : σ → Nat → va_E} {y : MethodName} {cc : ByteArray} {n : Nat} {ret : Option FieldType} {f lo : Nat} {As : List Value} {u0 : σ} {Qc : Array Value → State → Outcome → State → Prop}
    (hy : plainName y.cls = true) (hn : (lg_sl As).length ≤ n)
    (body : ∀ (p : Program) (e : Env) (s : State) (m : MethodId) (below : List Frame) (meth : Method) (c : Code) (ls : Array Slot), Cx p s m As.toArray c cc y.cls n G → HW G.1 N a (E u0) s.heap → va_S (Aw N a) s.heap s.heap [] → meth.sig.returnType = ret → meth.locks = false → lv_has ls n (lv_args 0 As) →
      W p l e (rmB f lo) s m As.toArray below meth c s.heap [] 0 0 (MQ below Qc As.toArray s 0 0 (Aw N a)) (F0 m 0 ls [])) : Met l y (.code y cc n ret :: wsL_law) (rmB f lo) (va_Pc As (PreW G N a E u0)) Qc 0 0 (Aw N a) := by
  refine Met.ofW (cc := cc) (maxL := n) (ret := ret) hy rfl ?_
  intro p e s m args below meth c s₁ B hml hv
  obtain ⟨rfl, hH, hK, hN⟩ := hv
  have hts := atoms_spec (ws := .code y cc n ret :: wsL_law) B.pre
  have hown : s.vm.findClass y.cls = some m.cls := findClass_of_methodNamed B.named
  rw [lg_entry_eq]
  exact body p e s m below meth c _ ⟨B.exec, B.bytes, hml, hown, fun w hw => hts w (List.mem_cons_of_mem _ hw), hK, hN⟩ hH va_S.rf B.returns B.notSynchronized (lv_entry As hn)
/-! words that a call needs -/
def LkB (own : String) (index : Nat) (y : MethodName) (cc : ByteArray) (n : Nat) (ret : Option FieldType) (k : Nat) : Prop := Cond.code y cc n ret ∈ wsL_law ∧ Cond.initialized y.cls ∈ wsL_law ∧ (y.cls ≠ "java/lang/invoke/MethodHandle" ∧ y.cls ≠ "java/lang/invoke/VarHandle" ∧ (parseMethodDescriptor y.desc).map (fun d => d.parameters.length) = some k)
def LkV (own : String) (index : Nat) (y : MethodName) (cc : ByteArray) (n : Nat) (ret : Option FieldType) (k : Nat) : Prop := LkB own index y cc n ret k ∧ Cond.methodLink own index y ∈ wsL_law ∧ Cond.instanceMethod y ∈ wsL_law ∧ Cond.selects y.cls y y ∈ wsL_law
def LkS (own : String) (index : Nat) (y : MethodName) (cc : ByteArray) (n : Nat) (ret : Option FieldType) (k : Nat) : Prop := LkB own index y cc n ret k ∧ Cond.methodLink own index y ∈ wsL_law ∧ Cond.static y ∈ wsL_law
def LkVN (own : String) (index : Nat) (y : MethodName) (cc : ByteArray) (n : Nat) (ret : Option FieldType) (k : Nat) : Prop := LkB own index y cc n ret k ∧ Cond.methodLinkNest own index y "BeadLoom" ∈ nestW ∧ Cond.instanceMethod y ∈ wsL_law ∧ Cond.selects y.cls y y ∈ wsL_law
def LkSN (own : String) (index : Nat) (y : MethodName) (cc : ByteArray) (n : Nat) (ret : Option FieldType) (k : Nat) : Prop := LkB own index y cc n ret k ∧ Cond.methodLinkNest own index y "BeadLoom" ∈ nestW ∧ Cond.static y ∈ wsL_law
section CALLS
variable {p : Program} {l : Launch} {e : Env} {R : Room} {s : State} {m : MethodId} {args : Array Value} {below : List Frame} {meth : Method} {c : Code} {H : Heap} {locs : List Loc} {cells slots : Nat} {Q : State → Prop}
variable {cc : ByteArray} {own : String} {nL : Nat} {G : Gx} {pc : Nat} {ls : Array Slot} {rest st : List Value} {N : Nat} {a : Nat → Nat} {H0 : Heap} {σ : Type} {E : σ → Nat → va_E} {u0 : σ}
variable {y : MethodName} {cy : ByteArray} {n : Nat} {ret : Option FieldType} {f lo index k : Nat} {As : List Value}
theorem pre_blind (As : List Value) : FrameBlind (va_Pc As (PreW G N a E u0)) := fun a U g mk q => by
  obtain ⟨q0, qH, qK, qN⟩ := q
  exact ⟨q0, qH, va_K.moved (u := U) (U := U.calling g mk a) (Vm.Alike.refl U.vm) qK, qN.call⟩
theorem pre_S (C : Cx p s m args c cc own nL G) (h : HW G.1 N a (E u0) H) (As : List Value) : PreS s H (va_Pc As (PreW G N a E u0)) As :=
  ⟨pre_blind As, fun U hU hW => ⟨rfl, by rw [hU]; exact h, va_K.moved hW.alike C.2.2.2.2.2.1, Nest.warm hW C.2.2.2.2.2.2⟩⟩
theorem pre_V (C : Cx p s m args c cc own nL G) (h : HW G.1 N a (E u0) H) (j : Nat) (hj : j < N) {ci : Nat} {fs : List Value} {q : vw_C} (he : E u0 j = .inr (ci, fs)) (hc : vwCl[ci]? = some q) (As : List Value) : PreV s H q.1 (a j) (va_Pc (.ref (a j) :: As) (PreW G N a E u0)) As :=
  ⟨pre_blind _, va_recv C.2.2.2.2.2.1 h.2 (q0 := j) hc (by rw [wl_at hj, he]), fun U hU hW => ⟨rfl, by rw [hU]; exact h, va_K.moved hW.alike C.2.2.2.2.2.1, Nest.warm hW C.2.2.2.2.2.2⟩⟩
theorem cB (C : Cx p s m args c cc own nL G) (L : LkB own index y cy n ret k) (hl : Cond.methodLink own index y ∈ wsL_law) (hR : f + 1 ≤ R.frames ∧ 8 + (n + 11) + lo ≤ R.locals) : CallB R s args own index y cy n ret (.code y cy n ret :: wsL_law) (rmB f lo) 0 0 k :=
  callB_of k (Ts := wsL_law) C.2.2.2.2.1 (fun w hw => by
    rcases List.mem_cons.mp hw with rfl | h1
    · exact ⟨L.1, (law_good _ L.1).2⟩
    · exact ⟨h1, (law_good _ h1).2⟩) rfl rfl rfl (C.2.2.2.2.1 _ L.2.1) (C.2.2.2.2.1 _ hl) L.2.2 hR
theorem cN (C : Cx p s m args c cc own nL G) (L : LkB own index y cy n ret k) (hl : Cond.methodLinkNest own index y "BeadLoom" ∈ nestW) (hR : f + 1 ≤ R.frames ∧ 8 + (n + 11) + lo ≤ R.locals) : va_CN R s args own index y "BeadLoom" cy n ret (.code y cy n ret :: wsL_law) (rmB f lo) 0 0 k :=
  va_cnB k (Ts := wsL_law) C.2.2.2.2.1 (fun w hw => by
    rcases List.mem_cons.mp hw with rfl | h1
    · exact ⟨L.1, (law_good _ L.1).2⟩
    · exact ⟨h1, (law_good _ h1).2⟩) rfl rfl rfl (C.2.2.2.2.2.2 _ hl) (C.2.2.2.2.1 _ L.2.1) L.2.2 hR
variable {Qc : Array Value → State → Outcome → State → Prop}
theorem rV (C : Cx p s m args c cc own nL G) (h : HW G.1 N a (E u0) H) (L : LkV own index y cy n ret k) (j : Nat) (hj : j < N) {ci : Nat} {fs : List Value} {q : vw_C} (he : E u0 j = .inr (ci, fs)) (hc : vwCl[ci]? = some q) (hq : y.cls = q.1)
    (hM : Met l y (.code y cy n ret :: wsL_law) (rmB f lo) (va_Pc (.ref (a j) :: As) (PreW G N a E u0)) Qc 0 0 (Aw N a)) (hR : f + 1 ≤ R.frames ∧ 8 + (n + 11) + lo ≤ R.locals) (hls : ls.size = nL) (hn : As.length = k) (hst : st = As.reverse ++ .ref (a j) :: rest) (hW : (rest.map fun v => v.category).sum ≤ 8) (hdg : decode cc pc = .ok (.invokevirtual index, 3)) (hf : cells ≤ R.cells ∧ slots ≤ R.slots) :
    va_Run p l e R s m args below meth c H locs cells slots 0 0 (F0 m pc ls st) rest (Qc (Value.ref (a j) :: As).toArray) (Aw N a) :=
  va_runV (C := y.cls) (n := k) (Ts := wsL_law) ⟨C.1, C.2.1, C.2.2.1, C.2.2.2.1, C.2.2.2.2.1⟩ hM ⟨cB C L.1 L.2.1 hR, C.2.2.2.2.1 _ L.2.2.1, C.2.2.2.2.1 _ L.2.2.2⟩ (by rw [hq]; exact pre_V C h j hj he hc As) rfl hn hls hst (lv_room hW) hdg hf
theorem rS (C : Cx p s m args c cc own nL G) (h : HW G.1 N a (E u0) H) (L : LkS own index y cy n ret k)
    (hM : Met l y (.code y cy n ret :: wsL_law) (rmB f lo) (va_Pc As (PreW G N a E u0)) Qc 0 0 (Aw N a)) (hR : f + 1 ≤ R.frames ∧ 8 + (n + 11) + lo ≤ R.locals) (hls : ls.size = nL) (hn : As.length = k) (hst : st = As.reverse ++ rest) (hW : (rest.map fun v => v.category).sum ≤ 8) (hdg : decode cc pc = .ok (.invokestatic index, 3)) (hf : cells ≤ R.cells ∧ slots ≤ R.slots) :
    va_Run p l e R s m args below meth c H locs cells slots 0 0 (F0 m pc ls st) rest (Qc As.toArray) (Aw N a) :=
  va_runS (n := k) (Ts := wsL_law) ⟨C.1, C.2.1, C.2.2.1, C.2.2.2.1, C.2.2.2.2.1⟩ hM ⟨cB C L.1 L.2.1 hR, C.2.2.2.2.1 _ L.2.2⟩ (pre_S C h As) rfl hn hls hst (lv_room hW) hdg hf
theorem rVN (C : Cx p s m args c cc own nL G) (h : HW G.1 N a (E u0) H) (L : LkVN own index y cy n ret k) (j : Nat) (hj : j < N) {ci : Nat} {fs : List Value} {q : vw_C} (he : E u0 j = .inr (ci, fs)) (hc : vwCl[ci]? = some q) (hq : y.cls = q.1)
    (hM : Met l y (.code y cy n ret :: wsL_law) (rmB f lo) (va_Pc (.ref (a j) :: As) (PreW G N a E u0)) Qc 0 0 (Aw N a)) (hR : f + 1 ≤ R.frames ∧ 8 + (n + 11) + lo ≤ R.locals) (hls : ls.size = nL) (hn : As.length = k) (hst : st = As.reverse ++ .ref (a j) :: rest) (hW : (rest.map fun v => v.category).sum ≤ 8) (hdg : decode cc pc = .ok (.invokevirtual index, 3)) (hf : cells ≤ R.cells ∧ slots ≤ R.slots) :
    va_Run p l e R s m args below meth c H locs cells slots 0 0 (F0 m pc ls st) rest (Qc (Value.ref (a j) :: As).toArray) (Aw N a) :=
  va_runVN (C := y.cls) (n := k) (Ts := wsL_law) ⟨C.1, C.2.1, C.2.2.1, C.2.2.2.1, C.2.2.2.2.1⟩ hM ⟨cN C L.1 L.2.1 hR, C.2.2.2.2.1 _ L.2.2.1, C.2.2.2.2.1 _ L.2.2.2⟩ (by rw [hq]; exact pre_V C h j hj he hc As) rfl hn hls hst (lv_room hW) hdg hf
theorem rSN (C : Cx p s m args c cc own nL G) (h : HW G.1 N a (E u0) H) (L : LkSN own index y cy n ret k)
    (hM : Met l y (.code y cy n ret :: wsL_law) (rmB f lo) (va_Pc As (PreW G N a E u0)) Qc 0 0 (Aw N a)) (hR : f + 1 ≤ R.frames ∧ 8 + (n + 11) + lo ≤ R.locals) (hls : ls.size = nL) (hn : As.length = k) (hst : st = As.reverse ++ rest) (hW : (rest.map fun v => v.category).sum ≤ 8) (hdg : decode cc pc = .ok (.invokestatic index, 3)) (hf : cells ≤ R.cells ∧ slots ≤ R.slots) :
    va_Run p l e R s m args below meth c H locs cells slots 0 0 (F0 m pc ls st) rest (Qc As.toArray) (Aw N a) :=
  va_runSN (n := k) (Ts := wsL_law) ⟨C.1, C.2.1, C.2.2.1, C.2.2.2.1, C.2.2.2.2.1⟩ hM ⟨cN C L.1 L.2.1 hR, C.2.2.2.2.1 _ L.2.2, trivial⟩ (pre_S C h As) rfl hn hls hst (lv_room hW) hdg hf
/-! behind a call -/
theorem kI {aa : Array Value} {post : Int32 → σ → Prop} (hr : va_Run p l e R s m args below meth c H locs cells slots 0 0 (F0 m pc ls st) rest (va_Qi post (fun u t => HW G.1 N a (E u) t.heap) (Aw N a) aa) (Aw N a)) (hS : va_S (Aw N a) H0 H locs)
    (kk : ∀ (r : Int32) (u : σ) (H1 : Heap) (locs1 : List Loc), post r u → HW G.1 N a (E u) H1 → va_S (Aw N a) H0 H1 locs1 → W p l e R s m args below meth c H1 locs1 cells slots Q (F0 m (pc + 3) ls (.int r :: rest))) : W p l e R s m args below meth c H locs cells slots Q (F0 m pc ls st) :=
  va_calli hr hS (fun _ _ h => h) (fun _ h => h) (fun r u t H1 l1 ht _ hp hB _ _ hS1 => kk r u H1 l1 hp (by rw [← ht]; exact hB) hS1)
theorem kL {aa : Array Value} {post : Int64 → σ → Prop} (hr : va_Run p l e R s m args below meth c H locs cells slots 0 0 (F0 m pc ls st) rest (va_Ql post (fun u t => HW G.1 N a (E u) t.heap) (Aw N a) aa) (Aw N a)) (hS : va_S (Aw N a) H0 H locs)
    (kk : ∀ (r : Int64) (u : σ) (H1 : Heap) (locs1 : List Loc), post r u → HW G.1 N a (E u) H1 → va_S (Aw N a) H0 H1 locs1 → W p l e R s m args below meth c H1 locs1 cells slots Q (F0 m (pc + 3) ls (.long r :: rest))) : W p l e R s m args below meth c H locs cells slots Q (F0 m pc ls st) :=
  va_calll hr hS (fun _ _ h => h) (fun _ h => h) (fun r u t H1 l1 ht _ hp hB _ _ hS1 => kk r u H1 l1 hp (by rw [← ht]; exact hB) hS1)
theorem kV {aa : Array Value} {post : σ → Prop} (hr : va_Run p l e R s m args below meth c H locs cells slots 0 0 (F0 m pc ls st) rest (va_Qv post (fun u t => HW G.1 N a (E u) t.heap) (Aw N a) aa) (Aw N a)) (hS : va_S (Aw N a) H0 H locs)
    (kk : ∀ (u : σ) (H1 : Heap) (locs1 : List Loc), post u → HW G.1 N a (E u) H1 → va_S (Aw N a) H0 H1 locs1 → W p l e R s m args below meth c H1 locs1 cells slots Q (F0 m (pc + 3) ls rest)) : W p l e R s m args below meth c H locs cells slots Q (F0 m pc ls st) :=
  va_callv hr hS (fun _ _ h => h) (fun _ h => h) (fun u t H1 l1 ht _ hp hB _ _ hS1 => kk u H1 l1 hp (by rw [← ht]; exact hB) hS1)
theorem kQ {aa : Array Value} {post : Option Nat → σ → Prop} (hr : va_Run p l e R s m args below meth c H locs cells slots 0 0 (F0 m pc ls st) rest (va_Qq post (fun u t => HW G.1 N a (E u) t.heap) (Aw N a) aa) (Aw N a)) (hS : va_S (Aw N a) H0 H locs)
    (kk : ∀ (r : Option Nat) (u : σ) (H1 : Heap) (locs1 : List Loc), post r u → HW G.1 N a (E u) H1 → va_S (Aw N a) H0 H1 locs1 → W p l e R s m args below meth c H1 locs1 cells slots Q (F0 m (pc + 3) ls (va_rf r :: rest))) : W p l e R s m args below meth c H locs cells slots Q (F0 m pc ls st) :=
  va_callq hr hS (fun _ _ h => h) (fun _ h => h) (fun r u t H1 l1 ht _ hp hB _ _ hS1 => kk r u H1 l1 hp (by rw [← ht]; exact hB) hS1)
/-! ends -/
theorem eI {post : Int32 → σ → Prop} {v : Int32} (C : Cx p s m args c cc own nL G) (hr : meth.sig.returnType = some .int) (hlocks : meth.locks = false) (u : σ) (h : HW G.1 N a (E u) H) (hS : va_S (Aw N a) s.heap H locs) (hp : post v u) (hdg : decode cc pc = .ok (.ireturn, 1)) :
    W p l e R s m args below meth c H locs cells slots (MQ below (va_Qi post (fun u t => HW G.1 N a (E u) t.heap) (Aw N a)) args s cells slots (Aw N a)) (F0 m pc ls [.int v]) :=
  W.iret C.1 C.2.1 hr (fun t ht _ => ⟨⟨v, u, rfl, hp, by subst ht; exact h⟩, hS.F ht⟩) hS.2.2 hdg hlocks
theorem eZ {post : Int32 → σ → Prop} {v : Int32} (C : Cx p s m args c cc own nL G) (hr : meth.sig.returnType = some .boolean) (hlocks : meth.locks = false) (u : σ) (h : HW G.1 N a (E u) H) (hS : va_S (Aw N a) s.heap H locs) (hn : narrow .boolean (.int v) = .int v) (hp : post v u) (hdg : decode cc pc = .ok (.ireturn, 1)) :
    W p l e R s m args below meth c H locs cells slots (MQ below (va_Qi post (fun u t => HW G.1 N a (E u) t.heap) (Aw N a)) args s cells slots (Aw N a)) (F0 m pc ls [.int v]) :=
  W.zret C.1 C.2.1 hr hn (fun t ht _ => ⟨⟨v, u, rfl, hp, by subst ht; exact h⟩, hS.F ht⟩) hS.2.2 hdg hlocks
theorem eL {post : Int64 → σ → Prop} {v : Int64} (C : Cx p s m args c cc own nL G) (hr : meth.sig.returnType = some .long) (hlocks : meth.locks = false) (u : σ) (h : HW G.1 N a (E u) H) (hS : va_S (Aw N a) s.heap H locs) (hp : post v u) (hdg : decode cc pc = .ok (.lreturn, 1)) :
    W p l e R s m args below meth c H locs cells slots (MQ below (va_Ql post (fun u t => HW G.1 N a (E u) t.heap) (Aw N a)) args s cells slots (Aw N a)) (F0 m pc ls [.long v]) :=
  W.lret C.1 C.2.1 hr (fun t ht _ => ⟨⟨v, u, rfl, hp, by subst ht; exact h⟩, hS.F ht⟩) hS.2.2 hdg hlocks
theorem eV {post : σ → Prop} (C : Cx p s m args c cc own nL G) (hr : meth.sig.returnType = none) (hlocks : meth.locks = false) (u : σ) (h : HW G.1 N a (E u) H) (hS : va_S (Aw N a) s.heap H locs) (hp : post u) (hdg : decode cc pc = .ok (.return_, 1)) :
    W p l e R s m args below meth c H locs cells slots (MQ below (va_Qv post (fun u t => HW G.1 N a (E u) t.heap) (Aw N a)) args s cells slots (Aw N a)) (F0 m pc ls []) :=
  W.vret C.1 C.2.1 hr (fun t ht _ => ⟨⟨u, rfl, hp, by subst ht; exact h⟩, hS.F ht⟩) hS.2.2 hdg hlocks
theorem eQ {post : Option Nat → σ → Prop} (v : Option Nat) {rt : String} (C : Cx p s m args c cc own nL G) (hr : meth.sig.returnType = some (.object rt)) (hlocks : meth.locks = false) (u : σ) (h : HW G.1 N a (E u) H) (hS : va_S (Aw N a) s.heap H locs) (hp : post v u) (hdg : decode cc pc = .ok (.areturn, 1)) :
    W p l e R s m args below meth c H locs cells slots (MQ below (va_Qq post (fun u t => HW G.1 N a (E u) t.heap) (Aw N a)) args s cells slots (Aw N a)) (F0 m pc ls [va_rf v]) :=
  W.aret C.1 C.2.1 hr (Or.inl ⟨_, rfl⟩) (va_rf_or v) (fun t ht _ => ⟨⟨v, u, rfl, hp, by subst ht; exact h⟩, hS.F ht⟩) hS.2.2 hdg hlocks
end CALLS
