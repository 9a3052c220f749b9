/-! the classes' numbers, and those of the arrays: ints, longs, booleans, racks -/
abbrev Gx : Type := va_G × (Nat → ClassId)
abbrev gTy (G : Gx) : List (ClassId × FieldType) := [(G.2 0, .int), (G.2 1, .long), (G.2 2, .boolean), (G.2 3, .object RX1)]
/-- words of nest mates -/
def nestW : List Cond := [
  .fieldLinkNest RX2 108 "BeadLoom$Pattern" "steps" "I" "BeadLoom",
  .fieldLinkNest RX2 162 "BeadLoom$Pattern" "fromRack" "[I" "BeadLoom",
  .fieldLinkNest RX2 165 "BeadLoom$Pattern" "toRack" "[I" "BeadLoom",
  .fieldLinkNest RX2 168 "BeadLoom$Pattern" "fromPlace" "[I" "BeadLoom",
  .fieldLinkNest RX2 171 "BeadLoom$Pattern" "toPlace" "[I" "BeadLoom",
  .fieldLinkNest RX2 174 "BeadLoom$Pattern" "things" "[I" "BeadLoom",
  .fieldLinkNest RX2 52 "BeadLoom$Rack" "kind" "I" "BeadLoom",
  .fieldLinkNest RX2 74 "BeadLoom$Rack" "cells" "[J" "BeadLoom",
  .fieldLinkNest RX2 94 "BeadLoom$Rack" "places" "I" "BeadLoom",
  .methodLinkNest RX2 100 yX0_isFull "BeadLoom",
  .methodLinkNest RX2 104 yX0_append "BeadLoom",
  .methodLinkNest RX2 134 yX1_hasRow "BeadLoom",
  .methodLinkNest RX2 158 yX1_hasStretch "BeadLoom",
  .methodLinkNest RX2 177 yX1_keepCells "BeadLoom",
  .methodLinkNest RX2 180 yX1_restoreCells "BeadLoom",
  .methodLinkNest RX2 25 yX0_init "BeadLoom",
  .methodLinkNest RX2 43 yX1_init "BeadLoom",
  .methodLinkNest RX2 48 yX1_hold "BeadLoom",
  .methodLinkNest RX2 66 yX1_hasPlace "BeadLoom",
  .methodLinkNest RX2 90 yX1_blankPlace "BeadLoom",
  .methodLinkNest RX2 97 yX1_rotate "BeadLoom",
  .methodLinkNest RX1 25 yX2_blank "BeadLoom"]
def Nest (U : State) : Prop := ∀ w ∈ nestW, va_Nw w U
theorem Nest.warm {s U : State} (hW : s.WarmedH U.vm) (h : Nest s) : Nest U := by
  intro w hw
  have h1 := h w hw
  simp only [nestW, List.mem_cons, List.not_mem_nil, or_false] at hw
  rcases hw with rfl | rfl | rfl | rfl | rfl | rfl | rfl | rfl | rfl | rfl | rfl | rfl | rfl | rfl | rfl | rfl | rfl | rfl | rfl | rfl | rfl | rfl <;> first | exact va_Nw.warmF hW h1 | exact va_Nw.warmM hW h1
theorem Nest.call {U : State} {g : JFrame} {mk : MethodId} {a : Array Value} (h : Nest U) : Nest (U.calling g mk a) := by
  intro w hw
  have h1 := h w hw
  simp only [nestW, List.mem_cons, List.not_mem_nil, or_false] at hw
  rcases hw with rfl | rfl | rfl | rfl | rfl | rfl | rfl | rfl | rfl | rfl | rfl | rfl | rfl | rfl | rfl | rfl | rfl | rfl | rfl | rfl | rfl | rfl <;> exact va_Nw.same rfl rfl h1
/-! worlds of a fixed number of cells -/
def Aw (N : Nat) (a : Nat → Nat) : Nat → Prop := fun q => ∃ k, k < N ∧ a k = q
def wl (N : Nat) (a : Nat → Nat) (E : Nat → va_E) : va_W := (List.range N).map (fun k => (a k, E k))
theorem wl_at {N : Nat} {a : Nat → Nat} {E : Nat → va_E} {k : Nat} (h : k < N) : (wl N a E)[k]? = some (a k, E k) := by
  simp [wl, h]
theorem wl_inv {N : Nat} {a : Nat → Nat} {E : Nat → va_E} {k : Nat} {q : Nat × va_E} (h : (wl N a E)[k]? = some q) : k < N ∧ q = (a k, E k) := by
  by_cases hk : k < N
  · rw [wl_at hk] at h; exact ⟨hk, (Option.some.inj h).symm⟩
  · simp [wl, List.getElem?_eq_none, Nat.not_lt.mp hk] at h
theorem wl_set {N : Nat} {a : Nat → Nat} {E : Nat → va_E} {k : Nat} {e : va_E} : (wl N a E).set k (a k, e) = wl N a (va_up E k e) := by
  apply List.ext_getElem?
  intro i
  by_cases hi : i < N
  · rw [wl_at hi, List.getElem?_set]
    by_cases hk : k = i
    · subst hk
      simp [wl, hi, va_up]
    · rw [if_neg hk, wl_at hi, va_up_ne _ _ (fun h => hk h.symm)]
  · have h1 : (wl N a (va_up E k e))[i]? = none := by simp [wl]; omega
    have h2 : ((wl N a E).set k (a k, e))[i]? = none := by simp [wl]; omega
    rw [h1, h2]
def HW (D : va_G) (N : Nat) (a : Nat → Nat) (E : Nat → va_E) (H : Heap) : Prop := (∀ i j, i < N → j < N → a i = a j → i = j) ∧ va_P D vwCl (wl N a E) H
theorem HW.d {D : va_G} {N : Nat} {a : Nat → Nat} {E : Nat → va_E} {H : Heap} (h : HW D N a E H) : va_D (Aw N a) (wl N a E) := by
  refine ⟨fun i j p q hi hj hpq => ?_, fun k q hk => ?_⟩
  · obtain ⟨h1, rfl⟩ := wl_inv hi
    obtain ⟨h2, rfl⟩ := wl_inv hj
    exact h.1 i j h1 h2 hpq
  · obtain ⟨h1, rfl⟩ := wl_inv hk
    exact ⟨k, h1, rfl⟩
theorem HW.set {D : va_G} {N : Nat} {a : Nat → Nat} {E : Nat → va_E} {H H1 : Heap} {k : Nat} {e : va_E} (h : HW D N a E H) (h1 : va_P D vwCl ((wl N a E).set k (a k, e)) H1) : HW D N a (va_up E k e) H1 := ⟨h.1, by rw [← wl_set]; exact h1⟩
theorem HW.eqv {D : va_G} {N : Nat} {a : Nat → Nat} {E E' : Nat → va_E} {H : Heap} (h : HW D N a E H) (he : ∀ k, k < N → E k = E' k) : HW D N a E' H := by
  refine ⟨h.1, fun k q hk => ?_⟩
  obtain ⟨h1, rfl⟩ := wl_inv hk
  rw [← he k h1]
  exact h.2 k _ (wl_at h1)
theorem HW.eqA {D : va_G} {N : Nat} {a : Nat → Nat} {E E' : Nat → va_E} {H : Heap} (h : HW D N a E H) (he : ∀ k, k < N → va_at D vwCl (a k, E k) H → va_at D vwCl (a k, E' k) H) : HW D N a E' H := by
  refine ⟨h.1, fun k q hk => ?_⟩
  obtain ⟨h1, rfl⟩ := wl_inv hk
  exact he k h1 (h.2 k _ (wl_at h1))
theorem HW.kept {D : va_G} {N : Nat} {a : Nat → Nat} {E : Nat → va_E} {H H1 : Heap} (h : HW D N a E H) (hk : ∀ k, k < N → H1[a k]? = H[a k]?) : HW D N a E H1 := by
  refine ⟨h.1, h.2.kept fun k q hq => ?_⟩
  obtain ⟨h1, rfl⟩ := wl_inv hq
  exact hk k h1
theorem HW.lt {D : va_G} {N : Nat} {a : Nat → Nat} {E : Nat → va_E} {H : Heap} (h : HW D N a E H) {k : Nat} (hk : k < N) : a k < H.size := (h.2 k _ (wl_at hk)).lt
theorem at_l {D : va_G} {x : Nat} {cA : ClassId} {n : Nat} {f g : Nat → Int64} {H : Heap} (he : ∀ j, j < n → f j = g j) (h : va_at D vwCl (x, .inl (cA, n, .inr (.inl f))) H) : va_at D vwCl (x, .inl (cA, n, .inr (.inl g))) H := by
  have e : vp_cell cA (n, .inr (.inl f)) = vp_cell cA (n, .inr (.inl g)) := by
    rw [vp_cell_l, vp_cell_l]
    unfold arrV
    congr 1
    congr 1
    funext j
    exact congrArg Value.long (he j.val j.isLt)
  show H[x]? = some (vp_cell cA (n, .inr (.inl g)))
  rw [← e]; exact h
theorem at_i {D : va_G} {x : Nat} {cA : ClassId} {n : Nat} {f g : Nat → Int32} {H : Heap} (he : ∀ j, j < n → f j = g j) (h : va_at D vwCl (x, .inl (cA, n, .inl f)) H) : va_at D vwCl (x, .inl (cA, n, .inl g)) H := by
  have e : vp_cell cA (n, .inl f) = vp_cell cA (n, .inl g) := by
    rw [vp_cell_i, vp_cell_i]
    unfold arrV
    congr 1
    congr 1
    funext j
    exact congrArg Value.int (he j.val j.isLt)
  show H[x]? = some (vp_cell cA (n, .inl g))
  rw [← e]; exact h
/-! the words of the law are good for every call -/
set_option maxRecDepth 20000 in
theorem law_good : GoodIn wsL_law wsL_law := goodIn_sub (fun _ h => h) (by decide +kernel)
theorem good_code {w0 : Cond} {y : MethodName} {cc : ByteArray} {n : Nat} {ret : Option FieldType} (h : Cond.code y cc n ret ∈ wsL_law) : GoodIn (w0 :: wsL_law) (Cond.code y cc n ret :: wsL_law) := fun w hw => by
  have hm : w ∈ wsL_law := by
    rcases List.mem_cons.mp hw with rfl | h1
    · exact h
    · exact h1
  exact ⟨List.mem_cons_of_mem _ hm, (law_good w hm).2⟩
theorem good_in {w0 w : Cond} (h : w ∈ wsL_law) : w ∈ w0 :: wsL_law ∧ ((w.onTables && w.keeps) = true ∨ ∃ ty, w = .arrayClass ty) := ⟨List.mem_cons_of_mem _ h, (law_good w h).2⟩

/-! what a method's walk stands on -/
def Cx (p : Program) (s : State) (m : MethodId) (args : Array Value) (c : Code) (cc : ByteArray) (own : String) (nL : Nat) (G : Gx) : Prop :=
  p.tables.exec = Jvm.exec ∧ c.code = cc ∧ c.maxLocals = nL ∧ s.vm.findClass own = some m.cls ∧ (∀ w ∈ wsL_law, w.before args s = true) ∧ va_K G.1 vwCl (gTy G) s ∧ Nest s
section GW
variable {p : Program} {l : Launch} {e : Env} {R : Room} {s : State} {m : MethodId} {args : Array Value} {below : List Frame} {meth : Method} {c : Code} {H : Heap} {locs : List Loc} {cells slots : Nat} {Q : State → Prop}
variable {cc : ByteArray} {own : String} {nL : Nat} {G : Gx} {pc : Nat} {ls : Array Slot} {rest : List Value} {N : Nat} {a : Nat → Nat} {E : Nat → va_E} {H0 : Heap}
theorem hw_get (C : Cx p s m args c cc own nL G) (h : HW G.1 N a E H) (k : Nat) (hk : k < N) {ci : Nat} {fs : List Value} (he : E k = .inr (ci, fs)) {Cn : String} {T : u_T} {Nf : Nat} (hin : ∀ w ∈ u_ws Cn T Nf, w ∈ wsL_law) (hc : vwCl[ci]? = some (Cn, T, Nf)) (j : Nat) (hj : j < Nf) {index : Nat} (hlink : Cond.fieldLink own index (T j).1 (T j).2.1 (T j).2.2.1 ∈ wsL_law) {v : Value} (hv : fs[j]? = some v) (hdg : decode cc pc = .ok (.getfield index, 3))
    (kk : W p l e R s m args below meth c H locs cells slots Q (F0 m (pc + 3) ls (v :: rest))) : W p l e R s m args below meth c H locs cells slots Q (F0 m pc ls (.ref (a k) :: rest)) :=
  va_get C.1 C.2.1 C.2.2.2.2.1 hin C.2.2.2.1 C.2.2.2.2.2.1 h.2 k (by rw [wl_at hk, he]) hc j hj (C.2.2.2.2.1 _ hlink) (fun _ x => x) hv hdg kk
theorem hw_getN (C : Cx p s m args c cc own nL G) (h : HW G.1 N a E H) (k : Nat) (hk : k < N) {ci : Nat} {fs : List Value} (he : E k = .inr (ci, fs)) {Cn host : String} {T : u_T} {Nf : Nat} (hin : ∀ w ∈ u_ws Cn T Nf, w ∈ wsL_law) (hc : vwCl[ci]? = some (Cn, T, Nf)) (j : Nat) (hj : j < Nf) {index : Nat} (hlink : Cond.fieldLinkNest own index (T j).1 (T j).2.1 (T j).2.2.1 host ∈ nestW) {v : Value} (hv : fs[j]? = some v) (hdg : decode cc pc = .ok (.getfield index, 3))
    (kk : W p l e R s m args below meth c H locs cells slots Q (F0 m (pc + 3) ls (v :: rest))) : W p l e R s m args below meth c H locs cells slots Q (F0 m pc ls (.ref (a k) :: rest)) :=
  va_getN C.1 C.2.1 C.2.2.2.2.1 hin C.2.2.2.1 C.2.2.2.2.2.1 h.2 k (by rw [wl_at hk, he]) hc j hj (va_Nw.use rfl (C.2.2.2.2.2.2 _ hlink)) (fun _ x => x) hv hdg kk
theorem hw_put (C : Cx p s m args c cc own nL G) (h : HW G.1 N a E H) (hS : va_S (Aw N a) H0 H locs) (k : Nat) (hk : k < N) {ci : Nat} {fs : List Value} (he : E k = .inr (ci, fs)) {Cn : String} {T : u_T} {Nf : Nat} (hin : ∀ w ∈ u_ws Cn T Nf, w ∈ wsL_law) (ty0 : Nat → FieldType) (hty : ∀ k, k < Nf → parseFieldDescriptor (T k).2.2.1 = some (ty0 k)) (hnm : ∀ a, a < Nf → ∀ b, b < Nf → a ≠ b → (T a).2.1 ≠ (T b).2.1) (hc : vwCl[ci]? = some (Cn, T, Nf)) (j : Nat) (hj : j < Nf) {index : Nat} (hlink : Cond.fieldLink own index (T j).1 (T j).2.1 (T j).2.2.1 ∈ wsL_law) (hfin : (T j).2.2.2 = false) (hd : parseFieldDescriptor (T j).2.2.1 = some .int) {v : Int32} (hl : j < fs.length) (hdg : decode cc pc = .ok (.putfield index, 3))
    (kk : ∀ (H1 : Heap) (locs1 : List Loc), HW G.1 N a (va_up E k (.inr (ci, fs.set j (.int v)))) H1 → va_S (Aw N a) H0 H1 locs1 → W p l e R s m args below meth c H1 locs1 cells slots Q (F0 m (pc + 3) ls rest)) : W p l e R s m args below meth c H locs cells slots Q (F0 m pc ls (.int v :: .ref (a k) :: rest)) :=
  va_put C.1 C.2.1 C.2.2.2.2.1 hin ty0 hty hnm C.2.2.2.1 C.2.2.2.2.2.1 h.2 h.d hS k (by rw [wl_at hk, he]) hc j hj (C.2.2.2.2.1 _ hlink) (fun _ x => x) hfin hd rfl rfl hl hdg (fun H1 l1 hP _ hS1 => kk H1 l1 (h.set hP) hS1)
theorem hw_putN (C : Cx p s m args c cc own nL G) (h : HW G.1 N a E H) (hS : va_S (Aw N a) H0 H locs) (k : Nat) (hk : k < N) {ci : Nat} {fs : List Value} (he : E k = .inr (ci, fs)) {Cn host : String} {T : u_T} {Nf : Nat} (hin : ∀ w ∈ u_ws Cn T Nf, w ∈ wsL_law) (ty0 : Nat → FieldType) (hty : ∀ k, k < Nf → parseFieldDescriptor (T k).2.2.1 = some (ty0 k)) (hnm : ∀ a, a < Nf → ∀ b, b < Nf → a ≠ b → (T a).2.1 ≠ (T b).2.1) (hc : vwCl[ci]? = some (Cn, T, Nf)) (j : Nat) (hj : j < Nf) {index : Nat} (hlink : Cond.fieldLinkNest own index (T j).1 (T j).2.1 (T j).2.2.1 host ∈ nestW) (hfin : (T j).2.2.2 = false) (hd : parseFieldDescriptor (T j).2.2.1 = some .int) {v : Int32} (hl : j < fs.length) (hdg : decode cc pc = .ok (.putfield index, 3))
    (kk : ∀ (H1 : Heap) (locs1 : List Loc), HW G.1 N a (va_up E k (.inr (ci, fs.set j (.int v)))) H1 → va_S (Aw N a) H0 H1 locs1 → W p l e R s m args below meth c H1 locs1 cells slots Q (F0 m (pc + 3) ls rest)) : W p l e R s m args below meth c H locs cells slots Q (F0 m pc ls (.int v :: .ref (a k) :: rest)) :=
  va_putN C.1 C.2.1 C.2.2.2.2.1 hin ty0 hty hnm C.2.2.2.1 C.2.2.2.2.2.1 h.2 h.d hS k (by rw [wl_at hk, he]) hc j hj (va_Nw.use rfl (C.2.2.2.2.2.2 _ hlink)) (fun _ x => x) hfin hd rfl rfl hl hdg (fun H1 l1 hP _ hS1 => kk H1 l1 (h.set hP) hS1)
theorem hw_iald (C : Cx p s m args c cc own nL G) (h : HW G.1 N a E H) (k : Nat) (hk : k < N) {n : Nat} {f : Nat → Int32} (he : E k = .inl (G.2 0, n, .inl f)) (i : Nat) (hi : i < n) (hn : n < 2 ^ 31) (hdg : decode cc pc = .ok (.iaload, 1))
    (kk : W p l e R s m args below meth c H locs cells slots Q (F0 m (pc + 1) ls (.int (f i) :: rest))) : W p l e R s m args below meth c H locs cells slots Q (F0 m pc ls (.int (nI i) :: .ref (a k) :: rest)) :=
  va_iald (tys := gTy G) C.1 C.2.1 C.2.2.2.2.2.1 h.2 k 0 (by rw [wl_at hk, he]) rfl (vp_in_nI hi hn) hdg (by rw [nI_clamp (by omega)]; exact kk)
theorem hw_zald (C : Cx p s m args c cc own nL G) (h : HW G.1 N a E H) (k : Nat) (hk : k < N) {n : Nat} {f : Nat → Int32} (he : E k = .inl (G.2 2, n, .inl f)) (i : Nat) (hi : i < n) (hn : n < 2 ^ 31) (hdg : decode cc pc = .ok (.baload, 1))
    (kk : W p l e R s m args below meth c H locs cells slots Q (F0 m (pc + 1) ls (.int (f i) :: rest))) : W p l e R s m args below meth c H locs cells slots Q (F0 m pc ls (.int (nI i) :: .ref (a k) :: rest)) :=
  va_zald (tys := gTy G) C.1 C.2.1 C.2.2.2.2.2.1 h.2 k 2 (by rw [wl_at hk, he]) rfl (vp_in_nI hi hn) hdg (by rw [nI_clamp (by omega)]; exact kk)
theorem hw_lald (C : Cx p s m args c cc own nL G) (h : HW G.1 N a E H) (k : Nat) (hk : k < N) {n : Nat} {f : Nat → Int64} (he : E k = .inl (G.2 1, n, .inr (.inl f))) (i : Nat) (hi : i < n) (hn : n < 2 ^ 31) (hdg : decode cc pc = .ok (.laload, 1))
    (kk : W p l e R s m args below meth c H locs cells slots Q (F0 m (pc + 1) ls (.long (f i) :: rest))) : W p l e R s m args below meth c H locs cells slots Q (F0 m pc ls (.int (nI i) :: .ref (a k) :: rest)) :=
  va_lald (tys := gTy G) C.1 C.2.1 C.2.2.2.2.2.1 h.2 k 1 (by rw [wl_at hk, he]) rfl (vp_in_nI hi hn) hdg (by rw [nI_clamp (by omega)]; exact kk)
theorem hw_aald (C : Cx p s m args c cc own nL G) (h : HW G.1 N a E H) (k : Nat) (hk : k < N) {n : Nat} {f : Nat → Option Nat} (he : E k = .inl (G.2 3, n, .inr (.inr (.inr (.inr f))))) (i : Nat) (hi : i < n) (hn : n < 2 ^ 31) {x : Nat} (hx : f i = some x) (hdg : decode cc pc = .ok (.aaload, 1))
    (kk : W p l e R s m args below meth c H locs cells slots Q (F0 m (pc + 1) ls (.ref x :: rest))) : W p l e R s m args below meth c H locs cells slots Q (F0 m pc ls (.int (nI i) :: .ref (a k) :: rest)) :=
  va_aldq (tys := gTy G) C.1 C.2.1 C.2.2.2.2.2.1 h.2 k 3 (by rw [wl_at hk, he]) rfl (vp_in_nI hi hn) hdg (by rw [nI_clamp (by omega), hx]; exact kk)
theorem hw_iast (C : Cx p s m args c cc own nL G) (h : HW G.1 N a E H) (hS : va_S (Aw N a) H0 H locs) (k : Nat) (hk : k < N) {n : Nat} {f : Nat → Int32} (he : E k = .inl (G.2 0, n, .inl f)) (i : Nat) (hi : i < n) (hn : n < 2 ^ 31) {x : Int32} (hdg : decode cc pc = .ok (.iastore, 1))
    (kk : ∀ (H1 : Heap) (locs1 : List Loc), HW G.1 N a (va_up E k (.inl (G.2 0, n, .inl (upd f i x)))) H1 → va_S (Aw N a) H0 H1 locs1 → W p l e R s m args below meth c H1 locs1 cells slots Q (F0 m (pc + 1) ls rest)) : W p l e R s m args below meth c H locs cells slots Q (F0 m pc ls (.int x :: .int (nI i) :: .ref (a k) :: rest)) :=
  va_iast (tys := gTy G) C.1 C.2.1 C.2.2.2.2.2.1 h.2 h.d hS k 0 (by rw [wl_at hk, he]) rfl (vp_in_nI hi hn) hdg (fun H1 l1 hP _ hS1 => kk H1 l1 (by rw [nI_clamp (by omega)] at hP; exact h.set hP) hS1)
theorem hw_zast (C : Cx p s m args c cc own nL G) (h : HW G.1 N a E H) (hS : va_S (Aw N a) H0 H locs) (k : Nat) (hk : k < N) {n : Nat} {f : Nat → Int32} (he : E k = .inl (G.2 2, n, .inl f)) (i : Nat) (hi : i < n) (hn : n < 2 ^ 31) {x : Int32} (hx : vp_nar .boolean x = x) (hdg : decode cc pc = .ok (.bastore, 1))
    (kk : ∀ (H1 : Heap) (locs1 : List Loc), HW G.1 N a (va_up E k (.inl (G.2 2, n, .inl (upd f i x)))) H1 → va_S (Aw N a) H0 H1 locs1 → W p l e R s m args below meth c H1 locs1 cells slots Q (F0 m (pc + 1) ls rest)) : W p l e R s m args below meth c H locs cells slots Q (F0 m pc ls (.int x :: .int (nI i) :: .ref (a k) :: rest)) :=
  va_zast (tys := gTy G) C.1 C.2.1 C.2.2.2.2.2.1 h.2 h.d hS k 2 (by rw [wl_at hk, he]) rfl (vp_in_nI hi hn) hdg (fun H1 l1 hP _ hS1 => kk H1 l1 (by rw [nI_clamp (by omega), hx] at hP; exact h.set hP) hS1)
theorem hw_last (C : Cx p s m args c cc own nL G) (h : HW G.1 N a E H) (hS : va_S (Aw N a) H0 H locs) (k : Nat) (hk : k < N) {n : Nat} {f : Nat → Int64} (he : E k = .inl (G.2 1, n, .inr (.inl f))) (i : Nat) (hi : i < n) (hn : n < 2 ^ 31) {x : Int64} (hdg : decode cc pc = .ok (.lastore, 1))
    (kk : ∀ (H1 : Heap) (locs1 : List Loc), HW G.1 N a (va_up E k (.inl (G.2 1, n, .inr (.inl (vp_updL f i x))))) H1 → va_S (Aw N a) H0 H1 locs1 → W p l e R s m args below meth c H1 locs1 cells slots Q (F0 m (pc + 1) ls rest)) : W p l e R s m args below meth c H locs cells slots Q (F0 m pc ls (.long x :: .int (nI i) :: .ref (a k) :: rest)) :=
  va_last (tys := gTy G) C.1 C.2.1 C.2.2.2.2.2.1 h.2 h.d hS k 1 (by rw [wl_at hk, he]) rfl (vp_in_nI hi hn) hdg (fun H1 l1 hP _ hS1 => kk H1 l1 (by rw [nI_clamp (by omega)] at hP; exact h.set hP) hS1)
theorem hw_copy (C : Cx p s m args c cc own nL G) (hls : ls.size = nL) (h : HW G.1 N a E H) (hS : va_S (Aw N a) H0 H locs) (k0 k1 : Nat) (hk0 : k0 < N) (hk1 : k1 < N) {n0 n1 : Nat} {f g : Nat → Int64} (he0 : E k0 = .inl (G.2 1, n0, .inr (.inl f))) (he1 : E k1 = .inl (G.2 1, n1, .inr (.inl g))) {index : Nat} (hlink : Cond.methodLink own index arraycopyName ∈ wsL_law) (sp dp n : Nat) (h4 : sp + n ≤ n0) (h5 : dp + n ≤ n1) (hn0 : n0 < 2 ^ 31) (hn1 : n1 < 2 ^ 31)
    (hframes : 1 ≤ R.frames) (hlocals : (rest.map fun v => v.category).sum + (nativeFrameWords "java/lang/System" "arraycopy" 5 + 11) ≤ R.locals) (hdg : decode cc pc = .ok (.invokestatic index, 3))
    (kk : ∀ (H1 : Heap) (locs1 : List Loc), HW G.1 N a (va_up E k1 (.inl (G.2 1, n1, .inr (.inl (va_cpy f g sp dp n))))) H1 → va_S (Aw N a) H0 H1 locs1 → W p l e R s m args below meth c H1 locs1 cells slots Q (F0 m (pc + 3) ls rest)) : W p l e R s m args below meth c H locs cells slots Q (F0 m pc ls (.int (nI n) :: .int (nI dp) :: .ref (a k1) :: .int (nI sp) :: .ref (a k0) :: rest)) :=
  va_copyl (tys := gTy G) (ty := .long) C.1 C.2.1 (C.2.2.1.trans hls.symm) C.2.2.2.1 (C.2.2.2.2.1 _ hlink) (C.2.2.2.2.1 _ (by decide +kernel)) (C.2.2.2.2.1 _ (by decide +kernel)) (C.2.2.2.2.1 _ (by decide +kernel)) C.2.2.2.2.2.1 h.2 h.d hS k0 k1 1 1 (by rw [wl_at hk0, he0]) (by rw [wl_at hk1, he1]) rfl rfl rfl (nI_pos (by omega)) (nI_pos (by omega)) (nI_pos (by omega)) (by rw [nI_clamp (by omega), nI_clamp (by omega)]; exact h4) (by rw [nI_clamp (by omega), nI_clamp (by omega)]; exact h5) (fun _ _ => rfl) hframes hlocals hdg (fun H1 l1 hP _ hS1 => kk H1 l1 (by rw [nI_clamp (by omega), nI_clamp (by omega), nI_clamp (by omega)] at hP; exact h.set hP) hS1)
/-! the top of the stack by another name; a branch whose side is known -/
theorem lw_ti {x y : Int32} (h : x = y) (k : W p l e R s m args below meth c H locs cells slots Q (F0 m pc ls (.int y :: rest))) : W p l e R s m args below meth c H locs cells slots Q (F0 m pc ls (.int x :: rest)) := h ▸ k
theorem lw_tl {x y : Int64} (h : x = y) (k : W p l e R s m args below meth c H locs cells slots Q (F0 m pc ls (.long y :: rest))) : W p l e R s m args below meth c H locs cells slots Q (F0 m pc ls (.long x :: rest)) := h ▸ k
end GW
