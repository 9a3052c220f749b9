section LAW0
variable {p : Program} {l : Launch} {e : Env} {R : Room} {s : State} {m : MethodId} {args : Array Value} {below : List Frame} {meth : Method} {c : Code} {H : Heap} {locs : List Loc} {cells slots : Nat} {Q : State → Prop}
variable {cc : ByteArray} {own : String} {nL : Nat} {G : Gx} {pc : Nat} {ls : Array Slot} {rest st : List Value} {a b : Nat → Nat} {H0 : Heap} {A0 : Nat → Prop}
theorem LBi {aa : Array Value} {M : MS} {post : Int32 → BS → Prop} (hr : va_Run p l e R s m args below meth c H locs cells slots 0 0 (F0 m pc ls st) rest (va_Qi post (fun u t => HW G.1 35 a (EB G a u) t.heap) (Aw 35 a) aa) (Aw 35 a)) (hS : va_S A0 H0 H locs) (ha : ∀ k, k < 35 → A0 (a k)) (dj : ∀ i j, i < 35 → j < 10 → ¬ a i = b j) (hM : HW G.1 10 b (EM G b M) H)
    (kk : ∀ (r : Int32) (u : BS) (H1 : Heap) (l1 : List Loc), post r u → HW G.1 35 a (EB G a u) H1 → HW G.1 10 b (EM G b M) H1 → va_S A0 H0 H1 l1 → W p l e R s m args below meth c H1 l1 cells slots Q (F0 m (pc + 3) ls (.int r :: rest))) : W p l e R s m args below meth c H locs cells slots Q (F0 m pc ls st) :=
  va_calli hr hS (fun q _ h => by obtain ⟨k, hk, rfl⟩ := h; exact ha k hk) (fun q h => by obtain ⟨k, hk, rfl⟩ := h; exact ha k hk) (fun r u t H1 l1 ht _ hp hB _ hk hS1 => kk r u H1 l1 hp (by rw [← ht]; exact hB) (hM.kept (fun j hj => hk (b j) (hM.lt hj) (by rintro ⟨i, hi, e⟩; exact dj i j hi hj e))) hS1)
theorem LMi {aa : Array Value} {B : BS} {post : Int32 → MS → Prop} (hr : va_Run p l e R s m args below meth c H locs cells slots 0 0 (F0 m pc ls st) rest (va_Qi post (fun u t => HW G.1 10 b (EM G b u) t.heap) (Aw 10 b) aa) (Aw 10 b)) (hS : va_S A0 H0 H locs) (hb : ∀ k, k < 10 → A0 (b k)) (dj : ∀ i j, i < 35 → j < 10 → ¬ a i = b j) (hB : HW G.1 35 a (EB G a B) H)
    (kk : ∀ (r : Int32) (u : MS) (H1 : Heap) (l1 : List Loc), post r u → HW G.1 10 b (EM G b u) H1 → HW G.1 35 a (EB G a B) H1 → va_S A0 H0 H1 l1 → W p l e R s m args below meth c H1 l1 cells slots Q (F0 m (pc + 3) ls (.int r :: rest))) : W p l e R s m args below meth c H locs cells slots Q (F0 m pc ls st) :=
  va_calli hr hS (fun q _ h => by obtain ⟨k, hk, rfl⟩ := h; exact hb k hk) (fun q h => by obtain ⟨k, hk, rfl⟩ := h; exact hb k hk) (fun r u t H1 l1 ht _ hp hM _ hk hS1 => kk r u H1 l1 hp (by rw [← ht]; exact hM) (hB.kept (fun j hj => hk (a j) (hB.lt hj) (by rintro ⟨i, hi, e⟩; exact dj j i hj hi e.symm))) hS1)
theorem LBl {aa : Array Value} {M : MS} {post : Int64 → BS → Prop} (hr : va_Run p l e R s m args below meth c H locs cells slots 0 0 (F0 m pc ls st) rest (va_Ql post (fun u t => HW G.1 35 a (EB G a u) t.heap) (Aw 35 a) aa) (Aw 35 a)) (hS : va_S A0 H0 H locs) (ha : ∀ k, k < 35 → A0 (a k)) (dj : ∀ i j, i < 35 → j < 10 → ¬ a i = b j) (hM : HW G.1 10 b (EM G b M) H)
    (kk : ∀ (r : Int64) (u : BS) (H1 : Heap) (l1 : List Loc), post r u → HW G.1 35 a (EB G a u) H1 → HW G.1 10 b (EM G b M) H1 → va_S A0 H0 H1 l1 → W p l e R s m args below meth c H1 l1 cells slots Q (F0 m (pc + 3) ls (.long r :: rest))) : W p l e R s m args below meth c H locs cells slots Q (F0 m pc ls st) :=
  va_calll hr hS (fun q _ h => by obtain ⟨k, hk, rfl⟩ := h; exact ha k hk) (fun q h => by obtain ⟨k, hk, rfl⟩ := h; exact ha k hk) (fun r u t H1 l1 ht _ hp hB _ hk hS1 => kk r u H1 l1 hp (by rw [← ht]; exact hB) (hM.kept (fun j hj => hk (b j) (hM.lt hj) (by rintro ⟨i, hi, e⟩; exact dj i j hi hj e))) hS1)
theorem LMl {aa : Array Value} {B : BS} {post : Int64 → MS → Prop} (hr : va_Run p l e R s m args below meth c H locs cells slots 0 0 (F0 m pc ls st) rest (va_Ql post (fun u t => HW G.1 10 b (EM G b u) t.heap) (Aw 10 b) aa) (Aw 10 b)) (hS : va_S A0 H0 H locs) (hb : ∀ k, k < 10 → A0 (b k)) (dj : ∀ i j, i < 35 → j < 10 → ¬ a i = b j) (hB : HW G.1 35 a (EB G a B) H)
    (kk : ∀ (r : Int64) (u : MS) (H1 : Heap) (l1 : List Loc), post r u → HW G.1 10 b (EM G b u) H1 → HW G.1 35 a (EB G a B) H1 → va_S A0 H0 H1 l1 → W p l e R s m args below meth c H1 l1 cells slots Q (F0 m (pc + 3) ls (.long r :: rest))) : W p l e R s m args below meth c H locs cells slots Q (F0 m pc ls st) :=
  va_calll hr hS (fun q _ h => by obtain ⟨k, hk, rfl⟩ := h; exact hb k hk) (fun q h => by obtain ⟨k, hk, rfl⟩ := h; exact hb k hk) (fun r u t H1 l1 ht _ hp hM _ hk hS1 => kk r u H1 l1 hp (by rw [← ht]; exact hM) (hB.kept (fun j hj => hk (a j) (hB.lt hj) (by rintro ⟨i, hi, e⟩; exact dj j i hj hi e.symm))) hS1)
theorem lw_ld (C : Cx p s m args c cc own nL G) {bs L : Nat} {xs : Nat → Int32} (hX : va_X bs L xs s H0) (hbl : bs < H0.size) (hbA : ¬ A0 bs) (hS : va_S A0 H0 H locs) (hL : L ≤ 3072) {j : Nat} (hj : j < L) (hdg : decode cc pc = .ok (.iaload, 1))
    (kk : W p l e R s m args below meth c H locs cells slots Q (F0 m (pc + 1) ls (.int (xs j) :: rest))) : W p l e R s m args below meth c H locs cells slots Q (F0 m pc ls (.int (nI j) :: .ref bs :: rest)) :=
  va_sld C.1 C.2.1 hX hbl hbA hS (vp_in_nI hj (by omega)) hdg (by rw [nI_clamp (by omega)]; exact kk)
end LAW0
/-! THE CLAIM OUT OF ONE WALK OF THE LAW'S BODY. Your part is whole_start (and what it stands on); all else here is the same for every law, but numbers. -/
def R_law : String := "BeadLoomLaw"
def lw_P (b : Addr) (xs : List Int32) (args : Array Value) (s : State) : Prop := args = #[.ref b] ∧ s.IntsAt b xs ∧ xs.length ≤ 3072 ∧ (Jvm.Cond.and given_1 narrow_1).before args s = true
def lw_Q (_ : Array Value) (s : State) (o : Outcome) (t : State) : Prop := o = .returned (some (.int 1)) ∧ Framed s o t [] 600000 7302250
def lw_Z (below : List Frame) (a : Array Value) (s : State) : State → Prop := fun t => ∃ o, t.status = .running ∧ Ended t below o ∧ lw_Q a s o t
/-- the law's own end, with 1 on the stack, nothing written that was there before, its room as the claim has it -/
theorem lw_ret {p : Program} {l : Launch} {e : Env} {s : State} {m : MethodId} {below : List Frame} {meth : Method} {c : Code} {b : Nat} (hx : p.tables.exec = Jvm.exec) (hb : c.code = code) (hr : meth.sig.returnType = ret) (hlocks : meth.locks = false) {pc : Nat} {H : Heap} {ls : Array Slot} (hdg : decode code pc = .ok (.ireturn, 1)) : W p l e room_1 s m #[Value.ref b] below meth c H [] 600000 7302250 (lw_Z below #[Value.ref b] s) (F0 m pc ls [.int 1]) := by
  intro T hT X
  obtain ⟨fs, hret, hrun, hended, hW, hframe⟩ := X.leave (v := some (.int 1)) (hlocks := hlocks) (fun h => by rw [hr] at h; cases h)
  have hmeth' : T.vm.method? m = some meth := X.method'
  refine ⟨T.setFrames fs, ?_, .returned (some (.int 1)), hrun, hended, rfl, ⟨_, rfl⟩, hW, hframe⟩
  jvm_step X.here [X.here.top, hx, hb, hdg, hmeth', hr, ret, narrow_b1]
  (try refine ⟨rfl, ?_⟩); (try refine ⟨rfl, ?_⟩)
  first | (intro acts; rw [hret _ acts rfl rfl rfl]) | rw [hret _ _ rfl rfl rfl]
  exact Steps.refl _
/-- what holds at the law's entry: the machine, the code, the tables' words (any of lw_tbl by 'hts w (by decide +kernel)'), the script of L ints xs at the cell b, what the Statement gives of the start (any of its parts by flat_of_before) -/
def lw_At (p : Program) (s : State) (m : MethodId) (meth : Method) (c : Code) (b L : Nat) (xs : Nat → Int32) : Prop :=
  p.tables.exec = Jvm.exec ∧ c.code = code ∧ meth.sig.returnType = ret ∧ c.maxLocals = 4 ∧ s.vm.findClass R_law = some m.cls ∧ (∀ w ∈ lw_tbl, w.before #[Value.ref b] s = true) ∧ va_X b L xs s s.heap ∧ b < s.heap.size ∧ meth.locks = false ∧ (Jvm.Cond.and given_1 narrow_1).before #[Value.ref b] s = true

theorem va_AO_any {C : String} {A : Array Value} {U : State} (h : (Cond.arrayOver (.object C)).before A U = true) : va_AO C U := va_AO.of h
theorem two_of {G : Gx} {a b : Nat → Nat} {E F : Nat → va_E} {A : Nat → Prop} {H : Heap} (hP : va_P G.1 vwCl (wl 35 a E ++ wl 10 b F) H) (hD : va_D A (wl 35 a E ++ wl 10 b F)) : HW G.1 35 a E H ∧ HW G.1 10 b F H ∧ (∀ k, k < 35 → A (a k)) ∧ (∀ k, k < 10 → A (b k)) ∧ ∀ i j, i < 35 → j < 10 → ¬ a i = b j := by
  have hlen : (wl 35 a E).length = 35 := by simp [wl]
  have h1 : ∀ k, k < 35 → (wl 35 a E ++ wl 10 b F)[k]? = some (a k, E k) := fun k hk => by rw [List.getElem?_append_left (by omega), wl_at hk]
  have h2 : ∀ k, k < 10 → (wl 35 a E ++ wl 10 b F)[k + 35]? = some (b k, F k) := fun k hk => by rw [List.getElem?_append_right (by omega), hlen, show k + 35 - 35 = k by omega, wl_at hk]
  refine ⟨⟨fun i j hi hj e => hD.1 i j _ _ (h1 i hi) (h1 j hj) e, fun k q hq => ?_⟩, ⟨fun i j hi hj e => ?_, fun k q hq => ?_⟩, fun k hk => hD.2 k _ (h1 k hk), fun k hk => hD.2 _ _ (h2 k hk), fun i j hi hj e => ?_⟩
  · obtain ⟨hk, rfl⟩ := wl_inv hq; exact hP k _ (h1 k hk)
  · have := hD.1 _ _ _ _ (h2 i hi) (h2 j hj) e; omega
  · obtain ⟨hk, rfl⟩ := wl_inv hq; exact hP _ _ (h2 k hk)
  · have := hD.1 _ _ _ _ (h1 i hi) (h2 j hj) e; omega
