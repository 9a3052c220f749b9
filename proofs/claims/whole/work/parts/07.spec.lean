/-! a choice by any claim -/
noncomputable def cif {α : Type} (P : Prop) (x y : α) : α := @ite _ P (Classical.propDecidable P) x y
theorem cif_t {α : Type} {P : Prop} {x y : α} (h : P) : cif P x y = x := if_pos h
theorem cif_f {α : Type} {P : Prop} {x y : α} (h : ¬ P) : cif P x y = y := if_neg h
/-! MOVING -/
noncomputable def hind (S : St) (q r : Nat) (i j n : Int64) : Nat :=
  if sKd S q = 0 ∨ sKd S r = 0 then 1 else cif (sKd S q = 9 ∨ sKd S r = 9 ∨ ¬ exchP (sKd S q) (sKd S r)) 2 (cif (strP S q i n ∧ strP S r j n) 0 3)
noncomputable def cmn (S : St) (f : Nat → Int64) (i : Nat) : Nat → Nat → Nat
  | 0, k => k
  | n + 1, k => cif (mayL S 8 (f (i + k))) (cmn S f i n (k + 1)) k
noncomputable def comeC (S : St) (q r i n : Nat) : Nat := if sKd S r = 8 then cmn S (sCe S q) i n 0 else n
theorem cmn_le (S : St) (f : Nat → Int64) (i : Nat) : ∀ n k, k ≤ cmn S f i n k ∧ cmn S f i n k ≤ k + n
  | 0, k => ⟨Nat.le_refl _, Nat.le_refl _⟩
  | n + 1, k => by
    unfold cmn
    by_cases h : mayL S 8 (f (i + k))
    · rw [cif_t h]
      have := cmn_le S f i n (k + 1)
      omega
    · rw [cif_f h]; omega
theorem come_le (S : St) (q r i n : Nat) : comeC S q r i n ≤ n := by
  unfold comeC
  split
  · have := (cmn_le S (sCe S q) i n 0).2; omega
  · exact Nat.le_refl _
/-- the state behind a MOVING that wasn't hindered, c of n things having come -/
def movD (S : St) (q r i j c n : Nat) : Nat × St := (if c < n then 4 else 0, uMv (uCm (uCe S (va_up (sCe S) r (va_cpy (sCe S q) (sCe S r) i j c))) (nI c)) (upd (sMv S) (if c < n then 4 else 0) (sMv S (if c < n then 4 else 0) + nI 1)))
def movN (S : St) (w : Nat) : Nat × St := (w, uMv (uCm S (nI 0)) (upd (sMv S) w (sMv S w + nI 1)))
noncomputable def movS (S : St) (q r : Nat) (i j n : Int64) : Nat × St := cif (hind S q r i j n = 0) (movD S q r i.toNatClampNeg j.toNatClampNeg (comeC S q r i.toNatClampNeg n.toNatClampNeg) n.toNatClampNeg) (movN S (hind S q r i j n))
noncomputable def spMove (S : St) (x i y j n : Int32) : Int32 × St := match ix x 8, ix y 8 with
  | some q, some r => (nI (movS S q r i.toInt64 j.toInt64 n.toInt64).1, (movS S q r i.toInt64 j.toInt64 n.toInt64).2)
  | _, _ => (-1, S)
def putC (S : St) (r q : Nat) (v : Int64) : St := uCe S (va_up (sCe S) r (vp_updL (sCe S r) q v))
noncomputable def opM (S : St) (r : Nat) (p : Int32) : Nat × St := movS S r r p.toInt64 (p.toInt64 + lN 1) (lN (sPl S r) - lN 1 - p.toInt64)
noncomputable def clM (S : St) (r : Nat) (p : Int32) : Nat × St := movS S r r (p.toInt64 + lN 1) p.toInt64 (lN (sPl S r) - lN 1 - p.toInt64)
noncomputable def spOpen (S : St) (x p : Int32) : Int32 × St := match ix x 8 with
  | some r => (nI (opM S r p).1, if (opM S r p).1 = 0 then putC (opM S r p).2 r p.toNatClampNeg (blk (sKd S r)) else (opM S r p).2)
  | none => (-1, S)
noncomputable def spClose (S : St) (x p : Int32) : Int32 × St := match ix x 8 with
  | some r => (nI (clM S r p).1, if (clM S r p).1 = 0 then putC (clM S r p).2 r (sPl S r - 1) (blk (sKd S r)) else (clM S r p).2)
  | none => (-1, S)
/-! put, look -/
noncomputable def spPut (S : St) (x p : Int32) (v : Int64) : Int32 × St := match row S x with
  | some r => (match ix p (sPl S r) with
    | some q => cif (mayL S (sKd S r) v) (nI 1, putC S r q (fit (sKd S r) v)) (nI 0, S)
    | none => (nI 0, S))
  | none => (nI 0, S)
def spLook (S : St) (x p : Int32) : Int64 := match row S x with
  | some r => (match ix p (sPl S r) with
    | some q => sCe S r q
    | none => lN 0)
  | none => lN 0
/-! TURNING -/
def rotF (f : Nat → Int64) (n : Nat) (d : Int32) : Nat → Int64 := fun q => if q < n then f ((((q : Int) - d.toInt) % (n : Int)).toNat) else f q
def rotS (S : St) (r : Nat) (d : Int32) : St := uCe S (va_up (sCe S) r (rotF (sCe S r) (sPl S r) d))
def spTurn (S : St) (x d : Int32) : Int32 × St := match ix x 8 with
  | some r => if sKd S r = 0 then (nI 1, S) else if sKd S r = 9 then (nI 2, S) else (nI 0, rotS S r d)
  | none => (-1, S)
/-! STEPS, WEAVING -/
def spStep (S : St) (x i y j n : Int32) : Int32 × St := match ix x 8, ix y 8 with
  | some _, some _ => if 24 ≤ sNs S then (-1, S) else (nI (sNs S + 1), appS S x i y j n)
  | _, _ => (-1, S)
def spForget (S : St) : Int32 × St := (nI (sNs S), uNs S 0)
noncomputable def stp (S : St) (j : Nat) : Nat × St := movS S (sPt S 0 j).toNatClampNeg (sPt S 2 j).toNatClampNeg (sPt S 1 j).toInt64 (sPt S 3 j).toInt64 (sPt S 4 j).toInt64
noncomputable def wrd : Nat → Nat → St → Nat × St
  | 0, j, S => (j, S)
  | n + 1, j, S => if (stp S j).1 = 0 then wrd n (j + 1) (stp S j).2 else (j, (stp S j).2)
noncomputable def rnd (S : St) : Nat × St := wrd (sNs S) 0 S
noncomputable def wvs (w : Prop) : Nat → Nat → St → Nat × St
  | 0, d, S => (d, S)
  | n + 1, d, S => if (rnd S).1 = sNs S then wvs w n (d + (rnd S).1) (uWv (rnd S).2 (sWv (rnd S).2 + nI 1)) else cif w (d, uCe (rnd S).2 (sCe S)) (d + (rnd S).1, (rnd S).2)
noncomputable def spWeave (S : St) (x w : Int32) : Int32 × St := match rng x 1 50 with
  | some n => if sNs S = 0 then (-1, S) else (nI (wvs (¬ w = 0) n 0 S).1, (wvs (¬ w = 0) n 0 S).2)
  | none => (-1, S)
/-! ALIKE, SHADE, and what is told -/
def pfx (f g : Nat → Int64) : Nat → Nat → Nat
  | 0, p => p
  | n + 1, p => if f p = g p then pfx f g n (p + 1) else p
noncomputable def spAlike (S : St) (x y : Int32) : Int32 := match row S x, row S y with
  | some q, some r => cif (cmpP (sKd S q) (sKd S r)) (nI (pfx (sCe S q) (sCe S r) (min (sPl S q) (sPl S r)) 0)) (nI 0)
  | _, _ => -1
def shg (S : St) (r p : Nat) : Int64 := if sKd S r = 7 ∨ sKd S r = 8 then (colO S (sCe S r p)).toInt64 else sCe S r p
def shs (S : St) (r : Nat) : Nat → Nat → Int64 → Int64
  | 0, _, z => z
  | n + 1, p, z => shs S r n (p + 1) (z + shg S r p)
def spShade (S : St) (x : Int32) : Int64 := match row S x with
  | some r => shs S r (sPl S r) 0 (lN 0)
  | none => lN 0
def spRack (S : St) (x y : Int32) : Int32 := match ix x 8 with
  | some r => if y = nI 0 then nI (sKd S r) else if y = nI 1 then nI (sPl S r) else -1
  | none => -1
def spAbout (S : St) (y : Int32) : Int32 := match ix y 9 with
  | some 0 => sCm S
  | some 1 => sMv S 1
  | some 2 => sMv S 2
  | some 3 => sMv S 3
  | some 4 => sMv S 4
  | some 5 => sMv S 0
  | some 6 => nI (sNb S)
  | some 7 => nI (sNs S)
  | some 8 => sWv S
  | _ => -1
/-! numbers small enough that no sum wraps -/
def sml (x : Int64) : Prop := -(2 ^ 40 : Int) ≤ x.toInt ∧ x.toInt ≤ 2 ^ 40
theorem sml_i (x : Int32) : sml x.toInt64 := by
  have h1 := Int32.toInt_lt x
  have h2 := Int32.le_toInt x
  unfold sml
  rw [Int32.toInt_toInt64]
  constructor <;> omega
theorem l_addT {x y : Int64} (hx : -(2 ^ 62 : Int) ≤ x.toInt ∧ x.toInt ≤ 2 ^ 61) (hy : -(2 ^ 62 : Int) ≤ y.toInt ∧ y.toInt ≤ 2 ^ 61) : (x + y).toInt = x.toInt + y.toInt := by
  rw [Int64.toInt_add]
  apply Int.bmod_eq_of_le <;> omega
theorem l_subT {x y : Int64} (hx : -(2 ^ 61 : Int) ≤ x.toInt ∧ x.toInt ≤ 2 ^ 61) (hy : -(2 ^ 61 : Int) ≤ y.toInt ∧ y.toInt ≤ 2 ^ 61) : (x - y).toInt = x.toInt - y.toInt := by
  rw [Int64.toInt_sub]
  apply Int.bmod_eq_of_le <;> omega
theorem lN_of {x : Int64} {n : Nat} (h : x.toInt = (n : Int)) : x = lN n := by
  have h2 := Int64.toInt_lt x
  apply Int64.toInt_inj.mp
  rw [h, pk_lT (by omega)]
theorem strP_nat {S : St} {r : Nat} {x n : Int64} (h : strP S r x n) (hx : sml x) (hn : sml n) (hp : sPl S r ≤ 40) : ∃ i k : Nat, x = lN i ∧ n = lN k ∧ i + k ≤ sPl S r := by
  obtain ⟨h1, h2, h3⟩ := h
  rw [Int64.lt_iff_toInt_lt] at h1 h2 h3
  have e0 : (lN 0).toInt = 0 := rfl
  have ep : (lN (sPl S r)).toInt = (sPl S r : Int) := pk_lT (by omega)
  have es := l_addT (x := x) (y := n) (by unfold sml at hx; omega) (by unfold sml at hn; omega)
  rw [e0] at h1 h2
  rw [ep, es] at h3
  refine ⟨x.toInt.toNat, n.toInt.toNat, lN_of (by omega), lN_of (by omega), by omega⟩
