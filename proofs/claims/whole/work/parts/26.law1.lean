set_option maxHeartbeats 8000000 in
set_option maxRecDepth 100000 in
/-- THE LAW'S LOOP: both hold the same state, and answer alike -/
theorem law_loop {p : Program} {l : Launch} {e : Env} {s : State} {m : MethodId} {below : List Frame} {meth : Method} {c : Code} {G : Gx} {bs L : Nat} {xs : Nat → Int32} {a b : Nat → Nat} (hL : L ≤ 3072) (hX : va_X bs L xs s s.heap) (hbl : bs < s.heap.size) (hr : meth.sig.returnType = ret) (hlocks : meth.locks = false) (C : Cx p s m #[Value.ref bs] c cL_law RL 4 G) (ha : ∀ k, k < 35 → s.heap.size ≤ a k) (hb10 : ∀ k, k < 10 → s.heap.size ≤ b k) (dj : ∀ i j, i < 35 → j < 10 → ¬ a i = b j) :
    ∀ (n i : Nat) (Sz : St) (Kz : Kt) (Fz Bf Af : Nat → Int64) (Ct Pt : Nat → Int32) (H : Heap) (locs : List Loc) (ls : Array Slot), i ≤ L → L < i + n → Inv Sz → RM (Sz, Fz, Bf, Af, Ct, Pt) → HW G.1 35 a (EB G a (Sz, Kz)) H → HW G.1 10 b (EM G b (Sz, Fz, Bf, Af, Ct, Pt)) H → va_S (fun q : Nat => s.heap.size ≤ q) s.heap H locs → lv_has ls 4 [(0, .ref bs), (1, .ref (a 0)), (2, .ref (b 0)), (3, .int (nI i))] → W p l e room_1 s m #[Value.ref bs] below meth c H locs 45 2454 (lw_Z below #[Value.ref bs] s) (F0 m 18 ls []) := by
  have hx := C.1
  have hb := C.2.1
  have hbA : ¬ (fun q : Nat => s.heap.size ≤ q) bs := Nat.not_le.mpr hbl
  intro n
  induction n with
  | zero =>
    intro i Sz Kz Fz Bf Af Ct Pt H locs ls h1 h2
    exact absurd h2 (by omega)
  | succ n ih =>
    intro i Sz Kz Fz Bf Af Ct Pt H locs ls hi hn hI hR hB hM hS hl
    refine lv_iload_n hx hb dL_law_18 rfl (lv_at hl 3 rfl) ?_
    refine lv_aload_n hx hb dL_law_19 rfl (lv_at hl 0 rfl) ?_
    refine va_slen hx hb hX hbl hbA hS dL_law_20 ?_
    refine lw_ti (show (Int32.ofNat L : Int32) = nI L from rfl) ?_
    refine lv_bipush (v := nI 6) hx hb dL_law_21 (by decide) ?_
    refine lv_isub hx hb dL_law_23 ?_
    refine lv_icmp_gt (tgt := 831) hx hb dL_law_24 (by decide) (fun c24 => ?_) (fun c24 => ?_)
    · skip
      refine lv_iconst (v := 1) hx hb dL_law_831 (by decide) ?_
      refine va_forget (fun q hq => hS.2.2 q hq) ?_
      refine W.widen (k := 600000) (n := 7302250) (Nat.le_of_ble_eq_true rfl) (Nat.le_of_ble_eq_true rfl) ?_
      exact lw_ret hx hb hr hlocks dL_law_832
    · skip
      have hi6 : i + 6 ≤ L := by
        rw [Int32.lt_iff_toInt_lt, pk_sub_toInt (by omega) (by omega), nI_toInt (by omega)] at c24; omega
      refine lv_aload_n hx hb dL_law_27 rfl (lv_at hl 0 rfl) ?_
      refine lv_iload_n hx hb dL_law_28 rfl (lv_at hl 3 rfl) ?_
      refine lw_ld C hX hbl hbA hS hL (by omega) dL_law_29 ?_
      refine lv_bipush (v := nI 31) hx hb dL_law_30 (by decide) ?_
      refine lv_iand hx hb dL_law_32 ?_
      obtain ⟨j, hj, hand⟩ := pk_andE (xs i) (m := nI 31) 5 (by decide)
      refine lw_ti hand ?_
      by_cases hj19 : j < 19
      · rcases (show j = 0 ∨ j = 1 ∨ j = 2 ∨ j = 3 ∨ j = 4 ∨ j = 5 ∨ j = 6 ∨ j = 7 ∨ j = 8 ∨ j = 9 ∨ j = 10 ∨ j = 11 ∨ j = 12 ∨ j = 13 ∨ j = 14 ∨ j = 15 ∨ j = 16 ∨ j = 17 ∨ j = 18 by omega) with rfl | rfl | rfl | rfl | rfl | rfl | rfl | rfl | rfl | rfl | rfl | rfl | rfl | rfl | rfl | rfl | rfl | rfl | rfl
        · refine lv_tableIn (off := 91) (tgt := 124) hx hb dL_law_33 (by decide) (by decide) (by decide) (by decide) ?_
          refine lv_aload_n hx hb dL_law_124 rfl (lv_at hl 1 rfl) ?_
          refine lv_aload_n hx hb dL_law_125 rfl (lv_at hl 0 rfl) ?_
          refine lv_iload_n hx hb dL_law_126 rfl (lv_at hl 3 rfl) ?_
          refine lv_iconst (v := nI 1) hx hb dL_law_127 (by decide) ?_
          refine lv_iadd hx hb dL_law_128 ?_
          refine lw_ti (show _ = nI (i + 1) from nI_add _ _) ?_
          refine lw_ld C hX hbl hbA hS hL (by omega) dL_law_129 ?_
          refine lv_aload_n hx hb dL_law_130 rfl (lv_at hl 0 rfl) ?_
          refine lv_iload_n hx hb dL_law_131 rfl (lv_at hl 3 rfl) ?_
          refine lv_iconst (v := nI 2) hx hb dL_law_132 (by decide) ?_
          refine lv_iadd hx hb dL_law_133 ?_
          refine lw_ti (show _ = nI (i + 2) from nI_add _ _) ?_
          refine lw_ld C hX hbl hbA hS hL (by omega) dL_law_134 ?_
          refine lv_aload_n hx hb dL_law_135 rfl (lv_at hl 0 rfl) ?_
          refine lv_iload_n hx hb dL_law_136 rfl (lv_at hl 3 rfl) ?_
          refine lv_iconst (v := nI 3) hx hb dL_law_137 (by decide) ?_
          refine lv_iadd hx hb dL_law_138 ?_
          refine lw_ti (show _ = nI (i + 3) from nI_add _ _) ?_
          refine lw_ld C hX hbl hbA hS hL (by omega) dL_law_139 ?_
          refine LBi (rV (As := [.int (xs (i + 1)), .int (xs (i + 2)), .int (xs (i + 3))]) (rest := []) C hB lk_L_13 0 (by decide) rfl rfl rfl (c_make l G a (Sz, Kz) (xs (i + 1)) (xs (i + 2)) (xs (i + 3))) ⟨Nat.le_of_ble_eq_true rfl, Nat.le_of_ble_eq_true rfl⟩ hl.1 rfl rfl (Nat.le_of_ble_eq_true rfl) dL_law_140 ⟨Nat.le_of_ble_eq_true rfl, Nat.le_of_ble_eq_true rfl⟩) hS ha dj hM (fun rv u H locs hp hB hM hS => ?_)
          obtain ⟨hv, hu⟩ := hp
          obtain ⟨u1, Kz⟩ := u
          dsimp only at hu hv
          subst hu
          subst hv
          refine lv_aload_n hx hb dL_law_143 rfl (lv_at hl 2 rfl) ?_
          refine lv_aload_n hx hb dL_law_144 rfl (lv_at hl 0 rfl) ?_
          refine lv_iload_n hx hb dL_law_145 rfl (lv_at hl 3 rfl) ?_
          refine lv_iconst (v := nI 1) hx hb dL_law_146 (by decide) ?_
          refine lv_iadd hx hb dL_law_147 ?_
          refine lw_ti (show _ = nI (i + 1) from nI_add _ _) ?_
          refine lw_ld C hX hbl hbA hS hL (by omega) dL_law_148 ?_
          refine lv_aload_n hx hb dL_law_149 rfl (lv_at hl 0 rfl) ?_
          refine lv_iload_n hx hb dL_law_150 rfl (lv_at hl 3 rfl) ?_
          refine lv_iconst (v := nI 2) hx hb dL_law_151 (by decide) ?_
          refine lv_iadd hx hb dL_law_152 ?_
          refine lw_ti (show _ = nI (i + 2) from nI_add _ _) ?_
          refine lw_ld C hX hbl hbA hS hL (by omega) dL_law_153 ?_
          refine lv_aload_n hx hb dL_law_154 rfl (lv_at hl 0 rfl) ?_
          refine lv_iload_n hx hb dL_law_155 rfl (lv_at hl 3 rfl) ?_
          refine lv_iconst (v := nI 3) hx hb dL_law_156 (by decide) ?_
          refine lv_iadd hx hb dL_law_157 ?_
          refine lw_ti (show _ = nI (i + 3) from nI_add _ _) ?_
          refine lw_ld C hX hbl hbA hS hL (by omega) dL_law_158 ?_
          refine LMi (rV (As := [.int (xs (i + 1)), .int (xs (i + 2)), .int (xs (i + 3))]) (rest := [.int ((spMake Sz (xs (i + 1)) (xs (i + 2)) (xs (i + 3))).1)]) C hM lk_L_17 0 (by decide) rfl rfl rfl (c3_make l G b (Sz, Fz, Bf, Af, Ct, Pt) hI hR (xs (i + 1)) (xs (i + 2)) (xs (i + 3))) ⟨Nat.le_of_ble_eq_true rfl, Nat.le_of_ble_eq_true rfl⟩ hl.1 rfl rfl (Nat.le_of_ble_eq_true rfl) dL_law_159 ⟨Nat.le_of_ble_eq_true rfl, Nat.le_of_ble_eq_true rfl⟩) hS hb10 dj hB (fun rv u H locs hp hM hB hS => ?_)
          obtain ⟨hv, hu, hR⟩ := hp
          obtain ⟨u1, Fz, Bf, Af, Ct, Pt⟩ := u
          dsimp only at hu hv
          subst hu
          subst hv
          refine lv_icmp_eq (tgt := 825) hx hb dL_law_162 (by decide) (fun c162 => ?_) (fun c0 => absurd (rfl) c0)
          refine lv_iinc (v := nI (i + 6)) (lv' := [(3, .int (nI (i + 6))), (0, .ref bs), (1, .ref (a 0)), (2, .ref (b 0))]) hx hb dL_law_825 hl (k := 3) rfl (show nI i + nI 6 = nI (i + 6) from nI_add _ _) (by decide) rfl (fun ls hl => ?_)
          refine lv_goto (tgt := 18) hx hb dL_law_828 (by decide) ?_
          exact ih (i + 6) ((spMake Sz (xs (i + 1)) (xs (i + 2)) (xs (i + 3))).2) Kz Fz Bf Af Ct Pt _ _ _ (by omega) (by omega) (inv_make hI _ _ _) hR hB hM hS (lv_sub hl [1, 2, 3, 0] rfl)
        · refine lv_tableIn (off := 134) (tgt := 167) hx hb dL_law_33 (by decide) (by decide) (by decide) (by decide) ?_
          refine lv_aload_n hx hb dL_law_167 rfl (lv_at hl 1 rfl) ?_
          refine lv_aload_n hx hb dL_law_168 rfl (lv_at hl 0 rfl) ?_
          refine lv_iload_n hx hb dL_law_169 rfl (lv_at hl 3 rfl) ?_
          refine lv_iconst (v := nI 1) hx hb dL_law_170 (by decide) ?_
          refine lv_iadd hx hb dL_law_171 ?_
          refine lw_ti (show _ = nI (i + 1) from nI_add _ _) ?_
          refine lw_ld C hX hbl hbA hS hL (by omega) dL_law_172 ?_
          refine LBi (rV (As := [.int (xs (i + 1))]) (rest := []) C hB lk_L_18 0 (by decide) rfl rfl rfl (c_lamp l G a (Sz, Kz) (xs (i + 1))) ⟨Nat.le_of_ble_eq_true rfl, Nat.le_of_ble_eq_true rfl⟩ hl.1 rfl rfl (Nat.le_of_ble_eq_true rfl) dL_law_173 ⟨Nat.le_of_ble_eq_true rfl, Nat.le_of_ble_eq_true rfl⟩) hS ha dj hM (fun rv u H locs hp hB hM hS => ?_)
          obtain ⟨hv, hu⟩ := hp
          obtain ⟨u1, Kz⟩ := u
          dsimp only at hu hv
          subst hu
          subst hv
          refine lv_aload_n hx hb dL_law_176 rfl (lv_at hl 2 rfl) ?_
          refine lv_aload_n hx hb dL_law_177 rfl (lv_at hl 0 rfl) ?_
          refine lv_iload_n hx hb dL_law_178 rfl (lv_at hl 3 rfl) ?_
          refine lv_iconst (v := nI 1) hx hb dL_law_179 (by decide) ?_
          refine lv_iadd hx hb dL_law_180 ?_
          refine lw_ti (show _ = nI (i + 1) from nI_add _ _) ?_
          refine lw_ld C hX hbl hbA hS hL (by omega) dL_law_181 ?_
          refine LMi (rV (As := [.int (xs (i + 1))]) (rest := [.int ((spLamp Sz (xs (i + 1))).1)]) C hM lk_L_22 0 (by decide) rfl rfl rfl (c3_lamp l G b (Sz, Fz, Bf, Af, Ct, Pt) hI hR (xs (i + 1))) ⟨Nat.le_of_ble_eq_true rfl, Nat.le_of_ble_eq_true rfl⟩ hl.1 rfl rfl (Nat.le_of_ble_eq_true rfl) dL_law_182 ⟨Nat.le_of_ble_eq_true rfl, Nat.le_of_ble_eq_true rfl⟩) hS hb10 dj hB (fun rv u H locs hp hM hB hS => ?_)
          obtain ⟨hv, hu, hR⟩ := hp
          obtain ⟨u1, Fz, Bf, Af, Ct, Pt⟩ := u
          dsimp only at hu hv
          subst hu
          subst hv
          refine lv_icmp_eq (tgt := 825) hx hb dL_law_185 (by decide) (fun c185 => ?_) (fun c0 => absurd (rfl) c0)
          refine lv_iinc (v := nI (i + 6)) (lv' := [(3, .int (nI (i + 6))), (0, .ref bs), (1, .ref (a 0)), (2, .ref (b 0))]) hx hb dL_law_825 hl (k := 3) rfl (show nI i + nI 6 = nI (i + 6) from nI_add _ _) (by decide) rfl (fun ls hl => ?_)
          refine lv_goto (tgt := 18) hx hb dL_law_828 (by decide) ?_
          exact ih (i + 6) ((spLamp Sz (xs (i + 1))).2) Kz Fz Bf Af Ct Pt _ _ _ (by omega) (by omega) (inv_lamp hI _) hR hB hM hS (lv_sub hl [1, 2, 3, 0] rfl)
        · refine lv_tableIn (off := 157) (tgt := 190) hx hb dL_law_33 (by decide) (by decide) (by decide) (by decide) ?_
          refine lv_aload_n hx hb dL_law_190 rfl (lv_at hl 1 rfl) ?_
          refine lv_aload_n hx hb dL_law_191 rfl (lv_at hl 0 rfl) ?_
          refine lv_iload_n hx hb dL_law_192 rfl (lv_at hl 3 rfl) ?_
          refine lv_iconst (v := nI 1) hx hb dL_law_193 (by decide) ?_
          refine lv_iadd hx hb dL_law_194 ?_
          refine lw_ti (show _ = nI (i + 1) from nI_add _ _) ?_
          refine lw_ld C hX hbl hbA hS hL (by omega) dL_law_195 ?_
          refine LBi (rV (As := [.int (xs (i + 1))]) (rest := []) C hB lk_L_23 0 (by decide) rfl rfl rfl (c_empty l G a (Sz, Kz) hI (xs (i + 1))) ⟨Nat.le_of_ble_eq_true rfl, Nat.le_of_ble_eq_true rfl⟩ hl.1 rfl rfl (Nat.le_of_ble_eq_true rfl) dL_law_196 ⟨Nat.le_of_ble_eq_true rfl, Nat.le_of_ble_eq_true rfl⟩) hS ha dj hM (fun rv u H locs hp hB hM hS => ?_)
          obtain ⟨hv, hu⟩ := hp
          obtain ⟨u1, Kz⟩ := u
          dsimp only at hu hv
          subst hu
          subst hv
          refine lv_aload_n hx hb dL_law_199 rfl (lv_at hl 2 rfl) ?_
          refine lv_aload_n hx hb dL_law_200 rfl (lv_at hl 0 rfl) ?_
          refine lv_iload_n hx hb dL_law_201 rfl (lv_at hl 3 rfl) ?_
          refine lv_iconst (v := nI 1) hx hb dL_law_202 (by decide) ?_
          refine lv_iadd hx hb dL_law_203 ?_
          refine lw_ti (show _ = nI (i + 1) from nI_add _ _) ?_
          refine lw_ld C hX hbl hbA hS hL (by omega) dL_law_204 ?_
          refine LMi (rV (As := [.int (xs (i + 1))]) (rest := [.int ((spEmpty Sz (xs (i + 1))).1)]) C hM lk_L_26 0 (by decide) rfl rfl rfl (c3_empty l G b (Sz, Fz, Bf, Af, Ct, Pt) hI hR (xs (i + 1))) ⟨Nat.le_of_ble_eq_true rfl, Nat.le_of_ble_eq_true rfl⟩ hl.1 rfl rfl (Nat.le_of_ble_eq_true rfl) dL_law_205 ⟨Nat.le_of_ble_eq_true rfl, Nat.le_of_ble_eq_true rfl⟩) hS hb10 dj hB (fun rv u H locs hp hM hB hS => ?_)
          obtain ⟨hv, hu, hR⟩ := hp
          obtain ⟨u1, Fz, Bf, Af, Ct, Pt⟩ := u
          dsimp only at hu hv
          subst hu
          subst hv
          refine lv_icmp_eq (tgt := 825) hx hb dL_law_208 (by decide) (fun c208 => ?_) (fun c0 => absurd (rfl) c0)
          refine lv_iinc (v := nI (i + 6)) (lv' := [(3, .int (nI (i + 6))), (0, .ref bs), (1, .ref (a 0)), (2, .ref (b 0))]) hx hb dL_law_825 hl (k := 3) rfl (show nI i + nI 6 = nI (i + 6) from nI_add _ _) (by decide) rfl (fun ls hl => ?_)
          refine lv_goto (tgt := 18) hx hb dL_law_828 (by decide) ?_
          exact ih (i + 6) ((spEmpty Sz (xs (i + 1))).2) Kz Fz Bf Af Ct Pt _ _ _ (by omega) (by omega) (inv_empty hI _) hR hB hM hS (lv_sub hl [1, 2, 3, 0] rfl)
        · refine lv_tableIn (off := 180) (tgt := 213) hx hb dL_law_33 (by decide) (by decide) (by decide) (by decide) ?_
          refine lv_aload_n hx hb dL_law_213 rfl (lv_at hl 1 rfl) ?_
          refine lv_aload_n hx hb dL_law_214 rfl (lv_at hl 0 rfl) ?_
          refine lv_iload_n hx hb dL_law_215 rfl (lv_at hl 3 rfl) ?_
          refine lv_iconst (v := nI 1) hx hb dL_law_216 (by decide) ?_
          refine lv_iadd hx hb dL_law_217 ?_
          refine lw_ti (show _ = nI (i + 1) from nI_add _ _) ?_
          refine lw_ld C hX hbl hbA hS hL (by omega) dL_law_218 ?_
          refine lv_aload_n hx hb dL_law_219 rfl (lv_at hl 0 rfl) ?_
          refine lv_iload_n hx hb dL_law_220 rfl (lv_at hl 3 rfl) ?_
          refine lv_iconst (v := nI 2) hx hb dL_law_221 (by decide) ?_
          refine lv_iadd hx hb dL_law_222 ?_
          refine lw_ti (show _ = nI (i + 2) from nI_add _ _) ?_
          refine lw_ld C hX hbl hbA hS hL (by omega) dL_law_223 ?_
          refine lv_if_eq (tgt := 231) hx hb dL_law_224 (by decide) (fun c224 => ?_) (fun c224 => ?_)
          · skip
            refine lv_iconst (v := nI 0) hx hb dL_law_231 (by decide) ?_
            refine LBi (rV (As := [.int (xs (i + 1)), .int (nI 0)]) (rest := []) C hB lk_L_27 0 (by decide) rfl rfl rfl (c_bead l G a (Sz, Kz) hI (xs (i + 1)) (nI 0) rfl) ⟨Nat.le_of_ble_eq_true rfl, Nat.le_of_ble_eq_true rfl⟩ hl.1 rfl rfl (Nat.le_of_ble_eq_true rfl) dL_law_232 ⟨Nat.le_of_ble_eq_true rfl, Nat.le_of_ble_eq_true rfl⟩) hS ha dj hM (fun rv u H locs hp hB hM hS => ?_)
            obtain ⟨hv, hu⟩ := hp
            obtain ⟨u1, Kz⟩ := u
            dsimp only at hu hv
            subst hu
            subst hv
            refine lv_aload_n hx hb dL_law_235 rfl (lv_at hl 2 rfl) ?_
            refine lv_aload_n hx hb dL_law_236 rfl (lv_at hl 0 rfl) ?_
            refine lv_iload_n hx hb dL_law_237 rfl (lv_at hl 3 rfl) ?_
            refine lv_iconst (v := nI 1) hx hb dL_law_238 (by decide) ?_
            refine lv_iadd hx hb dL_law_239 ?_
            refine lw_ti (show _ = nI (i + 1) from nI_add _ _) ?_
            refine lw_ld C hX hbl hbA hS hL (by omega) dL_law_240 ?_
            refine lv_aload_n hx hb dL_law_241 rfl (lv_at hl 0 rfl) ?_
            refine lv_iload_n hx hb dL_law_242 rfl (lv_at hl 3 rfl) ?_
            refine lv_iconst (v := nI 2) hx hb dL_law_243 (by decide) ?_
            refine lv_iadd hx hb dL_law_244 ?_
            refine lw_ti (show _ = nI (i + 2) from nI_add _ _) ?_
            refine lw_ld C hX hbl hbA hS hL (by omega) dL_law_245 ?_
            refine lv_if_eq (tgt := 253) hx hb dL_law_246 (by decide) (fun c246 => ?_) (fun c0 => absurd (c224) c0)
            refine lv_iconst (v := nI 0) hx hb dL_law_253 (by decide) ?_
            refine LMi (rV (As := [.int (xs (i + 1)), .int (nI 0)]) (rest := [.int ((spBead Sz (xs (i + 1)) (nI 0)).1)]) C hM lk_L_31 0 (by decide) rfl rfl rfl (c3_bead l G b (Sz, Fz, Bf, Af, Ct, Pt) hI hR (xs (i + 1)) (nI 0) rfl) ⟨Nat.le_of_ble_eq_true rfl, Nat.le_of_ble_eq_true rfl⟩ hl.1 rfl rfl (Nat.le_of_ble_eq_true rfl) dL_law_254 ⟨Nat.le_of_ble_eq_true rfl, Nat.le_of_ble_eq_true rfl⟩) hS hb10 dj hB (fun rv u H locs hp hM hB hS => ?_)
            obtain ⟨hv, hu, hR⟩ := hp
            obtain ⟨u1, Fz, Bf, Af, Ct, Pt⟩ := u
            dsimp only at hu hv
            subst hu
            subst hv
            refine lv_icmp_eq (tgt := 825) hx hb dL_law_257 (by decide) (fun c257 => ?_) (fun c0 => absurd (rfl) c0)
            refine lv_iinc (v := nI (i + 6)) (lv' := [(3, .int (nI (i + 6))), (0, .ref bs), (1, .ref (a 0)), (2, .ref (b 0))]) hx hb dL_law_825 hl (k := 3) rfl (show nI i + nI 6 = nI (i + 6) from nI_add _ _) (by decide) rfl (fun ls hl => ?_)
            refine lv_goto (tgt := 18) hx hb dL_law_828 (by decide) ?_
            exact ih (i + 6) ((spBead Sz (xs (i + 1)) (nI 0)).2) Kz Fz Bf Af Ct Pt _ _ _ (by omega) (by omega) (inv_bead hI _ _) hR hB hM hS (lv_sub hl [1, 2, 3, 0] rfl)
          · skip
            refine lv_iconst (v := nI 1) hx hb dL_law_227 (by decide) ?_
            refine lv_goto (tgt := 232) hx hb dL_law_228 (by decide) ?_
            refine LBi (rV (As := [.int (xs (i + 1)), .int (nI 1)]) (rest := []) C hB lk_L_27 0 (by decide) rfl rfl rfl (c_bead l G a (Sz, Kz) hI (xs (i + 1)) (nI 1) rfl) ⟨Nat.le_of_ble_eq_true rfl, Nat.le_of_ble_eq_true rfl⟩ hl.1 rfl rfl (Nat.le_of_ble_eq_true rfl) dL_law_232 ⟨Nat.le_of_ble_eq_true rfl, Nat.le_of_ble_eq_true rfl⟩) hS ha dj hM (fun rv u H locs hp hB hM hS => ?_)
            obtain ⟨hv, hu⟩ := hp
            obtain ⟨u1, Kz⟩ := u
            dsimp only at hu hv
            subst hu
            subst hv
            refine lv_aload_n hx hb dL_law_235 rfl (lv_at hl 2 rfl) ?_
            refine lv_aload_n hx hb dL_law_236 rfl (lv_at hl 0 rfl) ?_
            refine lv_iload_n hx hb dL_law_237 rfl (lv_at hl 3 rfl) ?_
            refine lv_iconst (v := nI 1) hx hb dL_law_238 (by decide) ?_
            refine lv_iadd hx hb dL_law_239 ?_
            refine lw_ti (show _ = nI (i + 1) from nI_add _ _) ?_
            refine lw_ld C hX hbl hbA hS hL (by omega) dL_law_240 ?_
            refine lv_aload_n hx hb dL_law_241 rfl (lv_at hl 0 rfl) ?_
            refine lv_iload_n hx hb dL_law_242 rfl (lv_at hl 3 rfl) ?_
            refine lv_iconst (v := nI 2) hx hb dL_law_243 (by decide) ?_
            refine lv_iadd hx hb dL_law_244 ?_
            refine lw_ti (show _ = nI (i + 2) from nI_add _ _) ?_
            refine lw_ld C hX hbl hbA hS hL (by omega) dL_law_245 ?_
            refine lv_if_eq (tgt := 253) hx hb dL_law_246 (by decide) (fun c0 => absurd c0 (c224)) (fun c246 => ?_)
            refine lv_iconst (v := nI 1) hx hb dL_law_249 (by decide) ?_
            refine lv_goto (tgt := 254) hx hb dL_law_250 (by decide) ?_
            refine LMi (rV (As := [.int (xs (i + 1)), .int (nI 1)]) (rest := [.int ((spBead Sz (xs (i + 1)) (nI 1)).1)]) C hM lk_L_31 0 (by decide) rfl rfl rfl (c3_bead l G b (Sz, Fz, Bf, Af, Ct, Pt) hI hR (xs (i + 1)) (nI 1) rfl) ⟨Nat.le_of_ble_eq_true rfl, Nat.le_of_ble_eq_true rfl⟩ hl.1 rfl rfl (Nat.le_of_ble_eq_true rfl) dL_law_254 ⟨Nat.le_of_ble_eq_true rfl, Nat.le_of_ble_eq_true rfl⟩) hS hb10 dj hB (fun rv u H locs hp hM hB hS => ?_)
            obtain ⟨hv, hu, hR⟩ := hp
            obtain ⟨u1, Fz, Bf, Af, Ct, Pt⟩ := u
            dsimp only at hu hv
            subst hu
            subst hv
            refine lv_icmp_eq (tgt := 825) hx hb dL_law_257 (by decide) (fun c257 => ?_) (fun c0 => absurd (rfl) c0)
            refine lv_iinc (v := nI (i + 6)) (lv' := [(3, .int (nI (i + 6))), (0, .ref bs), (1, .ref (a 0)), (2, .ref (b 0))]) hx hb dL_law_825 hl (k := 3) rfl (show nI i + nI 6 = nI (i + 6) from nI_add _ _) (by decide) rfl (fun ls hl => ?_)
            refine lv_goto (tgt := 18) hx hb dL_law_828 (by decide) ?_
            exact ih (i + 6) ((spBead Sz (xs (i + 1)) (nI 1)).2) Kz Fz Bf Af Ct Pt _ _ _ (by omega) (by omega) (inv_bead hI _ _) hR hB hM hS (lv_sub hl [1, 2, 3, 0] rfl)
        · refine lv_tableIn (off := 229) (tgt := 262) hx hb dL_law_33 (by decide) (by decide) (by decide) (by decide) ?_
          refine lv_aload_n hx hb dL_law_262 rfl (lv_at hl 1 rfl) ?_
          refine lv_aload_n hx hb dL_law_263 rfl (lv_at hl 0 rfl) ?_
          refine lv_iload_n hx hb dL_law_264 rfl (lv_at hl 3 rfl) ?_
          refine lv_iconst (v := nI 1) hx hb dL_law_265 (by decide) ?_
          refine lv_iadd hx hb dL_law_266 ?_
          refine lw_ti (show _ = nI (i + 1) from nI_add _ _) ?_
          refine lw_ld C hX hbl hbA hS hL (by omega) dL_law_267 ?_
          refine lv_aload_n hx hb dL_law_268 rfl (lv_at hl 0 rfl) ?_
          refine lv_iload_n hx hb dL_law_269 rfl (lv_at hl 3 rfl) ?_
          refine lv_iconst (v := nI 2) hx hb dL_law_270 (by decide) ?_
          refine lv_iadd hx hb dL_law_271 ?_
          refine lw_ti (show _ = nI (i + 2) from nI_add _ _) ?_
          refine lw_ld C hX hbl hbA hS hL (by omega) dL_law_272 ?_
          refine LBi (rV (As := [.int (xs (i + 1)), .int (xs (i + 2))]) (rest := []) C hB lk_L_32 0 (by decide) rfl rfl rfl (c_paint l G a (Sz, Kz) hI (xs (i + 1)) (xs (i + 2))) ⟨Nat.le_of_ble_eq_true rfl, Nat.le_of_ble_eq_true rfl⟩ hl.1 rfl rfl (Nat.le_of_ble_eq_true rfl) dL_law_273 ⟨Nat.le_of_ble_eq_true rfl, Nat.le_of_ble_eq_true rfl⟩) hS ha dj hM (fun rv u H locs hp hB hM hS => ?_)
          obtain ⟨hv, hu⟩ := hp
          obtain ⟨u1, Kz⟩ := u
          dsimp only at hu hv
          subst hu
          subst hv
          refine lv_aload_n hx hb dL_law_276 rfl (lv_at hl 2 rfl) ?_
          refine lv_aload_n hx hb dL_law_277 rfl (lv_at hl 0 rfl) ?_
          refine lv_iload_n hx hb dL_law_278 rfl (lv_at hl 3 rfl) ?_
          refine lv_iconst (v := nI 1) hx hb dL_law_279 (by decide) ?_
          refine lv_iadd hx hb dL_law_280 ?_
          refine lw_ti (show _ = nI (i + 1) from nI_add _ _) ?_
          refine lw_ld C hX hbl hbA hS hL (by omega) dL_law_281 ?_
          refine lv_aload_n hx hb dL_law_282 rfl (lv_at hl 0 rfl) ?_
          refine lv_iload_n hx hb dL_law_283 rfl (lv_at hl 3 rfl) ?_
          refine lv_iconst (v := nI 2) hx hb dL_law_284 (by decide) ?_
          refine lv_iadd hx hb dL_law_285 ?_
          refine lw_ti (show _ = nI (i + 2) from nI_add _ _) ?_
          refine lw_ld C hX hbl hbA hS hL (by omega) dL_law_286 ?_
          refine LMi (rV (As := [.int (xs (i + 1)), .int (xs (i + 2))]) (rest := [.int ((spPaint Sz (xs (i + 1)) (xs (i + 2))).1)]) C hM lk_L_36 0 (by decide) rfl rfl rfl (c3_paint l G b (Sz, Fz, Bf, Af, Ct, Pt) hI hR (xs (i + 1)) (xs (i + 2))) ⟨Nat.le_of_ble_eq_true rfl, Nat.le_of_ble_eq_true rfl⟩ hl.1 rfl rfl (Nat.le_of_ble_eq_true rfl) dL_law_287 ⟨Nat.le_of_ble_eq_true rfl, Nat.le_of_ble_eq_true rfl⟩) hS hb10 dj hB (fun rv u H locs hp hM hB hS => ?_)
          obtain ⟨hv, hu, hR⟩ := hp
          obtain ⟨u1, Fz, Bf, Af, Ct, Pt⟩ := u
          dsimp only at hu hv
          subst hu
          subst hv
          refine lv_icmp_eq (tgt := 825) hx hb dL_law_290 (by decide) (fun c290 => ?_) (fun c0 => absurd (rfl) c0)
          refine lv_iinc (v := nI (i + 6)) (lv' := [(3, .int (nI (i + 6))), (0, .ref bs), (1, .ref (a 0)), (2, .ref (b 0))]) hx hb dL_law_825 hl (k := 3) rfl (show nI i + nI 6 = nI (i + 6) from nI_add _ _) (by decide) rfl (fun ls hl => ?_)
          refine lv_goto (tgt := 18) hx hb dL_law_828 (by decide) ?_
          exact ih (i + 6) ((spPaint Sz (xs (i + 1)) (xs (i + 2))).2) Kz Fz Bf Af Ct Pt _ _ _ (by omega) (by omega) (inv_paint hI _ _) hR hB hM hS (lv_sub hl [1, 2, 3, 0] rfl)
        · refine lv_tableIn (off := 262) (tgt := 295) hx hb dL_law_33 (by decide) (by decide) (by decide) (by decide) ?_
          refine lv_aload_n hx hb dL_law_295 rfl (lv_at hl 1 rfl) ?_
          refine lv_aload_n hx hb dL_law_296 rfl (lv_at hl 0 rfl) ?_
          refine lv_iload_n hx hb dL_law_297 rfl (lv_at hl 3 rfl) ?_
          refine lv_iconst (v := nI 1) hx hb dL_law_298 (by decide) ?_
          refine lv_iadd hx hb dL_law_299 ?_
          refine lw_ti (show _ = nI (i + 1) from nI_add _ _) ?_
          refine lw_ld C hX hbl hbA hS hL (by omega) dL_law_300 ?_
          refine LBi (rV (As := [.int (xs (i + 1))]) (rest := []) C hB lk_L_37 0 (by decide) rfl rfl rfl (c_colour l G a (Sz, Kz) hI (xs (i + 1))) ⟨Nat.le_of_ble_eq_true rfl, Nat.le_of_ble_eq_true rfl⟩ hl.1 rfl rfl (Nat.le_of_ble_eq_true rfl) dL_law_301 ⟨Nat.le_of_ble_eq_true rfl, Nat.le_of_ble_eq_true rfl⟩) hS ha dj hM (fun rv u H locs hp hB hM hS => ?_)
          obtain ⟨rfl, rfl⟩ := hp
          refine lv_aload_n hx hb dL_law_304 rfl (lv_at hl 2 rfl) ?_
          refine lv_aload_n hx hb dL_law_305 rfl (lv_at hl 0 rfl) ?_
          refine lv_iload_n hx hb dL_law_306 rfl (lv_at hl 3 rfl) ?_
          refine lv_iconst (v := nI 1) hx hb dL_law_307 (by decide) ?_
          refine lv_iadd hx hb dL_law_308 ?_
          refine lw_ti (show _ = nI (i + 1) from nI_add _ _) ?_
          refine lw_ld C hX hbl hbA hS hL (by omega) dL_law_309 ?_
          refine LMi (rV (As := [.int (xs (i + 1))]) (rest := [.int (spColour Sz (xs (i + 1)))]) C hM lk_L_41 0 (by decide) rfl rfl rfl (c3_colour l G b (Sz, Fz, Bf, Af, Ct, Pt) hI (xs (i + 1))) ⟨Nat.le_of_ble_eq_true rfl, Nat.le_of_ble_eq_true rfl⟩ hl.1 rfl rfl (Nat.le_of_ble_eq_true rfl) dL_law_310 ⟨Nat.le_of_ble_eq_true rfl, Nat.le_of_ble_eq_true rfl⟩) hS hb10 dj hB (fun rv u H locs hp hM hB hS => ?_)
          obtain ⟨rfl, rfl⟩ := hp
          refine lv_icmp_eq (tgt := 825) hx hb dL_law_313 (by decide) (fun c313 => ?_) (fun c0 => absurd (rfl) c0)
          refine lv_iinc (v := nI (i + 6)) (lv' := [(3, .int (nI (i + 6))), (0, .ref bs), (1, .ref (a 0)), (2, .ref (b 0))]) hx hb dL_law_825 hl (k := 3) rfl (show nI i + nI 6 = nI (i + 6) from nI_add _ _) (by decide) rfl (fun ls hl => ?_)
          refine lv_goto (tgt := 18) hx hb dL_law_828 (by decide) ?_
          exact ih (i + 6) Sz Kz Fz Bf Af Ct Pt _ _ _ (by omega) (by omega) hI hR hB hM hS (lv_sub hl [1, 2, 3, 0] rfl)
        · refine lv_tableIn (off := 285) (tgt := 318) hx hb dL_law_33 (by decide) (by decide) (by decide) (by decide) ?_
          refine lv_aload_n hx hb dL_law_318 rfl (lv_at hl 1 rfl) ?_
          refine lv_aload_n hx hb dL_law_319 rfl (lv_at hl 0 rfl) ?_
          refine lv_iload_n hx hb dL_law_320 rfl (lv_at hl 3 rfl) ?_
          refine lv_iconst (v := nI 1) hx hb dL_law_321 (by decide) ?_
          refine lv_iadd hx hb dL_law_322 ?_
          refine lw_ti (show _ = nI (i + 1) from nI_add _ _) ?_
          refine lw_ld C hX hbl hbA hS hL (by omega) dL_law_323 ?_
          refine lv_aload_n hx hb dL_law_324 rfl (lv_at hl 0 rfl) ?_
          refine lv_iload_n hx hb dL_law_325 rfl (lv_at hl 3 rfl) ?_
          refine lv_iconst (v := nI 2) hx hb dL_law_326 (by decide) ?_
          refine lv_iadd hx hb dL_law_327 ?_
          refine lw_ti (show _ = nI (i + 2) from nI_add _ _) ?_
          refine lw_ld C hX hbl hbA hS hL (by omega) dL_law_328 ?_
          refine lv_aload_n hx hb dL_law_329 rfl (lv_at hl 0 rfl) ?_
          refine lv_iload_n hx hb dL_law_330 rfl (lv_at hl 3 rfl) ?_
          refine lv_iconst (v := nI 3) hx hb dL_law_331 (by decide) ?_
          refine lv_iadd hx hb dL_law_332 ?_
          refine lw_ti (show _ = nI (i + 3) from nI_add _ _) ?_
          refine lw_ld C hX hbl hbA hS hL (by omega) dL_law_333 ?_
          refine lv_i2l hx hb dL_law_334 rfl ?_
          refine lv_bipush (v := nI 32) hx hb dL_law_335 (by decide) ?_
          refine lv_lshl hx hb dL_law_337 rfl ?_
          refine lv_aload_n hx hb dL_law_338 rfl (lv_at hl 0 rfl) ?_
          refine lv_iload_n hx hb dL_law_339 rfl (lv_at hl 3 rfl) ?_
          refine lv_iconst (v := nI 4) hx hb dL_law_340 (by decide) ?_
          refine lv_iadd hx hb dL_law_341 ?_
          refine lw_ti (show _ = nI (i + 4) from nI_add _ _) ?_
          refine lw_ld C hX hbl hbA hS hL (by omega) dL_law_342 ?_
          refine lv_i2l hx hb dL_law_343 rfl ?_
          refine lv_ldc2 (v := 4294967295) hx hb C.2.2.2.1 (C.2.2.2.2.1 (.constantLong RL 42 4294967295) (List.mem_of_getElem? (i := 6) rfl)) dL_law_344 ?_
          refine lv_land hx hb dL_law_347 ?_
          refine lv_lor hx hb dL_law_348 ?_
          refine LBi (rV (As := [.int (xs (i + 1)), .int (xs (i + 2)), .long ((((xs (i + 3)).toInt64) <<< ((nI 32).toInt64 &&& 63)) ||| (((xs (i + 4)).toInt64) &&& 4294967295))]) (rest := []) C hB lk_L_44 0 (by decide) rfl rfl rfl (c_put l G a (Sz, Kz) hI (xs (i + 1)) (xs (i + 2)) ((((xs (i + 3)).toInt64) <<< ((nI 32).toInt64 &&& 63)) ||| (((xs (i + 4)).toInt64) &&& 4294967295))) ⟨Nat.le_of_ble_eq_true rfl, Nat.le_of_ble_eq_true rfl⟩ hl.1 rfl rfl (Nat.le_of_ble_eq_true rfl) dL_law_349 ⟨Nat.le_of_ble_eq_true rfl, Nat.le_of_ble_eq_true rfl⟩) hS ha dj hM (fun rv u H locs hp hB hM hS => ?_)
          obtain ⟨hv, hu⟩ := hp
          obtain ⟨u1, Kz⟩ := u
          dsimp only at hu hv
          subst hu
          subst hv
          refine lv_aload_n hx hb dL_law_352 rfl (lv_at hl 2 rfl) ?_
          refine lv_aload_n hx hb dL_law_353 rfl (lv_at hl 0 rfl) ?_
          refine lv_iload_n hx hb dL_law_354 rfl (lv_at hl 3 rfl) ?_
          refine lv_iconst (v := nI 1) hx hb dL_law_355 (by decide) ?_
          refine lv_iadd hx hb dL_law_356 ?_
          refine lw_ti (show _ = nI (i + 1) from nI_add _ _) ?_
          refine lw_ld C hX hbl hbA hS hL (by omega) dL_law_357 ?_
          refine lv_aload_n hx hb dL_law_358 rfl (lv_at hl 0 rfl) ?_
          refine lv_iload_n hx hb dL_law_359 rfl (lv_at hl 3 rfl) ?_
          refine lv_iconst (v := nI 2) hx hb dL_law_360 (by decide) ?_
          refine lv_iadd hx hb dL_law_361 ?_
          refine lw_ti (show _ = nI (i + 2) from nI_add _ _) ?_
          refine lw_ld C hX hbl hbA hS hL (by omega) dL_law_362 ?_
          refine lv_aload_n hx hb dL_law_363 rfl (lv_at hl 0 rfl) ?_
          refine lv_iload_n hx hb dL_law_364 rfl (lv_at hl 3 rfl) ?_
          refine lv_iconst (v := nI 3) hx hb dL_law_365 (by decide) ?_
          refine lv_iadd hx hb dL_law_366 ?_
          refine lw_ti (show _ = nI (i + 3) from nI_add _ _) ?_
          refine lw_ld C hX hbl hbA hS hL (by omega) dL_law_367 ?_
          refine lv_i2l hx hb dL_law_368 rfl ?_
          refine lv_bipush (v := nI 32) hx hb dL_law_369 (by decide) ?_
          refine lv_lshl hx hb dL_law_371 rfl ?_
          refine lv_aload_n hx hb dL_law_372 rfl (lv_at hl 0 rfl) ?_
          refine lv_iload_n hx hb dL_law_373 rfl (lv_at hl 3 rfl) ?_
          refine lv_iconst (v := nI 4) hx hb dL_law_374 (by decide) ?_
          refine lv_iadd hx hb dL_law_375 ?_
          refine lw_ti (show _ = nI (i + 4) from nI_add _ _) ?_
          refine lw_ld C hX hbl hbA hS hL (by omega) dL_law_376 ?_
          refine lv_i2l hx hb dL_law_377 rfl ?_
          refine lv_ldc2 (v := 4294967295) hx hb C.2.2.2.1 (C.2.2.2.2.1 (.constantLong RL 42 4294967295) (List.mem_of_getElem? (i := 6) rfl)) dL_law_378 ?_
          refine lv_land hx hb dL_law_381 ?_
          refine lv_lor hx hb dL_law_382 ?_
          refine LMi (rV (As := [.int (xs (i + 1)), .int (xs (i + 2)), .long ((((xs (i + 3)).toInt64) <<< ((nI 32).toInt64 &&& 63)) ||| (((xs (i + 4)).toInt64) &&& 4294967295))]) (rest := [.int ((spPut Sz (xs (i + 1)) (xs (i + 2)) ((((xs (i + 3)).toInt64) <<< ((nI 32).toInt64 &&& 63)) ||| (((xs (i + 4)).toInt64) &&& 4294967295))).1)]) C hM lk_L_48 0 (by decide) rfl rfl rfl (c3_put l G b (Sz, Fz, Bf, Af, Ct, Pt) hI hR (xs (i + 1)) (xs (i + 2)) ((((xs (i + 3)).toInt64) <<< ((nI 32).toInt64 &&& 63)) ||| (((xs (i + 4)).toInt64) &&& 4294967295))) ⟨Nat.le_of_ble_eq_true rfl, Nat.le_of_ble_eq_true rfl⟩ hl.1 rfl rfl (Nat.le_of_ble_eq_true rfl) dL_law_383 ⟨Nat.le_of_ble_eq_true rfl, Nat.le_of_ble_eq_true rfl⟩) hS hb10 dj hB (fun rv u H locs hp hM hB hS => ?_)
          obtain ⟨hv, hu, hR⟩ := hp
          obtain ⟨u1, Fz, Bf, Af, Ct, Pt⟩ := u
          dsimp only at hu hv
          subst hu
          subst hv
          refine lv_icmp_eq (tgt := 825) hx hb dL_law_386 (by decide) (fun c386 => ?_) (fun c0 => absurd (rfl) c0)
          refine lv_iinc (v := nI (i + 6)) (lv' := [(3, .int (nI (i + 6))), (0, .ref bs), (1, .ref (a 0)), (2, .ref (b 0))]) hx hb dL_law_825 hl (k := 3) rfl (show nI i + nI 6 = nI (i + 6) from nI_add _ _) (by decide) rfl (fun ls hl => ?_)
          refine lv_goto (tgt := 18) hx hb dL_law_828 (by decide) ?_
          exact ih (i + 6) ((spPut Sz (xs (i + 1)) (xs (i + 2)) ((((xs (i + 3)).toInt64) <<< ((nI 32).toInt64 &&& 63)) ||| (((xs (i + 4)).toInt64) &&& 4294967295))).2) Kz Fz Bf Af Ct Pt _ _ _ (by omega) (by omega) (inv_put hI _ _ _) hR hB hM hS (lv_sub hl [1, 2, 3, 0] rfl)
        · refine lv_tableIn (off := 358) (tgt := 391) hx hb dL_law_33 (by decide) (by decide) (by decide) (by decide) ?_
          refine lv_aload_n hx hb dL_law_391 rfl (lv_at hl 1 rfl) ?_
          refine lv_aload_n hx hb dL_law_392 rfl (lv_at hl 0 rfl) ?_
          refine lv_iload_n hx hb dL_law_393 rfl (lv_at hl 3 rfl) ?_
          refine lv_iconst (v := nI 1) hx hb dL_law_394 (by decide) ?_
          refine lv_iadd hx hb dL_law_395 ?_
          refine lw_ti (show _ = nI (i + 1) from nI_add _ _) ?_
          refine lw_ld C hX hbl hbA hS hL (by omega) dL_law_396 ?_
          refine lv_aload_n hx hb dL_law_397 rfl (lv_at hl 0 rfl) ?_
          refine lv_iload_n hx hb dL_law_398 rfl (lv_at hl 3 rfl) ?_
          refine lv_iconst (v := nI 2) hx hb dL_law_399 (by decide) ?_
          refine lv_iadd hx hb dL_law_400 ?_
          refine lw_ti (show _ = nI (i + 2) from nI_add _ _) ?_
          refine lw_ld C hX hbl hbA hS hL (by omega) dL_law_401 ?_
          refine LBl (rV (As := [.int (xs (i + 1)), .int (xs (i + 2))]) (rest := []) C hB lk_L_49 0 (by decide) rfl rfl rfl (c_look l G a (Sz, Kz) hI (xs (i + 1)) (xs (i + 2))) ⟨Nat.le_of_ble_eq_true rfl, Nat.le_of_ble_eq_true rfl⟩ hl.1 rfl rfl (Nat.le_of_ble_eq_true rfl) dL_law_402 ⟨Nat.le_of_ble_eq_true rfl, Nat.le_of_ble_eq_true rfl⟩) hS ha dj hM (fun rv u H locs hp hB hM hS => ?_)
          obtain ⟨rfl, rfl⟩ := hp
          refine lv_aload_n hx hb dL_law_405 rfl (lv_at hl 2 rfl) ?_
          refine lv_aload_n hx hb dL_law_406 rfl (lv_at hl 0 rfl) ?_
          refine lv_iload_n hx hb dL_law_407 rfl (lv_at hl 3 rfl) ?_
          refine lv_iconst (v := nI 1) hx hb dL_law_408 (by decide) ?_
          refine lv_iadd hx hb dL_law_409 ?_
          refine lw_ti (show _ = nI (i + 1) from nI_add _ _) ?_
          refine lw_ld C hX hbl hbA hS hL (by omega) dL_law_410 ?_
          refine lv_aload_n hx hb dL_law_411 rfl (lv_at hl 0 rfl) ?_
          refine lv_iload_n hx hb dL_law_412 rfl (lv_at hl 3 rfl) ?_
          refine lv_iconst (v := nI 2) hx hb dL_law_413 (by decide) ?_
          refine lv_iadd hx hb dL_law_414 ?_
          refine lw_ti (show _ = nI (i + 2) from nI_add _ _) ?_
          refine lw_ld C hX hbl hbA hS hL (by omega) dL_law_415 ?_
          refine LMl (rV (As := [.int (xs (i + 1)), .int (xs (i + 2))]) (rest := [.long (spLook Sz (xs (i + 1)) (xs (i + 2)))]) C hM lk_L_53 0 (by decide) rfl rfl rfl (c3_look l G b (Sz, Fz, Bf, Af, Ct, Pt) hI hR (xs (i + 1)) (xs (i + 2))) ⟨Nat.le_of_ble_eq_true rfl, Nat.le_of_ble_eq_true rfl⟩ hl.1 rfl rfl (Nat.le_of_ble_eq_true rfl) dL_law_416 ⟨Nat.le_of_ble_eq_true rfl, Nat.le_of_ble_eq_true rfl⟩) hS hb10 dj hB (fun rv u H locs hp hM hB hS => ?_)
          obtain ⟨rfl, rfl⟩ := hp
          refine W.lcmp hx hb dL_law_419 ?_
          refine lv_if_eq (tgt := 825) hx hb dL_law_420 (by decide) (fun c420 => ?_) (fun c0 => absurd ((lg_cmp_eq _ _).mpr rfl) c0)
          refine lv_iinc (v := nI (i + 6)) (lv' := [(3, .int (nI (i + 6))), (0, .ref bs), (1, .ref (a 0)), (2, .ref (b 0))]) hx hb dL_law_825 hl (k := 3) rfl (show nI i + nI 6 = nI (i + 6) from nI_add _ _) (by decide) rfl (fun ls hl => ?_)
          refine lv_goto (tgt := 18) hx hb dL_law_828 (by decide) ?_
          exact ih (i + 6) Sz Kz Fz Bf Af Ct Pt _ _ _ (by omega) (by omega) hI hR hB hM hS (lv_sub hl [1, 2, 3, 0] rfl)
        · refine lv_tableIn (off := 392) (tgt := 425) hx hb dL_law_33 (by decide) (by decide) (by decide) (by decide) ?_
          refine lv_aload_n hx hb dL_law_425 rfl (lv_at hl 1 rfl) ?_
          refine lv_aload_n hx hb dL_law_426 rfl (lv_at hl 0 rfl) ?_
          refine lv_iload_n hx hb dL_law_427 rfl (lv_at hl 3 rfl) ?_
          refine lv_iconst (v := nI 1) hx hb dL_law_428 (by decide) ?_
          refine lv_iadd hx hb dL_law_429 ?_
          refine lw_ti (show _ = nI (i + 1) from nI_add _ _) ?_
          refine lw_ld C hX hbl hbA hS hL (by omega) dL_law_430 ?_
          refine lv_aload_n hx hb dL_law_431 rfl (lv_at hl 0 rfl) ?_
          refine lv_iload_n hx hb dL_law_432 rfl (lv_at hl 3 rfl) ?_
          refine lv_iconst (v := nI 2) hx hb dL_law_433 (by decide) ?_
          refine lv_iadd hx hb dL_law_434 ?_
          refine lw_ti (show _ = nI (i + 2) from nI_add _ _) ?_
          refine lw_ld C hX hbl hbA hS hL (by omega) dL_law_435 ?_
          refine lv_aload_n hx hb dL_law_436 rfl (lv_at hl 0 rfl) ?_
          refine lv_iload_n hx hb dL_law_437 rfl (lv_at hl 3 rfl) ?_
          refine lv_iconst (v := nI 3) hx hb dL_law_438 (by decide) ?_
          refine lv_iadd hx hb dL_law_439 ?_
          refine lw_ti (show _ = nI (i + 3) from nI_add _ _) ?_
          refine lw_ld C hX hbl hbA hS hL (by omega) dL_law_440 ?_
          refine lv_aload_n hx hb dL_law_441 rfl (lv_at hl 0 rfl) ?_
          refine lv_iload_n hx hb dL_law_442 rfl (lv_at hl 3 rfl) ?_
          refine lv_iconst (v := nI 4) hx hb dL_law_443 (by decide) ?_
          refine lv_iadd hx hb dL_law_444 ?_
          refine lw_ti (show _ = nI (i + 4) from nI_add _ _) ?_
          refine lw_ld C hX hbl hbA hS hL (by omega) dL_law_445 ?_
          refine lv_aload_n hx hb dL_law_446 rfl (lv_at hl 0 rfl) ?_
          refine lv_iload_n hx hb dL_law_447 rfl (lv_at hl 3 rfl) ?_
          refine lv_iconst (v := nI 5) hx hb dL_law_448 (by decide) ?_
          refine lv_iadd hx hb dL_law_449 ?_
          refine lw_ti (show _ = nI (i + 5) from nI_add _ _) ?_
          refine lw_ld C hX hbl hbA hS hL (by omega) dL_law_450 ?_
          refine LBi (rV (As := [.int (xs (i + 1)), .int (xs (i + 2)), .int (xs (i + 3)), .int (xs (i + 4)), .int (xs (i + 5))]) (rest := []) C hB lk_L_54 0 (by decide) rfl rfl rfl (c_move l G a (Sz, Kz) hI (xs (i + 1)) (xs (i + 2)) (xs (i + 3)) (xs (i + 4)) (xs (i + 5))) ⟨Nat.le_of_ble_eq_true rfl, Nat.le_of_ble_eq_true rfl⟩ hl.1 rfl rfl (Nat.le_of_ble_eq_true rfl) dL_law_451 ⟨Nat.le_of_ble_eq_true rfl, Nat.le_of_ble_eq_true rfl⟩) hS ha dj hM (fun rv u H locs hp hB hM hS => ?_)
          obtain ⟨hv, hu⟩ := hp
          obtain ⟨u1, Kz⟩ := u
          dsimp only at hu hv
          subst hu
          subst hv
          refine lv_aload_n hx hb dL_law_454 rfl (lv_at hl 2 rfl) ?_
          refine lv_aload_n hx hb dL_law_455 rfl (lv_at hl 0 rfl) ?_
          refine lv_iload_n hx hb dL_law_456 rfl (lv_at hl 3 rfl) ?_
          refine lv_iconst (v := nI 1) hx hb dL_law_457 (by decide) ?_
          refine lv_iadd hx hb dL_law_458 ?_
          refine lw_ti (show _ = nI (i + 1) from nI_add _ _) ?_
          refine lw_ld C hX hbl hbA hS hL (by omega) dL_law_459 ?_
          refine lv_aload_n hx hb dL_law_460 rfl (lv_at hl 0 rfl) ?_
          refine lv_iload_n hx hb dL_law_461 rfl (lv_at hl 3 rfl) ?_
          refine lv_iconst (v := nI 2) hx hb dL_law_462 (by decide) ?_
          refine lv_iadd hx hb dL_law_463 ?_
          refine lw_ti (show _ = nI (i + 2) from nI_add _ _) ?_
          refine lw_ld C hX hbl hbA hS hL (by omega) dL_law_464 ?_
          refine lv_aload_n hx hb dL_law_465 rfl (lv_at hl 0 rfl) ?_
          refine lv_iload_n hx hb dL_law_466 rfl (lv_at hl 3 rfl) ?_
          refine lv_iconst (v := nI 3) hx hb dL_law_467 (by decide) ?_
          refine lv_iadd hx hb dL_law_468 ?_
          refine lw_ti (show _ = nI (i + 3) from nI_add _ _) ?_
          refine lw_ld C hX hbl hbA hS hL (by omega) dL_law_469 ?_
          refine lv_aload_n hx hb dL_law_470 rfl (lv_at hl 0 rfl) ?_
          refine lv_iload_n hx hb dL_law_471 rfl (lv_at hl 3 rfl) ?_
          refine lv_iconst (v := nI 4) hx hb dL_law_472 (by decide) ?_
          refine lv_iadd hx hb dL_law_473 ?_
          refine lw_ti (show _ = nI (i + 4) from nI_add _ _) ?_
          refine lw_ld C hX hbl hbA hS hL (by omega) dL_law_474 ?_
          refine lv_aload_n hx hb dL_law_475 rfl (lv_at hl 0 rfl) ?_
          refine lv_iload_n hx hb dL_law_476 rfl (lv_at hl 3 rfl) ?_
          refine lv_iconst (v := nI 5) hx hb dL_law_477 (by decide) ?_
          refine lv_iadd hx hb dL_law_478 ?_
          refine lw_ti (show _ = nI (i + 5) from nI_add _ _) ?_
          refine lw_ld C hX hbl hbA hS hL (by omega) dL_law_479 ?_
          refine LMi (rV (As := [.int (xs (i + 1)), .int (xs (i + 2)), .int (xs (i + 3)), .int (xs (i + 4)), .int (xs (i + 5))]) (rest := [.int ((spMove Sz (xs (i + 1)) (xs (i + 2)) (xs (i + 3)) (xs (i + 4)) (xs (i + 5))).1)]) C hM lk_L_58 0 (by decide) rfl rfl rfl (c3_move l G b (Sz, Fz, Bf, Af, Ct, Pt) hI hR (xs (i + 1)) (xs (i + 2)) (xs (i + 3)) (xs (i + 4)) (xs (i + 5))) ⟨Nat.le_of_ble_eq_true rfl, Nat.le_of_ble_eq_true rfl⟩ hl.1 rfl rfl (Nat.le_of_ble_eq_true rfl) dL_law_480 ⟨Nat.le_of_ble_eq_true rfl, Nat.le_of_ble_eq_true rfl⟩) hS hb10 dj hB (fun rv u H locs hp hM hB hS => ?_)
          obtain ⟨hv, hu, hR⟩ := hp
          obtain ⟨u1, Fz, Bf, Af, Ct, Pt⟩ := u
          dsimp only at hu hv
          subst hu
          subst hv
          refine lv_icmp_eq (tgt := 825) hx hb dL_law_483 (by decide) (fun c483 => ?_) (fun c0 => absurd (rfl) c0)
          refine lv_iinc (v := nI (i + 6)) (lv' := [(3, .int (nI (i + 6))), (0, .ref bs), (1, .ref (a 0)), (2, .ref (b 0))]) hx hb dL_law_825 hl (k := 3) rfl (show nI i + nI 6 = nI (i + 6) from nI_add _ _) (by decide) rfl (fun ls hl => ?_)
          refine lv_goto (tgt := 18) hx hb dL_law_828 (by decide) ?_
          exact ih (i + 6) ((spMove Sz (xs (i + 1)) (xs (i + 2)) (xs (i + 3)) (xs (i + 4)) (xs (i + 5))).2) Kz Fz Bf Af Ct Pt _ _ _ (by omega) (by omega) (inv_move hI _ _ _ _ _) hR hB hM hS (lv_sub hl [1, 2, 3, 0] rfl)
        · refine lv_tableIn (off := 455) (tgt := 488) hx hb dL_law_33 (by decide) (by decide) (by decide) (by decide) ?_
          refine lv_aload_n hx hb dL_law_488 rfl (lv_at hl 1 rfl) ?_
          refine lv_aload_n hx hb dL_law_489 rfl (lv_at hl 0 rfl) ?_
          refine lv_iload_n hx hb dL_law_490 rfl (lv_at hl 3 rfl) ?_
          refine lv_iconst (v := nI 1) hx hb dL_law_491 (by decide) ?_
          refine lv_iadd hx hb dL_law_492 ?_
          refine lw_ti (show _ = nI (i + 1) from nI_add _ _) ?_
          refine lw_ld C hX hbl hbA hS hL (by omega) dL_law_493 ?_
          refine lv_aload_n hx hb dL_law_494 rfl (lv_at hl 0 rfl) ?_
          refine lv_iload_n hx hb dL_law_495 rfl (lv_at hl 3 rfl) ?_
          refine lv_iconst (v := nI 2) hx hb dL_law_496 (by decide) ?_
          refine lv_iadd hx hb dL_law_497 ?_
          refine lw_ti (show _ = nI (i + 2) from nI_add _ _) ?_
          refine lw_ld C hX hbl hbA hS hL (by omega) dL_law_498 ?_
          refine LBi (rV (As := [.int (xs (i + 1)), .int (xs (i + 2))]) (rest := []) C hB lk_L_59 0 (by decide) rfl rfl rfl (c_open l G a (Sz, Kz) hI (xs (i + 1)) (xs (i + 2))) ⟨Nat.le_of_ble_eq_true rfl, Nat.le_of_ble_eq_true rfl⟩ hl.1 rfl rfl (Nat.le_of_ble_eq_true rfl) dL_law_499 ⟨Nat.le_of_ble_eq_true rfl, Nat.le_of_ble_eq_true rfl⟩) hS ha dj hM (fun rv u H locs hp hB hM hS => ?_)
          obtain ⟨hv, hu⟩ := hp
          obtain ⟨u1, Kz⟩ := u
          dsimp only at hu hv
          subst hu
          subst hv
          refine lv_aload_n hx hb dL_law_502 rfl (lv_at hl 2 rfl) ?_
          refine lv_aload_n hx hb dL_law_503 rfl (lv_at hl 0 rfl) ?_
          refine lv_iload_n hx hb dL_law_504 rfl (lv_at hl 3 rfl) ?_
          refine lv_iconst (v := nI 1) hx hb dL_law_505 (by decide) ?_
          refine lv_iadd hx hb dL_law_506 ?_
          refine lw_ti (show _ = nI (i + 1) from nI_add _ _) ?_
          refine lw_ld C hX hbl hbA hS hL (by omega) dL_law_507 ?_
          refine lv_aload_n hx hb dL_law_508 rfl (lv_at hl 0 rfl) ?_
          refine lv_iload_n hx hb dL_law_509 rfl (lv_at hl 3 rfl) ?_
          refine lv_iconst (v := nI 2) hx hb dL_law_510 (by decide) ?_
          refine lv_iadd hx hb dL_law_511 ?_
          refine lw_ti (show _ = nI (i + 2) from nI_add _ _) ?_
          refine lw_ld C hX hbl hbA hS hL (by omega) dL_law_512 ?_
          refine LMi (rV (As := [.int (xs (i + 1)), .int (xs (i + 2))]) (rest := [.int ((spOpen Sz (xs (i + 1)) (xs (i + 2))).1)]) C hM lk_L_63 0 (by decide) rfl rfl rfl (c3_open l G b (Sz, Fz, Bf, Af, Ct, Pt) hI hR (xs (i + 1)) (xs (i + 2))) ⟨Nat.le_of_ble_eq_true rfl, Nat.le_of_ble_eq_true rfl⟩ hl.1 rfl rfl (Nat.le_of_ble_eq_true rfl) dL_law_513 ⟨Nat.le_of_ble_eq_true rfl, Nat.le_of_ble_eq_true rfl⟩) hS hb10 dj hB (fun rv u H locs hp hM hB hS => ?_)
          obtain ⟨hv, hu, hR⟩ := hp
          obtain ⟨u1, Fz, Bf, Af, Ct, Pt⟩ := u
          dsimp only at hu hv
          subst hu
          subst hv
          refine lv_icmp_eq (tgt := 825) hx hb dL_law_516 (by decide) (fun c516 => ?_) (fun c0 => absurd (rfl) c0)
          refine lv_iinc (v := nI (i + 6)) (lv' := [(3, .int (nI (i + 6))), (0, .ref bs), (1, .ref (a 0)), (2, .ref (b 0))]) hx hb dL_law_825 hl (k := 3) rfl (show nI i + nI 6 = nI (i + 6) from nI_add _ _) (by decide) rfl (fun ls hl => ?_)
          refine lv_goto (tgt := 18) hx hb dL_law_828 (by decide) ?_
          exact ih (i + 6) ((spOpen Sz (xs (i + 1)) (xs (i + 2))).2) Kz Fz Bf Af Ct Pt _ _ _ (by omega) (by omega) (inv_open hI _ _) hR hB hM hS (lv_sub hl [1, 2, 3, 0] rfl)
        · refine lv_tableIn (off := 488) (tgt := 521) hx hb dL_law_33 (by decide) (by decide) (by decide) (by decide) ?_
          refine lv_aload_n hx hb dL_law_521 rfl (lv_at hl 1 rfl) ?_
          refine lv_aload_n hx hb dL_law_522 rfl (lv_at hl 0 rfl) ?_
          refine lv_iload_n hx hb dL_law_523 rfl (lv_at hl 3 rfl) ?_
          refine lv_iconst (v := nI 1) hx hb dL_law_524 (by decide) ?_
          refine lv_iadd hx hb dL_law_525 ?_
          refine lw_ti (show _ = nI (i + 1) from nI_add _ _) ?_
          refine lw_ld C hX hbl hbA hS hL (by omega) dL_law_526 ?_
          refine lv_aload_n hx hb dL_law_527 rfl (lv_at hl 0 rfl) ?_
          refine lv_iload_n hx hb dL_law_528 rfl (lv_at hl 3 rfl) ?_
          refine lv_iconst (v := nI 2) hx hb dL_law_529 (by decide) ?_
          refine lv_iadd hx hb dL_law_530 ?_
          refine lw_ti (show _ = nI (i + 2) from nI_add _ _) ?_
          refine lw_ld C hX hbl hbA hS hL (by omega) dL_law_531 ?_
          refine LBi (rV (As := [.int (xs (i + 1)), .int (xs (i + 2))]) (rest := []) C hB lk_L_64 0 (by decide) rfl rfl rfl (c_close l G a (Sz, Kz) hI (xs (i + 1)) (xs (i + 2))) ⟨Nat.le_of_ble_eq_true rfl, Nat.le_of_ble_eq_true rfl⟩ hl.1 rfl rfl (Nat.le_of_ble_eq_true rfl) dL_law_532 ⟨Nat.le_of_ble_eq_true rfl, Nat.le_of_ble_eq_true rfl⟩) hS ha dj hM (fun rv u H locs hp hB hM hS => ?_)
          obtain ⟨hv, hu⟩ := hp
          obtain ⟨u1, Kz⟩ := u
          dsimp only at hu hv
          subst hu
          subst hv
          refine lv_aload_n hx hb dL_law_535 rfl (lv_at hl 2 rfl) ?_
          refine lv_aload_n hx hb dL_law_536 rfl (lv_at hl 0 rfl) ?_
          refine lv_iload_n hx hb dL_law_537 rfl (lv_at hl 3 rfl) ?_
          refine lv_iconst (v := nI 1) hx hb dL_law_538 (by decide) ?_
          refine lv_iadd hx hb dL_law_539 ?_
          refine lw_ti (show _ = nI (i + 1) from nI_add _ _) ?_
          refine lw_ld C hX hbl hbA hS hL (by omega) dL_law_540 ?_
          refine lv_aload_n hx hb dL_law_541 rfl (lv_at hl 0 rfl) ?_
          refine lv_iload_n hx hb dL_law_542 rfl (lv_at hl 3 rfl) ?_
          refine lv_iconst (v := nI 2) hx hb dL_law_543 (by decide) ?_
          refine lv_iadd hx hb dL_law_544 ?_
          refine lw_ti (show _ = nI (i + 2) from nI_add _ _) ?_
          refine lw_ld C hX hbl hbA hS hL (by omega) dL_law_545 ?_
          refine LMi (rV (As := [.int (xs (i + 1)), .int (xs (i + 2))]) (rest := [.int ((spClose Sz (xs (i + 1)) (xs (i + 2))).1)]) C hM lk_L_67 0 (by decide) rfl rfl rfl (c3_close l G b (Sz, Fz, Bf, Af, Ct, Pt) hI hR (xs (i + 1)) (xs (i + 2))) ⟨Nat.le_of_ble_eq_true rfl, Nat.le_of_ble_eq_true rfl⟩ hl.1 rfl rfl (Nat.le_of_ble_eq_true rfl) dL_law_546 ⟨Nat.le_of_ble_eq_true rfl, Nat.le_of_ble_eq_true rfl⟩) hS hb10 dj hB (fun rv u H locs hp hM hB hS => ?_)
          obtain ⟨hv, hu, hR⟩ := hp
          obtain ⟨u1, Fz, Bf, Af, Ct, Pt⟩ := u
          dsimp only at hu hv
          subst hu
          subst hv
          refine lv_icmp_eq (tgt := 825) hx hb dL_law_549 (by decide) (fun c549 => ?_) (fun c0 => absurd (rfl) c0)
          refine lv_iinc (v := nI (i + 6)) (lv' := [(3, .int (nI (i + 6))), (0, .ref bs), (1, .ref (a 0)), (2, .ref (b 0))]) hx hb dL_law_825 hl (k := 3) rfl (show nI i + nI 6 = nI (i + 6) from nI_add _ _) (by decide) rfl (fun ls hl => ?_)
          refine lv_goto (tgt := 18) hx hb dL_law_828 (by decide) ?_
          exact ih (i + 6) ((spClose Sz (xs (i + 1)) (xs (i + 2))).2) Kz Fz Bf Af Ct Pt _ _ _ (by omega) (by omega) (inv_close hI _ _) hR hB hM hS (lv_sub hl [1, 2, 3, 0] rfl)
        · refine lv_tableIn (off := 521) (tgt := 554) hx hb dL_law_33 (by decide) (by decide) (by decide) (by decide) ?_
          refine lv_aload_n hx hb dL_law_554 rfl (lv_at hl 1 rfl) ?_
          refine lv_aload_n hx hb dL_law_555 rfl (lv_at hl 0 rfl) ?_
          refine lv_iload_n hx hb dL_law_556 rfl (lv_at hl 3 rfl) ?_
          refine lv_iconst (v := nI 1) hx hb dL_law_557 (by decide) ?_
          refine lv_iadd hx hb dL_law_558 ?_
          refine lw_ti (show _ = nI (i + 1) from nI_add _ _) ?_
          refine lw_ld C hX hbl hbA hS hL (by omega) dL_law_559 ?_
          refine lv_aload_n hx hb dL_law_560 rfl (lv_at hl 0 rfl) ?_
          refine lv_iload_n hx hb dL_law_561 rfl (lv_at hl 3 rfl) ?_
          refine lv_iconst (v := nI 2) hx hb dL_law_562 (by decide) ?_
          refine lv_iadd hx hb dL_law_563 ?_
          refine lw_ti (show _ = nI (i + 2) from nI_add _ _) ?_
          refine lw_ld C hX hbl hbA hS hL (by omega) dL_law_564 ?_
          refine LBi (rV (As := [.int (xs (i + 1)), .int (xs (i + 2))]) (rest := []) C hB lk_L_68 0 (by decide) rfl rfl rfl (c_turn l G a (Sz, Kz) hI (xs (i + 1)) (xs (i + 2))) ⟨Nat.le_of_ble_eq_true rfl, Nat.le_of_ble_eq_true rfl⟩ hl.1 rfl rfl (Nat.le_of_ble_eq_true rfl) dL_law_565 ⟨Nat.le_of_ble_eq_true rfl, Nat.le_of_ble_eq_true rfl⟩) hS ha dj hM (fun rv u H locs hp hB hM hS => ?_)
          obtain ⟨hv, hu⟩ := hp
          obtain ⟨u1, Kz⟩ := u
          dsimp only at hu hv
          subst hu
          subst hv
          refine lv_aload_n hx hb dL_law_568 rfl (lv_at hl 2 rfl) ?_
          refine lv_aload_n hx hb dL_law_569 rfl (lv_at hl 0 rfl) ?_
          refine lv_iload_n hx hb dL_law_570 rfl (lv_at hl 3 rfl) ?_
          refine lv_iconst (v := nI 1) hx hb dL_law_571 (by decide) ?_
          refine lv_iadd hx hb dL_law_572 ?_
          refine lw_ti (show _ = nI (i + 1) from nI_add _ _) ?_
          refine lw_ld C hX hbl hbA hS hL (by omega) dL_law_573 ?_
          refine lv_aload_n hx hb dL_law_574 rfl (lv_at hl 0 rfl) ?_
          refine lv_iload_n hx hb dL_law_575 rfl (lv_at hl 3 rfl) ?_
          refine lv_iconst (v := nI 2) hx hb dL_law_576 (by decide) ?_
          refine lv_iadd hx hb dL_law_577 ?_
          refine lw_ti (show _ = nI (i + 2) from nI_add _ _) ?_
          refine lw_ld C hX hbl hbA hS hL (by omega) dL_law_578 ?_
          refine LMi (rV (As := [.int (xs (i + 1)), .int (xs (i + 2))]) (rest := [.int ((spTurn Sz (xs (i + 1)) (xs (i + 2))).1)]) C hM lk_L_71 0 (by decide) rfl rfl rfl (c3_turn l G b (Sz, Fz, Bf, Af, Ct, Pt) hI hR (xs (i + 1)) (xs (i + 2))) ⟨Nat.le_of_ble_eq_true rfl, Nat.le_of_ble_eq_true rfl⟩ hl.1 rfl rfl (Nat.le_of_ble_eq_true rfl) dL_law_579 ⟨Nat.le_of_ble_eq_true rfl, Nat.le_of_ble_eq_true rfl⟩) hS hb10 dj hB (fun rv u H locs hp hM hB hS => ?_)
          obtain ⟨hv, hu, hR⟩ := hp
          obtain ⟨u1, Fz, Bf, Af, Ct, Pt⟩ := u
          dsimp only at hu hv
          subst hu
          subst hv
          refine lv_icmp_eq (tgt := 825) hx hb dL_law_582 (by decide) (fun c582 => ?_) (fun c0 => absurd (rfl) c0)
          refine lv_iinc (v := nI (i + 6)) (lv' := [(3, .int (nI (i + 6))), (0, .ref bs), (1, .ref (a 0)), (2, .ref (b 0))]) hx hb dL_law_825 hl (k := 3) rfl (show nI i + nI 6 = nI (i + 6) from nI_add _ _) (by decide) rfl (fun ls hl => ?_)
          refine lv_goto (tgt := 18) hx hb dL_law_828 (by decide) ?_
          exact ih (i + 6) ((spTurn Sz (xs (i + 1)) (xs (i + 2))).2) Kz Fz Bf Af Ct Pt _ _ _ (by omega) (by omega) (inv_turn hI _ _) hR hB hM hS (lv_sub hl [1, 2, 3, 0] rfl)
        · refine lv_tableIn (off := 554) (tgt := 587) hx hb dL_law_33 (by decide) (by decide) (by decide) (by decide) ?_
          refine lv_aload_n hx hb dL_law_587 rfl (lv_at hl 1 rfl) ?_
          refine lv_aload_n hx hb dL_law_588 rfl (lv_at hl 0 rfl) ?_
          refine lv_iload_n hx hb dL_law_589 rfl (lv_at hl 3 rfl) ?_
          refine lv_iconst (v := nI 1) hx hb dL_law_590 (by decide) ?_
          refine lv_iadd hx hb dL_law_591 ?_
          refine lw_ti (show _ = nI (i + 1) from nI_add _ _) ?_
          refine lw_ld C hX hbl hbA hS hL (by omega) dL_law_592 ?_
          refine lv_aload_n hx hb dL_law_593 rfl (lv_at hl 0 rfl) ?_
          refine lv_iload_n hx hb dL_law_594 rfl (lv_at hl 3 rfl) ?_
          refine lv_iconst (v := nI 2) hx hb dL_law_595 (by decide) ?_
          refine lv_iadd hx hb dL_law_596 ?_
          refine lw_ti (show _ = nI (i + 2) from nI_add _ _) ?_
          refine lw_ld C hX hbl hbA hS hL (by omega) dL_law_597 ?_
          refine lv_aload_n hx hb dL_law_598 rfl (lv_at hl 0 rfl) ?_
          refine lv_iload_n hx hb dL_law_599 rfl (lv_at hl 3 rfl) ?_
          refine lv_iconst (v := nI 3) hx hb dL_law_600 (by decide) ?_
          refine lv_iadd hx hb dL_law_601 ?_
          refine lw_ti (show _ = nI (i + 3) from nI_add _ _) ?_
          refine lw_ld C hX hbl hbA hS hL (by omega) dL_law_602 ?_
          refine lv_aload_n hx hb dL_law_603 rfl (lv_at hl 0 rfl) ?_
          refine lv_iload_n hx hb dL_law_604 rfl (lv_at hl 3 rfl) ?_
          refine lv_iconst (v := nI 4) hx hb dL_law_605 (by decide) ?_
          refine lv_iadd hx hb dL_law_606 ?_
          refine lw_ti (show _ = nI (i + 4) from nI_add _ _) ?_
          refine lw_ld C hX hbl hbA hS hL (by omega) dL_law_607 ?_
          refine lv_aload_n hx hb dL_law_608 rfl (lv_at hl 0 rfl) ?_
          refine lv_iload_n hx hb dL_law_609 rfl (lv_at hl 3 rfl) ?_
          refine lv_iconst (v := nI 5) hx hb dL_law_610 (by decide) ?_
          refine lv_iadd hx hb dL_law_611 ?_
          refine lw_ti (show _ = nI (i + 5) from nI_add _ _) ?_
          refine lw_ld C hX hbl hbA hS hL (by omega) dL_law_612 ?_
          refine LBi (rV (As := [.int (xs (i + 1)), .int (xs (i + 2)), .int (xs (i + 3)), .int (xs (i + 4)), .int (xs (i + 5))]) (rest := []) C hB lk_L_72 0 (by decide) rfl rfl rfl (c_step l G a (Sz, Kz) hI (xs (i + 1)) (xs (i + 2)) (xs (i + 3)) (xs (i + 4)) (xs (i + 5))) ⟨Nat.le_of_ble_eq_true rfl, Nat.le_of_ble_eq_true rfl⟩ hl.1 rfl rfl (Nat.le_of_ble_eq_true rfl) dL_law_613 ⟨Nat.le_of_ble_eq_true rfl, Nat.le_of_ble_eq_true rfl⟩) hS ha dj hM (fun rv u H locs hp hB hM hS => ?_)
          obtain ⟨hv, hu⟩ := hp
          obtain ⟨u1, Kz⟩ := u
          dsimp only at hu hv
          subst hu
          subst hv
          refine lv_aload_n hx hb dL_law_616 rfl (lv_at hl 2 rfl) ?_
          refine lv_aload_n hx hb dL_law_617 rfl (lv_at hl 0 rfl) ?_
          refine lv_iload_n hx hb dL_law_618 rfl (lv_at hl 3 rfl) ?_
          refine lv_iconst (v := nI 1) hx hb dL_law_619 (by decide) ?_
          refine lv_iadd hx hb dL_law_620 ?_
          refine lw_ti (show _ = nI (i + 1) from nI_add _ _) ?_
          refine lw_ld C hX hbl hbA hS hL (by omega) dL_law_621 ?_
          refine lv_aload_n hx hb dL_law_622 rfl (lv_at hl 0 rfl) ?_
          refine lv_iload_n hx hb dL_law_623 rfl (lv_at hl 3 rfl) ?_
          refine lv_iconst (v := nI 2) hx hb dL_law_624 (by decide) ?_
          refine lv_iadd hx hb dL_law_625 ?_
          refine lw_ti (show _ = nI (i + 2) from nI_add _ _) ?_
          refine lw_ld C hX hbl hbA hS hL (by omega) dL_law_626 ?_
          refine lv_aload_n hx hb dL_law_627 rfl (lv_at hl 0 rfl) ?_
          refine lv_iload_n hx hb dL_law_628 rfl (lv_at hl 3 rfl) ?_
          refine lv_iconst (v := nI 3) hx hb dL_law_629 (by decide) ?_
          refine lv_iadd hx hb dL_law_630 ?_
          refine lw_ti (show _ = nI (i + 3) from nI_add _ _) ?_
          refine lw_ld C hX hbl hbA hS hL (by omega) dL_law_631 ?_
          refine lv_aload_n hx hb dL_law_632 rfl (lv_at hl 0 rfl) ?_
          refine lv_iload_n hx hb dL_law_633 rfl (lv_at hl 3 rfl) ?_
          refine lv_iconst (v := nI 4) hx hb dL_law_634 (by decide) ?_
          refine lv_iadd hx hb dL_law_635 ?_
          refine lw_ti (show _ = nI (i + 4) from nI_add _ _) ?_
          refine lw_ld C hX hbl hbA hS hL (by omega) dL_law_636 ?_
          refine lv_aload_n hx hb dL_law_637 rfl (lv_at hl 0 rfl) ?_
          refine lv_iload_n hx hb dL_law_638 rfl (lv_at hl 3 rfl) ?_
          refine lv_iconst (v := nI 5) hx hb dL_law_639 (by decide) ?_
          refine lv_iadd hx hb dL_law_640 ?_
          refine lw_ti (show _ = nI (i + 5) from nI_add _ _) ?_
          refine lw_ld C hX hbl hbA hS hL (by omega) dL_law_641 ?_
          refine LMi (rV (As := [.int (xs (i + 1)), .int (xs (i + 2)), .int (xs (i + 3)), .int (xs (i + 4)), .int (xs (i + 5))]) (rest := [.int ((spStep Sz (xs (i + 1)) (xs (i + 2)) (xs (i + 3)) (xs (i + 4)) (xs (i + 5))).1)]) C hM lk_L_75 0 (by decide) rfl rfl rfl (c3_step l G b (Sz, Fz, Bf, Af, Ct, Pt) hI hR (xs (i + 1)) (xs (i + 2)) (xs (i + 3)) (xs (i + 4)) (xs (i + 5))) ⟨Nat.le_of_ble_eq_true rfl, Nat.le_of_ble_eq_true rfl⟩ hl.1 rfl rfl (Nat.le_of_ble_eq_true rfl) dL_law_642 ⟨Nat.le_of_ble_eq_true rfl, Nat.le_of_ble_eq_true rfl⟩) hS hb10 dj hB (fun rv u H locs hp hM hB hS => ?_)
          obtain ⟨hv, hu, hR⟩ := hp
          obtain ⟨u1, Fz, Bf, Af, Ct, Pt⟩ := u
          dsimp only at hu hv
          subst hu
          subst hv
          refine lv_icmp_eq (tgt := 825) hx hb dL_law_645 (by decide) (fun c645 => ?_) (fun c0 => absurd (rfl) c0)
          refine lv_iinc (v := nI (i + 6)) (lv' := [(3, .int (nI (i + 6))), (0, .ref bs), (1, .ref (a 0)), (2, .ref (b 0))]) hx hb dL_law_825 hl (k := 3) rfl (show nI i + nI 6 = nI (i + 6) from nI_add _ _) (by decide) rfl (fun ls hl => ?_)
          refine lv_goto (tgt := 18) hx hb dL_law_828 (by decide) ?_
          exact ih (i + 6) ((spStep Sz (xs (i + 1)) (xs (i + 2)) (xs (i + 3)) (xs (i + 4)) (xs (i + 5))).2) Kz Fz Bf Af Ct Pt _ _ _ (by omega) (by omega) (inv_step hI _ _ _ _ _) hR hB hM hS (lv_sub hl [1, 2, 3, 0] rfl)
        · refine lv_tableIn (off := 617) (tgt := 650) hx hb dL_law_33 (by decide) (by decide) (by decide) (by decide) ?_
          refine lv_aload_n hx hb dL_law_650 rfl (lv_at hl 1 rfl) ?_
          refine LBi (rV (As := []) (rest := []) C hB lk_L_76 0 (by decide) rfl rfl rfl (c_forget l G a (Sz, Kz)) ⟨Nat.le_of_ble_eq_true rfl, Nat.le_of_ble_eq_true rfl⟩ hl.1 rfl rfl (Nat.le_of_ble_eq_true rfl) dL_law_651 ⟨Nat.le_of_ble_eq_true rfl, Nat.le_of_ble_eq_true rfl⟩) hS ha dj hM (fun rv u H locs hp hB hM hS => ?_)
          obtain ⟨hv, hu⟩ := hp
          obtain ⟨u1, Kz⟩ := u
          dsimp only at hu hv
          subst hu
          subst hv
          refine lv_aload_n hx hb dL_law_654 rfl (lv_at hl 2 rfl) ?_
          refine LMi (rV (As := []) (rest := [.int ((spForget Sz).1)]) C hM lk_L_80 0 (by decide) rfl rfl rfl (c3_forget l G b (Sz, Fz, Bf, Af, Ct, Pt) hR) ⟨Nat.le_of_ble_eq_true rfl, Nat.le_of_ble_eq_true rfl⟩ hl.1 rfl rfl (Nat.le_of_ble_eq_true rfl) dL_law_655 ⟨Nat.le_of_ble_eq_true rfl, Nat.le_of_ble_eq_true rfl⟩) hS hb10 dj hB (fun rv u H locs hp hM hB hS => ?_)
          obtain ⟨hv, hu, hR⟩ := hp
          obtain ⟨u1, Fz, Bf, Af, Ct, Pt⟩ := u
          dsimp only at hu hv
          subst hu
          subst hv
          refine lv_icmp_eq (tgt := 825) hx hb dL_law_658 (by decide) (fun c658 => ?_) (fun c0 => absurd (rfl) c0)
          refine lv_iinc (v := nI (i + 6)) (lv' := [(3, .int (nI (i + 6))), (0, .ref bs), (1, .ref (a 0)), (2, .ref (b 0))]) hx hb dL_law_825 hl (k := 3) rfl (show nI i + nI 6 = nI (i + 6) from nI_add _ _) (by decide) rfl (fun ls hl => ?_)
          refine lv_goto (tgt := 18) hx hb dL_law_828 (by decide) ?_
          exact ih (i + 6) ((spForget Sz).2) Kz Fz Bf Af Ct Pt _ _ _ (by omega) (by omega) (inv_forget hI) hR hB hM hS (lv_sub hl [1, 2, 3, 0] rfl)
        · refine lv_tableIn (off := 630) (tgt := 663) hx hb dL_law_33 (by decide) (by decide) (by decide) (by decide) ?_
          refine lv_aload_n hx hb dL_law_663 rfl (lv_at hl 1 rfl) ?_
          refine lv_aload_n hx hb dL_law_664 rfl (lv_at hl 0 rfl) ?_
          refine lv_iload_n hx hb dL_law_665 rfl (lv_at hl 3 rfl) ?_
          refine lv_iconst (v := nI 1) hx hb dL_law_666 (by decide) ?_
          refine lv_iadd hx hb dL_law_667 ?_
          refine lw_ti (show _ = nI (i + 1) from nI_add _ _) ?_
          refine lw_ld C hX hbl hbA hS hL (by omega) dL_law_668 ?_
          refine lv_aload_n hx hb dL_law_669 rfl (lv_at hl 0 rfl) ?_
          refine lv_iload_n hx hb dL_law_670 rfl (lv_at hl 3 rfl) ?_
          refine lv_iconst (v := nI 2) hx hb dL_law_671 (by decide) ?_
          refine lv_iadd hx hb dL_law_672 ?_
          refine lw_ti (show _ = nI (i + 2) from nI_add _ _) ?_
          refine lw_ld C hX hbl hbA hS hL (by omega) dL_law_673 ?_
          refine lv_if_eq (tgt := 681) hx hb dL_law_674 (by decide) (fun c674 => ?_) (fun c674 => ?_)
          · skip
            refine lv_iconst (v := nI 0) hx hb dL_law_681 (by decide) ?_
            refine LBi (rV (As := [.int (xs (i + 1)), .int (nI 0)]) (rest := []) C hB lk_L_81 0 (by decide) rfl rfl rfl (c_weave l G a (Sz, Kz) hI (xs (i + 1)) (nI 0)) ⟨Nat.le_of_ble_eq_true rfl, Nat.le_of_ble_eq_true rfl⟩ hl.1 rfl rfl (Nat.le_of_ble_eq_true rfl) dL_law_682 ⟨Nat.le_of_ble_eq_true rfl, Nat.le_of_ble_eq_true rfl⟩) hS ha dj hM (fun rv u H locs hp hB hM hS => ?_)
            obtain ⟨hv, hu⟩ := hp
            obtain ⟨u1, Kz⟩ := u
            dsimp only at hu hv
            subst hu
            subst hv
            refine lv_aload_n hx hb dL_law_685 rfl (lv_at hl 2 rfl) ?_
            refine lv_aload_n hx hb dL_law_686 rfl (lv_at hl 0 rfl) ?_
            refine lv_iload_n hx hb dL_law_687 rfl (lv_at hl 3 rfl) ?_
            refine lv_iconst (v := nI 1) hx hb dL_law_688 (by decide) ?_
            refine lv_iadd hx hb dL_law_689 ?_
            refine lw_ti (show _ = nI (i + 1) from nI_add _ _) ?_
            refine lw_ld C hX hbl hbA hS hL (by omega) dL_law_690 ?_
            refine lv_aload_n hx hb dL_law_691 rfl (lv_at hl 0 rfl) ?_
            refine lv_iload_n hx hb dL_law_692 rfl (lv_at hl 3 rfl) ?_
            refine lv_iconst (v := nI 2) hx hb dL_law_693 (by decide) ?_
            refine lv_iadd hx hb dL_law_694 ?_
            refine lw_ti (show _ = nI (i + 2) from nI_add _ _) ?_
            refine lw_ld C hX hbl hbA hS hL (by omega) dL_law_695 ?_
            refine lv_if_eq (tgt := 703) hx hb dL_law_696 (by decide) (fun c696 => ?_) (fun c0 => absurd (c674) c0)
            refine lv_iconst (v := nI 0) hx hb dL_law_703 (by decide) ?_
            refine LMi (rV (As := [.int (xs (i + 1)), .int (nI 0)]) (rest := [.int ((spWeave Sz (xs (i + 1)) (nI 0)).1)]) C hM lk_L_84 0 (by decide) rfl rfl rfl (c3_weave l G b (Sz, Fz, Bf, Af, Ct, Pt) hI hR (xs (i + 1)) (nI 0)) ⟨Nat.le_of_ble_eq_true rfl, Nat.le_of_ble_eq_true rfl⟩ hl.1 rfl rfl (Nat.le_of_ble_eq_true rfl) dL_law_704 ⟨Nat.le_of_ble_eq_true rfl, Nat.le_of_ble_eq_true rfl⟩) hS hb10 dj hB (fun rv u H locs hp hM hB hS => ?_)
            obtain ⟨hv, hu, hR⟩ := hp
            obtain ⟨u1, Fz, Bf, Af, Ct, Pt⟩ := u
            dsimp only at hu hv
            subst hu
            subst hv
            refine lv_icmp_eq (tgt := 825) hx hb dL_law_707 (by decide) (fun c707 => ?_) (fun c0 => absurd (rfl) c0)
            refine lv_iinc (v := nI (i + 6)) (lv' := [(3, .int (nI (i + 6))), (0, .ref bs), (1, .ref (a 0)), (2, .ref (b 0))]) hx hb dL_law_825 hl (k := 3) rfl (show nI i + nI 6 = nI (i + 6) from nI_add _ _) (by decide) rfl (fun ls hl => ?_)
            refine lv_goto (tgt := 18) hx hb dL_law_828 (by decide) ?_
            exact ih (i + 6) ((spWeave Sz (xs (i + 1)) (nI 0)).2) Kz Fz Bf Af Ct Pt _ _ _ (by omega) (by omega) (inv_weave hI _ _) hR hB hM hS (lv_sub hl [1, 2, 3, 0] rfl)
          · skip
            refine lv_iconst (v := nI 1) hx hb dL_law_677 (by decide) ?_
            refine lv_goto (tgt := 682) hx hb dL_law_678 (by decide) ?_
            refine LBi (rV (As := [.int (xs (i + 1)), .int (nI 1)]) (rest := []) C hB lk_L_81 0 (by decide) rfl rfl rfl (c_weave l G a (Sz, Kz) hI (xs (i + 1)) (nI 1)) ⟨Nat.le_of_ble_eq_true rfl, Nat.le_of_ble_eq_true rfl⟩ hl.1 rfl rfl (Nat.le_of_ble_eq_true rfl) dL_law_682 ⟨Nat.le_of_ble_eq_true rfl, Nat.le_of_ble_eq_true rfl⟩) hS ha dj hM (fun rv u H locs hp hB hM hS => ?_)
            obtain ⟨hv, hu⟩ := hp
            obtain ⟨u1, Kz⟩ := u
            dsimp only at hu hv
            subst hu
            subst hv
            refine lv_aload_n hx hb dL_law_685 rfl (lv_at hl 2 rfl) ?_
            refine lv_aload_n hx hb dL_law_686 rfl (lv_at hl 0 rfl) ?_
            refine lv_iload_n hx hb dL_law_687 rfl (lv_at hl 3 rfl) ?_
            refine lv_iconst (v := nI 1) hx hb dL_law_688 (by decide) ?_
            refine lv_iadd hx hb dL_law_689 ?_
            refine lw_ti (show _ = nI (i + 1) from nI_add _ _) ?_
            refine lw_ld C hX hbl hbA hS hL (by omega) dL_law_690 ?_
            refine lv_aload_n hx hb dL_law_691 rfl (lv_at hl 0 rfl) ?_
            refine lv_iload_n hx hb dL_law_692 rfl (lv_at hl 3 rfl) ?_
            refine lv_iconst (v := nI 2) hx hb dL_law_693 (by decide) ?_
            refine lv_iadd hx hb dL_law_694 ?_
            refine lw_ti (show _ = nI (i + 2) from nI_add _ _) ?_
            refine lw_ld C hX hbl hbA hS hL (by omega) dL_law_695 ?_
            refine lv_if_eq (tgt := 703) hx hb dL_law_696 (by decide) (fun c0 => absurd c0 (c674)) (fun c696 => ?_)
            refine lv_iconst (v := nI 1) hx hb dL_law_699 (by decide) ?_
            refine lv_goto (tgt := 704) hx hb dL_law_700 (by decide) ?_
            refine LMi (rV (As := [.int (xs (i + 1)), .int (nI 1)]) (rest := [.int ((spWeave Sz (xs (i + 1)) (nI 1)).1)]) C hM lk_L_84 0 (by decide) rfl rfl rfl (c3_weave l G b (Sz, Fz, Bf, Af, Ct, Pt) hI hR (xs (i + 1)) (nI 1)) ⟨Nat.le_of_ble_eq_true rfl, Nat.le_of_ble_eq_true rfl⟩ hl.1 rfl rfl (Nat.le_of_ble_eq_true rfl) dL_law_704 ⟨Nat.le_of_ble_eq_true rfl, Nat.le_of_ble_eq_true rfl⟩) hS hb10 dj hB (fun rv u H locs hp hM hB hS => ?_)
            obtain ⟨hv, hu, hR⟩ := hp
            obtain ⟨u1, Fz, Bf, Af, Ct, Pt⟩ := u
            dsimp only at hu hv
            subst hu
            subst hv
            refine lv_icmp_eq (tgt := 825) hx hb dL_law_707 (by decide) (fun c707 => ?_) (fun c0 => absurd (rfl) c0)
            refine lv_iinc (v := nI (i + 6)) (lv' := [(3, .int (nI (i + 6))), (0, .ref bs), (1, .ref (a 0)), (2, .ref (b 0))]) hx hb dL_law_825 hl (k := 3) rfl (show nI i + nI 6 = nI (i + 6) from nI_add _ _) (by decide) rfl (fun ls hl => ?_)
            refine lv_goto (tgt := 18) hx hb dL_law_828 (by decide) ?_
            exact ih (i + 6) ((spWeave Sz (xs (i + 1)) (nI 1)).2) Kz Fz Bf Af Ct Pt _ _ _ (by omega) (by omega) (inv_weave hI _ _) hR hB hM hS (lv_sub hl [1, 2, 3, 0] rfl)
        · refine lv_tableIn (off := 679) (tgt := 712) hx hb dL_law_33 (by decide) (by decide) (by decide) (by decide) ?_
          refine lv_aload_n hx hb dL_law_712 rfl (lv_at hl 1 rfl) ?_
          refine lv_aload_n hx hb dL_law_713 rfl (lv_at hl 0 rfl) ?_
          refine lv_iload_n hx hb dL_law_714 rfl (lv_at hl 3 rfl) ?_
          refine lv_iconst (v := nI 1) hx hb dL_law_715 (by decide) ?_
          refine lv_iadd hx hb dL_law_716 ?_
          refine lw_ti (show _ = nI (i + 1) from nI_add _ _) ?_
          refine lw_ld C hX hbl hbA hS hL (by omega) dL_law_717 ?_
          refine lv_aload_n hx hb dL_law_718 rfl (lv_at hl 0 rfl) ?_
          refine lv_iload_n hx hb dL_law_719 rfl (lv_at hl 3 rfl) ?_
          refine lv_iconst (v := nI 2) hx hb dL_law_720 (by decide) ?_
          refine lv_iadd hx hb dL_law_721 ?_
          refine lw_ti (show _ = nI (i + 2) from nI_add _ _) ?_
          refine lw_ld C hX hbl hbA hS hL (by omega) dL_law_722 ?_
          refine LBi (rV (As := [.int (xs (i + 1)), .int (xs (i + 2))]) (rest := []) C hB lk_L_85 0 (by decide) rfl rfl rfl (c_alike l G a (Sz, Kz) hI (xs (i + 1)) (xs (i + 2))) ⟨Nat.le_of_ble_eq_true rfl, Nat.le_of_ble_eq_true rfl⟩ hl.1 rfl rfl (Nat.le_of_ble_eq_true rfl) dL_law_723 ⟨Nat.le_of_ble_eq_true rfl, Nat.le_of_ble_eq_true rfl⟩) hS ha dj hM (fun rv u H locs hp hB hM hS => ?_)
          obtain ⟨rfl, rfl⟩ := hp
          refine lv_aload_n hx hb dL_law_726 rfl (lv_at hl 2 rfl) ?_
          refine lv_aload_n hx hb dL_law_727 rfl (lv_at hl 0 rfl) ?_
          refine lv_iload_n hx hb dL_law_728 rfl (lv_at hl 3 rfl) ?_
          refine lv_iconst (v := nI 1) hx hb dL_law_729 (by decide) ?_
          refine lv_iadd hx hb dL_law_730 ?_
          refine lw_ti (show _ = nI (i + 1) from nI_add _ _) ?_
          refine lw_ld C hX hbl hbA hS hL (by omega) dL_law_731 ?_
          refine lv_aload_n hx hb dL_law_732 rfl (lv_at hl 0 rfl) ?_
          refine lv_iload_n hx hb dL_law_733 rfl (lv_at hl 3 rfl) ?_
          refine lv_iconst (v := nI 2) hx hb dL_law_734 (by decide) ?_
          refine lv_iadd hx hb dL_law_735 ?_
          refine lw_ti (show _ = nI (i + 2) from nI_add _ _) ?_
          refine lw_ld C hX hbl hbA hS hL (by omega) dL_law_736 ?_
          refine LMi (rV (As := [.int (xs (i + 1)), .int (xs (i + 2))]) (rest := [.int (spAlike Sz (xs (i + 1)) (xs (i + 2)))]) C hM lk_L_88 0 (by decide) rfl rfl rfl (c3_alike l G b (Sz, Fz, Bf, Af, Ct, Pt) hI hR (xs (i + 1)) (xs (i + 2))) ⟨Nat.le_of_ble_eq_true rfl, Nat.le_of_ble_eq_true rfl⟩ hl.1 rfl rfl (Nat.le_of_ble_eq_true rfl) dL_law_737 ⟨Nat.le_of_ble_eq_true rfl, Nat.le_of_ble_eq_true rfl⟩) hS hb10 dj hB (fun rv u H locs hp hM hB hS => ?_)
          obtain ⟨rfl, rfl⟩ := hp
          refine lv_icmp_eq (tgt := 825) hx hb dL_law_740 (by decide) (fun c740 => ?_) (fun c0 => absurd (rfl) c0)
          refine lv_iinc (v := nI (i + 6)) (lv' := [(3, .int (nI (i + 6))), (0, .ref bs), (1, .ref (a 0)), (2, .ref (b 0))]) hx hb dL_law_825 hl (k := 3) rfl (show nI i + nI 6 = nI (i + 6) from nI_add _ _) (by decide) rfl (fun ls hl => ?_)
          refine lv_goto (tgt := 18) hx hb dL_law_828 (by decide) ?_
          exact ih (i + 6) Sz Kz Fz Bf Af Ct Pt _ _ _ (by omega) (by omega) hI hR hB hM hS (lv_sub hl [1, 2, 3, 0] rfl)
        · refine lv_tableIn (off := 712) (tgt := 745) hx hb dL_law_33 (by decide) (by decide) (by decide) (by decide) ?_
          refine lv_aload_n hx hb dL_law_745 rfl (lv_at hl 1 rfl) ?_
          refine lv_aload_n hx hb dL_law_746 rfl (lv_at hl 0 rfl) ?_
          refine lv_iload_n hx hb dL_law_747 rfl (lv_at hl 3 rfl) ?_
          refine lv_iconst (v := nI 1) hx hb dL_law_748 (by decide) ?_
          refine lv_iadd hx hb dL_law_749 ?_
          refine lw_ti (show _ = nI (i + 1) from nI_add _ _) ?_
          refine lw_ld C hX hbl hbA hS hL (by omega) dL_law_750 ?_
          refine LBl (rV (As := [.int (xs (i + 1))]) (rest := []) C hB lk_L_89 0 (by decide) rfl rfl rfl (c_shade l G a (Sz, Kz) hI (xs (i + 1))) ⟨Nat.le_of_ble_eq_true rfl, Nat.le_of_ble_eq_true rfl⟩ hl.1 rfl rfl (Nat.le_of_ble_eq_true rfl) dL_law_751 ⟨Nat.le_of_ble_eq_true rfl, Nat.le_of_ble_eq_true rfl⟩) hS ha dj hM (fun rv u H locs hp hB hM hS => ?_)
          obtain ⟨rfl, rfl⟩ := hp
          refine lv_aload_n hx hb dL_law_754 rfl (lv_at hl 2 rfl) ?_
          refine lv_aload_n hx hb dL_law_755 rfl (lv_at hl 0 rfl) ?_
          refine lv_iload_n hx hb dL_law_756 rfl (lv_at hl 3 rfl) ?_
          refine lv_iconst (v := nI 1) hx hb dL_law_757 (by decide) ?_
          refine lv_iadd hx hb dL_law_758 ?_
          refine lw_ti (show _ = nI (i + 1) from nI_add _ _) ?_
          refine lw_ld C hX hbl hbA hS hL (by omega) dL_law_759 ?_
          refine LMl (rV (As := [.int (xs (i + 1))]) (rest := [.long (spShade Sz (xs (i + 1)))]) C hM lk_L_93 0 (by decide) rfl rfl rfl (c3_shade l G b (Sz, Fz, Bf, Af, Ct, Pt) hI hR (xs (i + 1))) ⟨Nat.le_of_ble_eq_true rfl, Nat.le_of_ble_eq_true rfl⟩ hl.1 rfl rfl (Nat.le_of_ble_eq_true rfl) dL_law_760 ⟨Nat.le_of_ble_eq_true rfl, Nat.le_of_ble_eq_true rfl⟩) hS hb10 dj hB (fun rv u H locs hp hM hB hS => ?_)
          obtain ⟨rfl, rfl⟩ := hp
          refine W.lcmp hx hb dL_law_763 ?_
          refine lv_if_eq (tgt := 825) hx hb dL_law_764 (by decide) (fun c764 => ?_) (fun c0 => absurd ((lg_cmp_eq _ _).mpr rfl) c0)
          refine lv_iinc (v := nI (i + 6)) (lv' := [(3, .int (nI (i + 6))), (0, .ref bs), (1, .ref (a 0)), (2, .ref (b 0))]) hx hb dL_law_825 hl (k := 3) rfl (show nI i + nI 6 = nI (i + 6) from nI_add _ _) (by decide) rfl (fun ls hl => ?_)
          refine lv_goto (tgt := 18) hx hb dL_law_828 (by decide) ?_
          exact ih (i + 6) Sz Kz Fz Bf Af Ct Pt _ _ _ (by omega) (by omega) hI hR hB hM hS (lv_sub hl [1, 2, 3, 0] rfl)
        · refine lv_tableIn (off := 736) (tgt := 769) hx hb dL_law_33 (by decide) (by decide) (by decide) (by decide) ?_
          refine lv_aload_n hx hb dL_law_769 rfl (lv_at hl 1 rfl) ?_
          refine lv_aload_n hx hb dL_law_770 rfl (lv_at hl 0 rfl) ?_
          refine lv_iload_n hx hb dL_law_771 rfl (lv_at hl 3 rfl) ?_
          refine lv_iconst (v := nI 1) hx hb dL_law_772 (by decide) ?_
          refine lv_iadd hx hb dL_law_773 ?_
          refine lw_ti (show _ = nI (i + 1) from nI_add _ _) ?_
          refine lw_ld C hX hbl hbA hS hL (by omega) dL_law_774 ?_
          refine lv_aload_n hx hb dL_law_775 rfl (lv_at hl 0 rfl) ?_
          refine lv_iload_n hx hb dL_law_776 rfl (lv_at hl 3 rfl) ?_
          refine lv_iconst (v := nI 2) hx hb dL_law_777 (by decide) ?_
          refine lv_iadd hx hb dL_law_778 ?_
          refine lw_ti (show _ = nI (i + 2) from nI_add _ _) ?_
          refine lw_ld C hX hbl hbA hS hL (by omega) dL_law_779 ?_
          refine LBi (rV (As := [.int (xs (i + 1)), .int (xs (i + 2))]) (rest := []) C hB lk_L_94 0 (by decide) rfl rfl rfl (c_rack l G a (Sz, Kz) (xs (i + 1)) (xs (i + 2))) ⟨Nat.le_of_ble_eq_true rfl, Nat.le_of_ble_eq_true rfl⟩ hl.1 rfl rfl (Nat.le_of_ble_eq_true rfl) dL_law_780 ⟨Nat.le_of_ble_eq_true rfl, Nat.le_of_ble_eq_true rfl⟩) hS ha dj hM (fun rv u H locs hp hB hM hS => ?_)
          obtain ⟨rfl, rfl⟩ := hp
          refine lv_aload_n hx hb dL_law_783 rfl (lv_at hl 2 rfl) ?_
          refine lv_aload_n hx hb dL_law_784 rfl (lv_at hl 0 rfl) ?_
          refine lv_iload_n hx hb dL_law_785 rfl (lv_at hl 3 rfl) ?_
          refine lv_iconst (v := nI 1) hx hb dL_law_786 (by decide) ?_
          refine lv_iadd hx hb dL_law_787 ?_
          refine lw_ti (show _ = nI (i + 1) from nI_add _ _) ?_
          refine lw_ld C hX hbl hbA hS hL (by omega) dL_law_788 ?_
          refine lv_aload_n hx hb dL_law_789 rfl (lv_at hl 0 rfl) ?_
          refine lv_iload_n hx hb dL_law_790 rfl (lv_at hl 3 rfl) ?_
          refine lv_iconst (v := nI 2) hx hb dL_law_791 (by decide) ?_
          refine lv_iadd hx hb dL_law_792 ?_
          refine lw_ti (show _ = nI (i + 2) from nI_add _ _) ?_
          refine lw_ld C hX hbl hbA hS hL (by omega) dL_law_793 ?_
          refine LMi (rV (As := [.int (xs (i + 1)), .int (xs (i + 2))]) (rest := [.int (spRack Sz (xs (i + 1)) (xs (i + 2)))]) C hM lk_L_97 0 (by decide) rfl rfl rfl (c3_rack l G b (Sz, Fz, Bf, Af, Ct, Pt) (xs (i + 1)) (xs (i + 2))) ⟨Nat.le_of_ble_eq_true rfl, Nat.le_of_ble_eq_true rfl⟩ hl.1 rfl rfl (Nat.le_of_ble_eq_true rfl) dL_law_794 ⟨Nat.le_of_ble_eq_true rfl, Nat.le_of_ble_eq_true rfl⟩) hS hb10 dj hB (fun rv u H locs hp hM hB hS => ?_)
          obtain ⟨rfl, rfl⟩ := hp
          refine lv_icmp_eq (tgt := 825) hx hb dL_law_797 (by decide) (fun c797 => ?_) (fun c0 => absurd (rfl) c0)
          refine lv_iinc (v := nI (i + 6)) (lv' := [(3, .int (nI (i + 6))), (0, .ref bs), (1, .ref (a 0)), (2, .ref (b 0))]) hx hb dL_law_825 hl (k := 3) rfl (show nI i + nI 6 = nI (i + 6) from nI_add _ _) (by decide) rfl (fun ls hl => ?_)
          refine lv_goto (tgt := 18) hx hb dL_law_828 (by decide) ?_
          exact ih (i + 6) Sz Kz Fz Bf Af Ct Pt _ _ _ (by omega) (by omega) hI hR hB hM hS (lv_sub hl [1, 2, 3, 0] rfl)
        · refine lv_tableIn (off := 769) (tgt := 802) hx hb dL_law_33 (by decide) (by decide) (by decide) (by decide) ?_
          refine lv_aload_n hx hb dL_law_802 rfl (lv_at hl 1 rfl) ?_
          refine lv_aload_n hx hb dL_law_803 rfl (lv_at hl 0 rfl) ?_
          refine lv_iload_n hx hb dL_law_804 rfl (lv_at hl 3 rfl) ?_
          refine lv_iconst (v := nI 1) hx hb dL_law_805 (by decide) ?_
          refine lv_iadd hx hb dL_law_806 ?_
          refine lw_ti (show _ = nI (i + 1) from nI_add _ _) ?_
          refine lw_ld C hX hbl hbA hS hL (by omega) dL_law_807 ?_
          refine LBi (rV (As := [.int (xs (i + 1))]) (rest := []) C hB lk_L_98 0 (by decide) rfl rfl rfl (c_about l G a (Sz, Kz) (xs (i + 1))) ⟨Nat.le_of_ble_eq_true rfl, Nat.le_of_ble_eq_true rfl⟩ hl.1 rfl rfl (Nat.le_of_ble_eq_true rfl) dL_law_808 ⟨Nat.le_of_ble_eq_true rfl, Nat.le_of_ble_eq_true rfl⟩) hS ha dj hM (fun rv u H locs hp hB hM hS => ?_)
          obtain ⟨rfl, rfl⟩ := hp
          refine lv_aload_n hx hb dL_law_811 rfl (lv_at hl 2 rfl) ?_
          refine lv_aload_n hx hb dL_law_812 rfl (lv_at hl 0 rfl) ?_
          refine lv_iload_n hx hb dL_law_813 rfl (lv_at hl 3 rfl) ?_
          refine lv_iconst (v := nI 1) hx hb dL_law_814 (by decide) ?_
          refine lv_iadd hx hb dL_law_815 ?_
          refine lw_ti (show _ = nI (i + 1) from nI_add _ _) ?_
          refine lw_ld C hX hbl hbA hS hL (by omega) dL_law_816 ?_
          refine LMi (rV (As := [.int (xs (i + 1))]) (rest := [.int (spAbout Sz (xs (i + 1)))]) C hM lk_L_101 0 (by decide) rfl rfl rfl (c3_about l G b (Sz, Fz, Bf, Af, Ct, Pt) hR (xs (i + 1))) ⟨Nat.le_of_ble_eq_true rfl, Nat.le_of_ble_eq_true rfl⟩ hl.1 rfl rfl (Nat.le_of_ble_eq_true rfl) dL_law_817 ⟨Nat.le_of_ble_eq_true rfl, Nat.le_of_ble_eq_true rfl⟩) hS hb10 dj hB (fun rv u H locs hp hM hB hS => ?_)
          obtain ⟨rfl, rfl⟩ := hp
          refine lv_icmp_eq (tgt := 825) hx hb dL_law_820 (by decide) (fun c820 => ?_) (fun c0 => absurd (rfl) c0)
          refine lv_iinc (v := nI (i + 6)) (lv' := [(3, .int (nI (i + 6))), (0, .ref bs), (1, .ref (a 0)), (2, .ref (b 0))]) hx hb dL_law_825 hl (k := 3) rfl (show nI i + nI 6 = nI (i + 6) from nI_add _ _) (by decide) rfl (fun ls hl => ?_)
          refine lv_goto (tgt := 18) hx hb dL_law_828 (by decide) ?_
          exact ih (i + 6) Sz Kz Fz Bf Af Ct Pt _ _ _ (by omega) (by omega) hI hR hB hM hS (lv_sub hl [1, 2, 3, 0] rfl)
      · refine lv_tableOut (tgt := 825) hx hb dL_law_33 (Or.inr (by rw [nI_toInt (by omega)]; omega)) (by decide) ?_
        refine lv_iinc (v := nI (i + 6)) (lv' := [(3, .int (nI (i + 6))), (0, .ref bs), (1, .ref (a 0)), (2, .ref (b 0))]) hx hb dL_law_825 hl (k := 3) rfl (show nI i + nI 6 = nI (i + 6) from nI_add _ _) (by decide) rfl (fun ls hl => ?_)
        refine lv_goto (tgt := 18) hx hb dL_law_828 (by decide) ?_
        exact ih (i + 6) Sz Kz Fz Bf Af Ct Pt _ _ _ (by omega) (by omega) hI hR hB hM hS (lv_sub hl [1, 2, 3, 0] rfl)
