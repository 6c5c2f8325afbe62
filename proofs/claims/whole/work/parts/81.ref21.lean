theorem mkR_one {w n : Nat} {f g g' : Nat → Bool} (hw : ¬ w = 2) : mkR w n f g = mkR w n f g' := by
  funext j
  unfold mkR
  split <;> first | rfl | exact absurd rfl hw
theorem tC_one {q : Nat → Bool} {S : Nat → Nat → Nat → Bool} {w a b b' : Nat} (hw : ¬ w = 2) : tC q S w a b = tC q S w a b' := by
  funext v
  unfold tC
  exact mkR_one hw
theorem agK_iff {F G : Nat → Bool} {P : Nat} : agK F G P = true ↔ ∀ k, k < P → F k = G k := by
  unfold agK
  rw [Bool.and_eq_true, decide_eq_true_iff, decide_eq_true_iff, fb_ct_zero, fb_ct_zero]
  constructor
  · intro ⟨h1, h2⟩ k hk
    have a := h1 k hk
    have b := h2 k hk
    cases hF : F k <;> cases hG : G k <;> simp [hF, hG] at a b ⊢
  · intro h
    exact ⟨fun k hk => by rw [h k hk]; cases G k <;> rfl, fun k hk => by rw [h k hk]; cases G k <;> rfl⟩
theorem old_iff {B : Nat → Nat → Nat} {C : Nat → Nat → Bool} : oldP (wK B) (B 6 0) (bS B) C ↔ ∃ n, n < B 6 0 ∧ agK (flB (wK B) C) (rwF B n) (lP (wK B) (lS (wK B))) = true := by
  unfold oldP
  constructor
  · rintro ⟨n, hn, h⟩
    refine ⟨n, hn, agK_iff.mpr (fun k hk => ?_)⟩
    obtain ⟨w, j, h1, h2, rfl⟩ := flat_ex hk
    unfold rwF
    rw [flB_at h2, flB_at h2]
    exact (h w h1 j h2).symm
  · rintro ⟨n, hn, h⟩
    refine ⟨n, hn, fun w hw j hj => ?_⟩
    have h' := agK_iff.mp h (lP (wK B) w + j) (lP_lt hw hj)
    unfold rwF at h'
    rw [flB_at hj, flB_at hj] at h'
    exact h'.symm
theorem sp_Model_nextCode (M : zMem) (B : Nat → Nat → Nat) (h : abR M B) : zSp zd_Model_nextCode 5 [zr 9] M (fun r M' => zfr [9, 40, 41, 42, 43, 45, 46, 47, 48, 49, 50, 52, 53] M M' ∧ abR M' B ∧ r = fNext B) := by
  refine zSp_in 9 [some (zr 9), none, none, none, none, none, none, none, none, none] rfl rfl (by decide +kernel) rfl ?_
  refine z_withR (fun hR => ?_)
  obtain ⟨post, hpost⟩ : ∃ post : Int → zMem → Prop, post = (fun (r : Int) M' => zfr [9, 40, 41, 42, 43, 45, 46, 47, 48, 49, 50, 52, 53] M M' ∧ abR M' B ∧ r = fNext B) := ⟨_, rfl⟩
  rw [← hpost]
  obtain ⟨X, hX⟩ : ∃ X : Nat → Int × Int, X = nxS (wK B) (B 6 0) (bS B) (bAw B) := ⟨_, rfl⟩
  have hge : ∀ m, m ≤ 864 → (-1 ≤ (X m).2 ∧ (X m).2 ≤ 400) ∧ -9 ≤ (X m).1 ∧ (X m).1 ≤ 70000 := fun m hm => by
    rw [hX]
    have z := nxS_ge (q := wK B) (N := B 6 0) (S := bS B) (aw := bAw B) m
    exact ⟨⟨z.1, z.2.1⟩, z.2.2 hm⟩
  have hst : ∀ m, X (m + 1) = if mayB (B 6 0) (bAw B) ((144 + m) / 144) ((144 + m) / 12 % 12) ((144 + m) % 12) then (if (X m).2 < nxR (wK B) (B 6 0) (bS B) ((144 + m) / 144) ((144 + m) / 12 % 12) ((144 + m) % 12) then (((10000 * ((144 + m) / 144) + 100 * ((144 + m) / 12 % 12) + (144 + m) % 12 : Nat) : Int), nxR (wK B) (B 6 0) (bS B) ((144 + m) / 144) ((144 + m) / 12 % 12) ((144 + m) % 12)) else X m) else X m := fun m => by
    rw [hX, nxS]
  have loop : ∀ (c m : Nat) (M1 : zMem) (l4 l5 l6 l7 l8 l9 : Option zAV), m + c = 864 → zfr [9, 40, 41, 42, 43, 45, 46, 47, 48, 49, 50, 52, 53] M M1 → rowsR M1 B → zV zd_Model_nextCode 5 13 [some (zr 9), some (zi (X m).1), some (zi (X m).2), some (zi ((144 + m : Nat) : Int)), l4, l5, l6, l7, l8, l9] [] M1 post := by
    intro c
    induction c with
    | zero =>
      intro m M1 l4 l5 l6 l7 l8 l9 hm f1 r1
      have hb := hge m (by omega)
      refine z_withR (fun hR => ?_)
      refine ziload_10_3 dX9_nextCode_13 ?_
      refine z_sipush dX9_nextCode_14 (by decide) ?_
      refine z_icmp_ge (tgt := 232) (by first | omega | exact hR.1 _ _ (by decide) | exact zrng_toInt _) (by first | omega | exact hR.1 _ _ (by decide) | exact zrng_toInt _) dX9_nextCode_17 (by decide) (fun h17 => ?_) (fun h17 => ?_)
      · refine ziload_10_1 dX9_nextCode_232 ?_
        refine z_iret rfl ?_ dX9_nextCode_233
        rw [hpost]
        refine ⟨f1, r1.1, ?_⟩
        rw [show m = 864 by omega, hX]
        rfl
      · omega
    | succ c ih =>
      intro m M1 l4 l5 l6 l7 l8 l9 hm f1 r1
      have hb := hge m (by omega)
      have hs := hst m
      obtain ⟨n1, n12, nw, n4⟩ := id r1.1.1.2.2.2.2.1
      obtain ⟨W, hW⟩ : ∃ W, W = (144 + m) / 144 := ⟨_, rfl⟩
      obtain ⟨A, hA⟩ : ∃ A, A = (144 + m) / 12 % 12 := ⟨_, rfl⟩
      obtain ⟨D, hD⟩ : ∃ D, D = (144 + m) % 12 := ⟨_, rfl⟩
      have hW6 : 1 ≤ W ∧ W ≤ 6 := by omega
      have hA12 : A < 12 := by omega
      have hD12 : D < 12 := by omega
      rw [← hW, ← hA, ← hD] at hs
      have hnx := nxR_ge (q := wK B) (N := B 6 0) (S := bS B) (w := W) (a := A) (b := D)
      obtain ⟨V, hV⟩ : ∃ V, V = nxR (wK B) (B 6 0) (bS B) W A D := ⟨_, rfl⟩
      rw [← hV] at hs hnx
      have kN : ∀ (M2 : zMem) (l7 l8 l9 : Option zAV), zfr [9, 40, 41, 42, 43, 45, 46, 47, 48, 49, 50, 52, 53] M M2 → rowsR M2 B → zV zd_Model_nextCode 5 226 [some (zr 9), some (zi (X (m + 1)).1), some (zi (X (m + 1)).2), some (zi ((144 + m : Nat) : Int)), some (zi W), some (zi A), some (zi D), l7, l8, l9] [] M2 post := by
        intro M2 l7 l8 l9 f2 r2
        refine z_withR (fun hR => ?_)
        refine ziinc_10_3 dX9_nextCode_226 ?_
        refine z_goto (tgt := 13) dX9_nextCode_229 (by decide) ?_
        exact ih (m + 1) M2 _ _ _ _ _ _ (by omega) f2 r2
      have k134 : ∀ (M2 : zMem) (l7 : Option zAV), mayB (B 6 0) (bAw B) W A D = true → zfr [9, 40, 41, 42, 43, 45, 46, 47, 48, 49, 50, 52, 53] M M2 → rowsR M2 B → (∀ k, k < lP (wK B) (lS (wK B)) → M2 53 (4320 + k) = b01 (flB (wK B) (tC (wK B) (bS B) W A D) k)) → zV zd_Model_nextCode 5 134 [some (zr 9), some (zi (X m).1), some (zi (X m).2), some (zi ((144 + m : Nat) : Int)), some (zi W), some (zi A), some (zi D), l7, l8, l9] [] M2 post := by
        intro M2 l7 hmay f2 r2 hC
        have hC' : ∀ k, k < lP (wK B) (lS (wK B)) → M2 53 (360 * 12 + k) = b01 (flB (wK B) (tC (wK B) (bS B) W A D) k) := hC
        have hnn : M2 9 18 = (B 6 0 : Nat) := r2.1.1.2.2.2.2.1.1
        rw [hmay, if_pos rfl] at hs
        have hold := old_iff (B := B) (C := tC (wK B) (bS B) W A D)
        have hrr : min (fb_ct (flB (wK B) (tC (wK B) (bS B) W A D)) (lP (wK B) (lS (wK B)))) (lP (wK B) (lS (wK B)) - fb_ct (flB (wK B) (tC (wK B) (bS B) W A D)) (lP (wK B) (lS (wK B)))) = rrN (wK B) (tC (wK B) (bS B) W A D) := by
          rw [flB_ct]
          rfl
        have k170 : ∀ (x : Int) (l9 : Option zAV), (x = 1 ∧ oldP (wK B) (B 6 0) (bS B) (tC (wK B) (bS B) W A D)) ∨ (x = 0 ∧ ¬ oldP (wK B) (B 6 0) (bS B) (tC (wK B) (bS B) W A D)) → zV zd_Model_nextCode 5 170 [some (zr 9), some (zi (X m).1), some (zi (X m).2), some (zi ((144 + m : Nat) : Int)), some (zi W), some (zi A), some (zi D), l7, some (zi x), l9] [] M2 post := by
          intro x l9 hx
          refine z_withR (fun hR => ?_)
          refine ziload_10_8 dX9_nextCode_170 ?_
          refine z_if_eq (tgt := 179) (or_rng hx) dX9_nextCode_172 (by decide) (fun h172 => ?_) (fun h172 => ?_)
          · have ho := or_no hx h172
            have hv : ((rrN (wK B) (tC (wK B) (bS B) W A D) : Nat) : Int) = V := by
              rw [hV]
              unfold nxR
              rw [if_neg ho]
            refine zaload_10_0 dX9_nextCode_179 ?_
            refine z_bipush dX9_nextCode_180 (by decide) ?_
            refine zc_Model_223 rfl dX9_nextCode_182 (by decide) (Nat.le_of_ble_eq_true rfl) (sp_Model_rareOf M2 B 12 (flB (wK B) (tC (wK B) (bS B) W A D)) (by omega) r2.2.1.2.1 r2.at hC') (fun r182 M182 hq182 => ?_)
            refine z_withR (fun hR => ?_)
            have e182 := hq182.1.symm
            subst e182
            have q182 := hq182.2
            rw [hrr] at q182
            subst q182
            refine z_top hv ?_
            refine zistore_10_9 dX9_nextCode_185 ?_
            refine ziload_10_9 dX9_nextCode_187 ?_
            refine ziload_10_2 dX9_nextCode_189 ?_
            refine z_icmp_le (tgt := 211) (by first | omega | exact hR.1 _ _ (by decide) | exact zrng_toInt _) (by first | omega | exact hR.1 _ _ (by decide) | exact zrng_toInt _) dX9_nextCode_190 (by decide) (fun h190 => ?_) (fun h190 => ?_)
            · have hx2 : X (m + 1) = X m := by rw [hs, if_neg (by omega)]
              refine ziload_10_1 dX9_nextCode_211 ?_
              refine zistore_10_1 dX9_nextCode_212 ?_
              refine ziload_10_9 dX9_nextCode_213 ?_
              refine ziload_10_2 dX9_nextCode_215 ?_
              refine z_icmp_le (tgt := 224) (by first | omega | exact hR.1 _ _ (by decide) | exact zrng_toInt _) (by first | omega | exact hR.1 _ _ (by decide) | exact zrng_toInt _) dX9_nextCode_216 (by decide) (fun h216 => ?_) (fun h216 => ?_)
              · have h216' := h216
                refine ziload_10_2 dX9_nextCode_224 ?_
                refine zistore_10_2 dX9_nextCode_225 ?_
                first
                  | (exfalso; omega)
                  | (have k := kN M2 l7 (some (zi x)) (some (zi V)) f2 r2
                     rw [hx2] at k
                     exact k)
              · refine ziload_10_9 dX9_nextCode_219 ?_
                refine z_goto (tgt := 225) dX9_nextCode_221 (by decide) ?_
                refine zistore_10_2 dX9_nextCode_225 ?_
                first
                  | (exfalso; omega)
                  | (have k := kN M2 l7 (some (zi x)) (some (zi V)) f2 r2
                     rw [hx2] at k
                     exact k)
            · have hx2 : X (m + 1) = (((10000 * W + 100 * A + D : Nat) : Int), V) := by rw [hs, if_pos (by omega)]
              refine z_sipush dX9_nextCode_193 (by decide) ?_
              refine ziload_10_4 dX9_nextCode_196 ?_
              refine z_imul dX9_nextCode_198 ?_
              refine z_bipush dX9_nextCode_199 (by decide) ?_
              refine ziload_10_5 dX9_nextCode_201 ?_
              refine z_imul dX9_nextCode_203 ?_
              refine z_iadd dX9_nextCode_204 ?_
              refine ziload_10_6 dX9_nextCode_205 ?_
              refine z_iadd dX9_nextCode_207 ?_
              refine z_top (y := ((10000 * W + 100 * A + D : Nat) : Int)) (by omega) ?_
              refine z_goto (tgt := 212) dX9_nextCode_208 (by decide) ?_
              refine zistore_10_1 dX9_nextCode_212 ?_
              refine ziload_10_9 dX9_nextCode_213 ?_
              refine ziload_10_2 dX9_nextCode_215 ?_
              refine z_icmp_le (tgt := 224) (by first | omega | exact hR.1 _ _ (by decide) | exact zrng_toInt _) (by first | omega | exact hR.1 _ _ (by decide) | exact zrng_toInt _) dX9_nextCode_216 (by decide) (fun h216 => ?_) (fun h216 => ?_)
              · have h216' := h216
                refine ziload_10_2 dX9_nextCode_224 ?_
                refine zistore_10_2 dX9_nextCode_225 ?_
                first
                  | (exfalso; omega)
                  | (have k := kN M2 l7 (some (zi x)) (some (zi V)) f2 r2
                     rw [hx2] at k
                     exact k)
              · refine ziload_10_9 dX9_nextCode_219 ?_
                refine z_goto (tgt := 225) dX9_nextCode_221 (by decide) ?_
                refine zistore_10_2 dX9_nextCode_225 ?_
                first
                  | (exfalso; omega)
                  | (have k := kN M2 l7 (some (zi x)) (some (zi V)) f2 r2
                     rw [hx2] at k
                     exact k)
          · have ho := or_yes hx h172
            have hv : (-1 : Int) = V := by
              rw [hV]
              unfold nxR
              rw [if_pos ho]
            refine z_iconst dX9_nextCode_175 ?_
            refine z_goto (tgt := 185) dX9_nextCode_176 (by decide) ?_
            refine z_top hv ?_
            refine zistore_10_9 dX9_nextCode_185 ?_
            refine ziload_10_9 dX9_nextCode_187 ?_
            refine ziload_10_2 dX9_nextCode_189 ?_
            refine z_icmp_le (tgt := 211) (by first | omega | exact hR.1 _ _ (by decide) | exact zrng_toInt _) (by first | omega | exact hR.1 _ _ (by decide) | exact zrng_toInt _) dX9_nextCode_190 (by decide) (fun h190 => ?_) (fun h190 => ?_)
            · have hx2 : X (m + 1) = X m := by rw [hs, if_neg (by omega)]
              refine ziload_10_1 dX9_nextCode_211 ?_
              refine zistore_10_1 dX9_nextCode_212 ?_
              refine ziload_10_9 dX9_nextCode_213 ?_
              refine ziload_10_2 dX9_nextCode_215 ?_
              refine z_icmp_le (tgt := 224) (by first | omega | exact hR.1 _ _ (by decide) | exact zrng_toInt _) (by first | omega | exact hR.1 _ _ (by decide) | exact zrng_toInt _) dX9_nextCode_216 (by decide) (fun h216 => ?_) (fun h216 => ?_)
              · have h216' := h216
                refine ziload_10_2 dX9_nextCode_224 ?_
                refine zistore_10_2 dX9_nextCode_225 ?_
                first
                  | (exfalso; omega)
                  | (have k := kN M2 l7 (some (zi x)) (some (zi V)) f2 r2
                     rw [hx2] at k
                     exact k)
              · refine ziload_10_9 dX9_nextCode_219 ?_
                refine z_goto (tgt := 225) dX9_nextCode_221 (by decide) ?_
                refine zistore_10_2 dX9_nextCode_225 ?_
                first
                  | (exfalso; omega)
                  | (have k := kN M2 l7 (some (zi x)) (some (zi V)) f2 r2
                     rw [hx2] at k
                     exact k)
            · have hx2 : X (m + 1) = (((10000 * W + 100 * A + D : Nat) : Int), V) := by rw [hs, if_pos (by omega)]
              refine z_sipush dX9_nextCode_193 (by decide) ?_
              refine ziload_10_4 dX9_nextCode_196 ?_
              refine z_imul dX9_nextCode_198 ?_
              refine z_bipush dX9_nextCode_199 (by decide) ?_
              refine ziload_10_5 dX9_nextCode_201 ?_
              refine z_imul dX9_nextCode_203 ?_
              refine z_iadd dX9_nextCode_204 ?_
              refine ziload_10_6 dX9_nextCode_205 ?_
              refine z_iadd dX9_nextCode_207 ?_
              refine z_top (y := ((10000 * W + 100 * A + D : Nat) : Int)) (by omega) ?_
              refine z_goto (tgt := 212) dX9_nextCode_208 (by decide) ?_
              refine zistore_10_1 dX9_nextCode_212 ?_
              refine ziload_10_9 dX9_nextCode_213 ?_
              refine ziload_10_2 dX9_nextCode_215 ?_
              refine z_icmp_le (tgt := 224) (by first | omega | exact hR.1 _ _ (by decide) | exact zrng_toInt _) (by first | omega | exact hR.1 _ _ (by decide) | exact zrng_toInt _) dX9_nextCode_216 (by decide) (fun h216 => ?_) (fun h216 => ?_)
              · have h216' := h216
                refine ziload_10_2 dX9_nextCode_224 ?_
                refine zistore_10_2 dX9_nextCode_225 ?_
                first
                  | (exfalso; omega)
                  | (have k := kN M2 l7 (some (zi x)) (some (zi V)) f2 r2
                     rw [hx2] at k
                     exact k)
              · refine ziload_10_9 dX9_nextCode_219 ?_
                refine z_goto (tgt := 225) dX9_nextCode_221 (by decide) ?_
                refine zistore_10_2 dX9_nextCode_225 ?_
                first
                  | (exfalso; omega)
                  | (have k := kN M2 l7 (some (zi x)) (some (zi V)) f2 r2
                     rw [hx2] at k
                     exact k)
        have k140b : ∀ (n : Nat), n < 13 → oldP (wK B) (B 6 0) (bS B) (tC (wK B) (bS B) W A D) → zV zd_Model_nextCode 5 140 [some (zr 9), some (zi (X m).1), some (zi (X m).2), some (zi ((144 + m : Nat) : Int)), some (zi W), some (zi A), some (zi D), l7, some (zi 1), some (zi n)] [] M2 post := by
          intro n hn ho
          refine z_withR (fun hR => ?_)
          refine ziload_10_9 dX9_nextCode_140 ?_
          refine zaload_10_0 dX9_nextCode_142 ?_
          refine zg_Model_187 rfl dX9_nextCode_143 ?_
          refine z_top hnn ?_
          refine z_icmp_ge (tgt := 170) (by first | omega | exact hR.1 _ _ (by decide) | exact zrng_toInt _) (by first | omega | exact hR.1 _ _ (by decide) | exact zrng_toInt _) dX9_nextCode_146 (by decide) (fun h146 => ?_) (fun h146 => ?_)
          · exact k170 1 _ (Or.inl ⟨rfl, ho⟩)
          · refine ziload_10_8 dX9_nextCode_149 ?_
            refine z_if_ne (tgt := 170) (by first | omega | exact hR.1 _ _ (by decide) | exact zrng_toInt _) dX9_nextCode_151 (by decide) (fun h151 => ?_) (fun h151 => ?_)
            · exact k170 1 _ (Or.inl ⟨rfl, ho⟩)
            · exact absurd h151 (by decide)
        have oloop : ∀ (c n : Nat), n + c = B 6 0 → (∀ n', n' < n → agK (flB (wK B) (tC (wK B) (bS B) W A D)) (rwF B n') (lP (wK B) (lS (wK B))) = false) → zV zd_Model_nextCode 5 140 [some (zr 9), some (zi (X m).1), some (zi (X m).2), some (zi ((144 + m : Nat) : Int)), some (zi W), some (zi A), some (zi D), l7, some (zi 0), some (zi n)] [] M2 post := by
          intro c
          induction c with
          | zero =>
            intro n hn hno
            refine z_withR (fun hR => ?_)
            refine ziload_10_9 dX9_nextCode_140 ?_
            refine zaload_10_0 dX9_nextCode_142 ?_
            refine zg_Model_187 rfl dX9_nextCode_143 ?_
            refine z_top hnn ?_
            refine z_icmp_ge (tgt := 170) (by first | omega | exact hR.1 _ _ (by decide) | exact zrng_toInt _) (by first | omega | exact hR.1 _ _ (by decide) | exact zrng_toInt _) dX9_nextCode_146 (by decide) (fun h146 => ?_) (fun h146 => ?_)
            · refine k170 0 _ (Or.inr ⟨rfl, fun z => ?_⟩)
              obtain ⟨n', z1, z2⟩ := hold.mp z
              rw [hno n' (by omega)] at z2
              exact absurd z2 (by decide)
            · omega
          | succ c iho =>
            intro n hn hno
            refine z_withR (fun hR => ?_)
            refine ziload_10_9 dX9_nextCode_140 ?_
            refine zaload_10_0 dX9_nextCode_142 ?_
            refine zg_Model_187 rfl dX9_nextCode_143 ?_
            refine z_top hnn ?_
            refine z_icmp_ge (tgt := 170) (by first | omega | exact hR.1 _ _ (by decide) | exact zrng_toInt _) (by first | omega | exact hR.1 _ _ (by decide) | exact zrng_toInt _) dX9_nextCode_146 (by decide) (fun h146 => ?_) (fun h146 => ?_)
            · omega
            · refine ziload_10_8 dX9_nextCode_149 ?_
              refine z_if_ne (tgt := 170) (by first | omega | exact hR.1 _ _ (by decide) | exact zrng_toInt _) dX9_nextCode_151 (by decide) (fun h151 => ?_) (fun h151 => ?_)
              · exact absurd rfl h151
              · refine zaload_10_0 dX9_nextCode_154 ?_
                refine z_bipush dX9_nextCode_155 (by decide) ?_
                refine ziload_10_9 dX9_nextCode_157 ?_
                refine zc_Model_216 rfl dX9_nextCode_159 (by decide) (Nat.le_of_ble_eq_true rfl) (sp_Model_agrees M2 B 12 n (flB (wK B) (tC (wK B) (bS B) W A D)) (rwF B n) (by omega) (by omega) r2.2.1.2.1 r2.at hC' (r2.fl (by omega))) (fun r159 M159 hq159 => ?_)
                refine z_withR (fun hR => ?_)
                have e159 := hq159.1.symm
                subst e159
                have q159 := hq159.2
                subst q159
                refine zistore_10_8 dX9_nextCode_162 ?_
                refine ziinc_10_9 dX9_nextCode_164 ?_
                refine z_goto (tgt := 140) dX9_nextCode_167 (by decide) ?_
                cases hz : agK (flB (wK B) (tC (wK B) (bS B) W A D)) (rwF B n) (lP (wK B) (lS (wK B)))
                · exact iho (n + 1) (by omega) (fun n' hn' => by
                    by_cases e : n' = n
                    · rw [e]; exact hz
                    · exact hno n' (by omega))
                · exact k140b (n + 1) (by omega) (hold.mpr ⟨n, by omega, hz⟩)
        refine z_withR (fun hR => ?_)
        refine z_iconst dX9_nextCode_134 ?_
        refine zistore_10_8 dX9_nextCode_135 ?_
        refine z_iconst dX9_nextCode_137 ?_
        refine zistore_10_9 dX9_nextCode_138 ?_
        exact oloop (B 6 0) 0 (by omega) (fun n' h => absurd h (Nat.not_lt_zero _))
      have k106 : ∀ (x : Int), x = b01 (mayB (B 6 0) (bAw B) W A D) → zV zd_Model_nextCode 5 106 [some (zr 9), some (zi (X m).1), some (zi (X m).2), some (zi ((144 + m : Nat) : Int)), some (zi W), some (zi A), some (zi D), l7, l8, l9] [zi x] M1 post := by
        intro x hx
        subst hx
        refine z_withR (fun hR => ?_)
        refine zistore_10_7 dX9_nextCode_106 ?_
        refine ziload_10_7 dX9_nextCode_108 ?_
        refine z_if_eq (tgt := 226) (b01_r _) dX9_nextCode_110 (by decide) (fun h110 => ?_) (fun h110 => ?_)
        · have hmay := b01_f h110
          rw [hmay] at hs
          have hx2 : X (m + 1) = X m := hs
          have k := kN M1 (some (zi (b01 (mayB (B 6 0) (bAw B) W A D)))) l8 l9 f1 r1
          rw [hx2] at k
          exact k
        · have hmay := b01_t h110
          have hmay' := hmay
          unfold mayB at hmay'
          rw [Bool.and_eq_true, Bool.and_eq_true, decide_eq_true_iff] at hmay'
          obtain ⟨ha, hb2, hc2⟩ := hmay'
          refine zaload_10_0 dX9_nextCode_113 ?_
          refine ziload_10_4 dX9_nextCode_114 ?_
          refine ziload_10_5 dX9_nextCode_116 ?_
          refine ziload_10_4 dX9_nextCode_118 ?_
          refine z_iconst dX9_nextCode_120 ?_
          refine z_icmp_ne (tgt := 129) (by first | omega | exact hR.1 _ _ (by decide) | exact zrng_toInt _) (by first | omega | exact hR.1 _ _ (by decide) | exact zrng_toInt _) dX9_nextCode_121 (by decide) (fun h121 => ?_) (fun h121 => ?_)
          · have hw2 : ¬ W = 2 := by omega
            have hsp := sp_Model_layTried M1 B W A A r1 hW6 ha ha
            rw [tC_one (b' := D) hw2] at hsp
            refine ziload_10_5 dX9_nextCode_129 ?_
            refine zc_Model_235 rfl dX9_nextCode_131 (by decide) (Nat.le_of_ble_eq_true rfl) (hsp) (fun r131 M131 hq131 => ?_)
            refine z_withR (fun hR => ?_)
            obtain ⟨f131, r131', c131⟩ := hq131
            exact k134 M131 _ hmay (f1.tr f131 (fun _ z => z) (by decide)) r131' c131
          · have hw2 : W = 2 := by omega
            rw [if_pos hw2, Bool.and_eq_true, Bool.and_eq_true, decide_eq_true_iff, decide_eq_true_iff] at hc2
            have hsp := sp_Model_layTried M1 B W A D r1 hW6 ha hc2.2.1
            refine ziload_10_6 dX9_nextCode_124 ?_
            refine z_goto (tgt := 131) dX9_nextCode_126 (by decide) ?_
            refine zc_Model_235 rfl dX9_nextCode_131 (by decide) (Nat.le_of_ble_eq_true rfl) (hsp) (fun r131 M131 hq131 => ?_)
            refine z_withR (fun hR => ?_)
            obtain ⟨f131, r131', c131⟩ := hq131
            exact k134 M131 _ hmay (f1.tr f131 (fun _ z => z) (by decide)) r131' c131
      refine z_withR (fun hR => ?_)
      refine ziload_10_3 dX9_nextCode_13 ?_
      refine z_sipush dX9_nextCode_14 (by decide) ?_
      refine z_icmp_ge (tgt := 232) (by first | omega | exact hR.1 _ _ (by decide) | exact zrng_toInt _) (by first | omega | exact hR.1 _ _ (by decide) | exact zrng_toInt _) dX9_nextCode_17 (by decide) (fun h17 => ?_) (fun h17 => ?_)
      · omega
      · refine ziload_10_3 dX9_nextCode_20 ?_
        refine z_sipush dX9_nextCode_21 (by decide) ?_
        refine z_idiv (by omega) (by omega) dX9_nextCode_24 ?_
        refine z_top (y := (W : Int)) (by omega) ?_
        refine zistore_10_4 dX9_nextCode_25 ?_
        refine ziload_10_3 dX9_nextCode_27 ?_
        refine z_bipush dX9_nextCode_28 (by decide) ?_
        refine z_idiv (by omega) (by omega) dX9_nextCode_30 ?_
        refine z_bipush dX9_nextCode_31 (by decide) ?_
        refine z_irem (by omega) (by omega) dX9_nextCode_33 ?_
        refine z_top (y := (A : Int)) (by omega) ?_
        refine zistore_10_5 dX9_nextCode_34 ?_
        refine ziload_10_3 dX9_nextCode_36 ?_
        refine z_bipush dX9_nextCode_37 (by decide) ?_
        refine z_irem (by omega) (by omega) dX9_nextCode_39 ?_
        refine z_top (y := (D : Int)) (by omega) ?_
        refine zistore_10_6 dX9_nextCode_40 ?_
        refine ziload_10_5 dX9_nextCode_42 ?_
        refine zaload_10_0 dX9_nextCode_44 ?_
        refine zg_Model_187 rfl dX9_nextCode_45 ?_
        refine z_top n1 ?_
        refine z_icmp_ge (tgt := 105) (by first | omega | exact hR.1 _ _ (by decide) | exact zrng_toInt _) (by first | omega | exact hR.1 _ _ (by decide) | exact zrng_toInt _) dX9_nextCode_48 (by decide) (fun h48 => ?_) (fun h48 => ?_)
        · have hm : mayB (B 6 0) (bAw B) W A D = false := by
            unfold mayB
            simp [show ¬ A < B 6 0 by omega]
          refine z_iconst dX9_nextCode_105 ?_
          first
            | exact k106 0 (by rw [hm]; rfl)
            | exact k106 1 (by rw [hm]; rfl)
        · have hAN : A < B 6 0 := by omega
          have hAs := (n4 A hAN).2.2.2
          refine zaload_10_0 dX9_nextCode_51 ?_
          refine zg_Model_63 rfl dX9_nextCode_52 ?_
          refine ziload_10_5 dX9_nextCode_55 ?_
          refine z_zald _ rfl (by decide) (by decide) rfl (by omega) dX9_nextCode_57 ?_
          refine z_top hAs ?_
          refine z_if_ne (tgt := 105) (by split <;> decide) dX9_nextCode_58 (by decide) (fun h58 => ?_) (fun h58 => ?_)
          · have hno : bAw B A = false := by
              cases hz : bAw B A
              · rfl
              · rw [hz] at h58; exact absurd rfl h58
            have hm : mayB (B 6 0) (bAw B) W A D = false := by
              unfold mayB
              simp [hno]
            refine z_iconst dX9_nextCode_105 ?_
            first
              | exact k106 0 (by rw [hm]; rfl)
              | exact k106 1 (by rw [hm]; rfl)
          · have hyes : bAw B A = true := by
              cases hz : bAw B A
              · rw [hz] at h58; exact absurd h58 (by decide)
              · rfl
            refine ziload_10_4 dX9_nextCode_61 ?_
            refine z_iconst dX9_nextCode_63 ?_
            refine z_icmp_ne (tgt := 96) (by first | omega | exact hR.1 _ _ (by decide) | exact zrng_toInt _) (by first | omega | exact hR.1 _ _ (by decide) | exact zrng_toInt _) dX9_nextCode_64 (by decide) (fun h64 => ?_) (fun h64 => ?_)
            · have hw2 : ¬ W = 2 := by omega
              refine ziload_10_6 dX9_nextCode_96 ?_
              refine z_if_ne (tgt := 105) (by first | omega | exact hR.1 _ _ (by decide) | exact zrng_toInt _) dX9_nextCode_98 (by decide) (fun h98 => ?_) (fun h98 => ?_)
              · have hm : mayB (B 6 0) (bAw B) W A D = false := by
                  unfold mayB
                  simp [hw2, show ¬ D = 0 by omega]
                refine z_iconst dX9_nextCode_105 ?_
                first
                  | exact k106 0 (by rw [hm]; rfl)
                  | exact k106 1 (by rw [hm]; rfl)
              · have hm : mayB (B 6 0) (bAw B) W A D = true := by
                  unfold mayB
                  simp [hw2, hyes, hAN, show D = 0 by omega]
                refine z_iconst dX9_nextCode_101 ?_
                refine z_goto (tgt := 106) dX9_nextCode_102 (by decide) ?_
                first
                  | exact k106 0 (by rw [hm]; rfl)
                  | exact k106 1 (by rw [hm]; rfl)
            · have hw2 : W = 2 := by omega
              refine ziload_10_6 dX9_nextCode_67 ?_
              refine ziload_10_5 dX9_nextCode_69 ?_
              refine z_icmp_le (tgt := 105) (by first | omega | exact hR.1 _ _ (by decide) | exact zrng_toInt _) (by first | omega | exact hR.1 _ _ (by decide) | exact zrng_toInt _) dX9_nextCode_71 (by decide) (fun h71 => ?_) (fun h71 => ?_)
              · have hm : mayB (B 6 0) (bAw B) W A D = false := by
                  unfold mayB
                  simp [hw2, show ¬ A < D by omega]
                refine z_iconst dX9_nextCode_105 ?_
                first
                  | exact k106 0 (by rw [hm]; rfl)
                  | exact k106 1 (by rw [hm]; rfl)
              · have hAD : A < D := by omega
                refine ziload_10_6 dX9_nextCode_74 ?_
                refine zaload_10_0 dX9_nextCode_76 ?_
                refine zg_Model_187 rfl dX9_nextCode_77 ?_
                refine z_top n1 ?_
                refine z_icmp_ge (tgt := 105) (by first | omega | exact hR.1 _ _ (by decide) | exact zrng_toInt _) (by first | omega | exact hR.1 _ _ (by decide) | exact zrng_toInt _) dX9_nextCode_80 (by decide) (fun h80 => ?_) (fun h80 => ?_)
                · have hm : mayB (B 6 0) (bAw B) W A D = false := by
                    unfold mayB
                    simp [hw2, show ¬ D < B 6 0 by omega]
                  refine z_iconst dX9_nextCode_105 ?_
                  first
                    | exact k106 0 (by rw [hm]; rfl)
                    | exact k106 1 (by rw [hm]; rfl)
                · have hDN : D < B 6 0 := by omega
                  have hDs := (n4 D hDN).2.2.2
                  refine zaload_10_0 dX9_nextCode_83 ?_
                  refine zg_Model_63 rfl dX9_nextCode_84 ?_
                  refine ziload_10_6 dX9_nextCode_87 ?_
                  refine z_zald _ rfl (by decide) (by decide) rfl (by omega) dX9_nextCode_89 ?_
                  refine z_top hDs ?_
                  refine z_if_ne (tgt := 105) (by split <;> decide) dX9_nextCode_90 (by decide) (fun h90 => ?_) (fun h90 => ?_)
                  · have hno : bAw B D = false := by
                      cases hz : bAw B D
                      · rfl
                      · rw [hz] at h90; exact absurd rfl h90
                    have hm : mayB (B 6 0) (bAw B) W A D = false := by
                      unfold mayB
                      simp [hw2, hno]
                    refine z_iconst dX9_nextCode_105 ?_
                    first
                      | exact k106 0 (by rw [hm]; rfl)
                      | exact k106 1 (by rw [hm]; rfl)
                  · have hyes2 : bAw B D = true := by
                      cases hz : bAw B D
                      · rw [hz] at h90; exact absurd h90 (by decide)
                      · rfl
                    have hm : mayB (B 6 0) (bAw B) W A D = true := by
                      unfold mayB
                      simp [hw2, hyes, hyes2, hAN, hDN, hAD]
                    refine z_goto (tgt := 101) dX9_nextCode_93 (by decide) ?_
                    refine z_iconst dX9_nextCode_101 ?_
                    refine z_goto (tgt := 106) dX9_nextCode_102 (by decide) ?_
                    first
                      | exact k106 0 (by rw [hm]; rfl)
                      | exact k106 1 (by rw [hm]; rfl)
  refine zaload_10_0 dX9_nextCode_0 ?_
  refine zc_Model_206 rfl dX9_nextCode_1 (by decide) (Nat.le_of_ble_eq_true rfl) (sp_Model_layRows M B h) (fun r1 M1 hq1 => ?_)
  refine z_withR (fun hR => ?_)
  obtain ⟨f1, r1'⟩ := hq1
  refine z_bipush dX9_nextCode_4 (by decide) ?_
  refine zistore_10_1 dX9_nextCode_6 ?_
  refine z_iconst dX9_nextCode_7 ?_
  refine zistore_10_2 dX9_nextCode_8 ?_
  refine z_sipush dX9_nextCode_9 (by decide) ?_
  refine zistore_10_3 dX9_nextCode_12 ?_
  have k := loop 864 0 M1 none none none none none none (by omega) (f1.up (by decide)) r1'
  rw [show X 0 = (-9, -1) by rw [hX]; rfl] at k
  exact k
theorem sp_Model_next (M : zMem) (B : Nat → Nat → Nat) (h : abR M B) : zSp zd_Model_next 6 [zr 9] M (fun r M' => rOK M M' B r (fNext B)) := by
  refine zSp_in 0 [some (zr 9)] rfl rfl (by decide +kernel) rfl ?_
  refine z_withR (fun hR => ?_)
  refine zaload_1_0 dX9_next_0 ?_
  refine zc_Model_239 rfl dX9_next_1 (by decide) (Nat.le_of_ble_eq_true rfl) (sp_Model_nextCode M B h) (fun r1 M1 hq1 => ?_)
  refine z_withR (fun hR => ?_)
  obtain ⟨f1, a1, q1⟩ := hq1
  refine z_iret rfl ?_ dX9_next_4
  exact ⟨q1, f1.up (by decide), a1⟩
theorem sp_Model_makeNext (M : zMem) (B : Nat → Nat → Nat) (h : abR M B) : zSp zd_Model_makeNext 6 [zr 9] M (fun r M' => rOK M M' (gMkN B) r (fMkN B)) := by
  refine zSp_in 1 [some (zr 9), none] rfl rfl (by decide +kernel) rfl ?_
  refine z_withR (fun hR => ?_)
  have hfo := fNext_form B
  have n12 := h.1.2.2.2.2.1.2.1
  have fin : ∀ (M1 M2 : zMem) (r : Int) (w a b : Nat), zfr [9, 40, 41, 42, 43, 45, 46, 47, 48, 49, 50, 52, 53] M M1 → ¬ fNext B = -9 → (1 ≤ w ∧ w ≤ 6) → (a < B 6 0 ∧ a < 12) → (b < B 6 0 ∧ b < 12) → fNext B = ((10000 * w + 100 * a + b : Nat) : Int) → (w = 2 ∨ b = 0) → rOK M1 M2 (gMake B w a b) r (fMake B w a b) → rOK M M2 (gMkN B) r (fMkN B) := by
    intro M1 M2 r w a b f1 h9 hw ha hb hf hwb ⟨q1, q2, q3⟩
    have hmk : mkO B w a b := Or.inr ⟨by omega, ⟨by omega, by omega⟩, fun _ => ⟨by omega, by omega⟩⟩
    have h7 : inR (w : Int) 7 := ⟨by omega, by omega⟩
    refine ⟨?_, f1.tr q2 (by decide) (fun _ z => z), ?_⟩
    · rw [q1]
      unfold fMake fMkN
      rw [if_pos h7, if_pos hmk, if_neg h9]
    · have e : gMake B w a b = gMkN B := by
        unfold gMake gMkN
        by_cases h12 : B 6 0 = 12
        · rw [if_neg (fun z => z.2.2 h12), if_neg (fun z => z.2 h12)]
        · have e0 : (if (w : Int) = 0 ∨ (w : Int) = 2 then ((b : Nat) : Int).toNat else 0) = b := by
            rw [Int.toNat_natCast]
            by_cases e4 : w = 2
            · rw [if_pos (Or.inr (by omega))]
            · rw [if_neg (by omega)]; omega
          have e1 : (10000 * w + 100 * a + b) / 10000 = w := by omega
          have e2 : (10000 * w + 100 * a + b) / 100 % 100 = a := by omega
          have e3 : (10000 * w + 100 * a + b) % 100 = b := by omega
          rw [if_pos (show inR (w : Int) 7 ∧ mkO B w a b ∧ ¬ B 6 0 = 12 from ⟨h7, hmk, h12⟩), if_pos (show ¬ fNext B = -9 ∧ ¬ B 6 0 = 12 from ⟨h9, h12⟩), e0, hf, Int.toNat_natCast, Int.toNat_natCast, Int.toNat_natCast, e1, e2, e3]
      rw [← e]; exact q3
  refine zaload_2_0 dX9_makeNext_0 ?_
  refine zc_Model_239 rfl dX9_makeNext_1 (by decide) (Nat.le_of_ble_eq_true rfl) (sp_Model_nextCode M B h) (fun r1 M1 hq1 => ?_)
  refine z_withR (fun hR => ?_)
  obtain ⟨f1, a1, q1⟩ := hq1
  subst q1
  refine zistore_2_1 dX9_makeNext_4 ?_
  refine ziload_2_1 dX9_makeNext_5 ?_
  refine z_bipush dX9_makeNext_6 (by decide) ?_
  refine z_icmp_ne (tgt := 14) (by unfold zrng; rcases hfo with z | ⟨w, a, b, z1, z2, z3, z4, z5⟩ <;> omega) (by first | omega | exact hR.1 _ _ (by decide) | exact zrng_toInt _) dX9_makeNext_8 (by decide) (fun h8 => ?_) (fun h8 => ?_)
  · obtain ⟨w, a, b, z1, z2, z3, z4, z5⟩ := hfo.resolve_left h8
    refine zaload_2_0 dX9_makeNext_14 ?_
    refine ziload_2_1 dX9_makeNext_15 ?_
    refine z_sipush dX9_makeNext_16 (by decide) ?_
    refine z_idiv (by omega) (by omega) dX9_makeNext_19 ?_
    refine z_top (y := (w : Int)) (by omega) ?_
    refine ziload_2_1 dX9_makeNext_20 ?_
    refine z_bipush dX9_makeNext_21 (by decide) ?_
    refine z_idiv (by omega) (by omega) dX9_makeNext_23 ?_
    refine z_bipush dX9_makeNext_24 (by decide) ?_
    refine z_irem (by omega) (by omega) dX9_makeNext_26 ?_
    refine z_top (y := (a : Int)) (by omega) ?_
    refine ziload_2_1 dX9_makeNext_27 ?_
    refine z_bipush dX9_makeNext_28 (by decide) ?_
    refine z_irem (by omega) (by omega) dX9_makeNext_30 ?_
    refine z_top (y := (b : Int)) (by omega) ?_
    refine zc_Model_242 rfl dX9_makeNext_31 (by decide) (Nat.le_of_ble_eq_true rfl) (sp_Model_make M1 B w a b (by unfold zrng; omega) (by unfold zrng; omega) (by unfold zrng; omega) a1) (fun r31 M31 hq31 => ?_)
    refine z_withR (fun hR => ?_)
    refine z_iret rfl ?_ dX9_makeNext_34
    exact fin M1 M31 _ w a b f1 h8 z1 z2 z3 z4 z5 hq31
  · refine z_bipush dX9_makeNext_11 (by decide) ?_
    refine z_iret rfl ?_ dX9_makeNext_13
    unfold fMkN gMkN
    rw [if_pos h8, if_neg (fun z => z.1 h8)]
    exact ⟨rfl, f1.up (by decide), a1⟩
