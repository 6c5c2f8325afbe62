def b01 (b : Bool) : Int := if b then 1 else 0
theorem b01_r (b : Bool) : zrng (b01 b) := by cases b <;> decide
theorem b01_01 (b : Bool) : b01 b = 0 ∨ b01 b = 1 := by cases b <;> decide
theorem b01_t {b : Bool} (h : ¬ b01 b = 0) : b = true := by cases b; exact absurd rfl h; rfl
theorem b01_f {b : Bool} (h : b01 b = 0) : b = false := by cases b; rfl; exact absurd h (by decide)
/-- some and all of the first z -/
def anF (f : Nat → Bool) : Nat → Bool
  | 0 => false
  | z + 1 => anF f z || f z
def alF (f : Nat → Bool) : Nat → Bool
  | 0 => true
  | z + 1 => alF f z && f z
theorem anF_iff {f : Nat → Bool} : ∀ {n : Nat}, anF f n = true ↔ ∃ z, z < n ∧ f z = true
  | 0 => ⟨fun h => absurd (show false = true from h) (by decide), fun ⟨z, h, _⟩ => absurd h (Nat.not_lt_zero _)⟩
  | n + 1 => by
    rw [anF, Bool.or_eq_true, anF_iff]
    constructor
    · rintro (⟨z, h1, h2⟩ | h)
      · exact ⟨z, by omega, h2⟩
      · exact ⟨n, by omega, h⟩
    · intro ⟨z, h1, h2⟩
      by_cases e : z = n
      · rw [e] at h2; exact Or.inr h2
      · exact Or.inl ⟨z, by omega, h2⟩
theorem alF_iff {f : Nat → Bool} : ∀ {n : Nat}, alF f n = true ↔ ∀ z, z < n → f z = true
  | 0 => ⟨fun _ z h => absurd h (Nat.not_lt_zero _), fun _ => rfl⟩
  | n + 1 => by
    rw [alF, Bool.and_eq_true, alF_iff]
    constructor
    · intro ⟨h1, h2⟩ z hz
      by_cases e : z = n
      · rw [e]; exact h2
      · exact h1 z (by omega)
    · intro h
      exact ⟨fun z hz => h z (by omega), h n (by omega)⟩
theorem sp_Model_isSoN (M : zMem) (i n w A Bb x y : Nat) (f g : Nat → Bool) (hi : i < 13) (hn : okn n) (hs : M 9 8 = n) (hw : M 48 i = w) (hw1 : 1 ≤ w ∧ w ≤ 6) (hA : M 49 i = A) (hA2 : A < 13) (hB : w = 2 → M 50 i = Bb ∧ Bb < 13 ∧ ∀ j, j < n * n → M 52 (9 * Bb + j) = b01 (g j)) (hf : ∀ j, j < n * n → M 52 (9 * A + j) = b01 (f j)) (hx : x < n) (hy : y < n) : zSp zd_Model_isSo 1 [zr 9, zi i, zi x, zi y] M (fun r M' => zfr [41] M M' ∧ r = b01 (mkR w n f g (x * n + y))) := by
  refine zSp_in 5 [some (zr 9), some (zi i), some (zi x), some (zi y), none, none, none, none, none] rfl rfl (by decide +kernel) rfl ?_
  refine z_withR (fun hR => ?_)
  have hn0 := hn.pos
  have hn3 := hn.le
  have hsq := sq_le hn
  have ix : ∀ a b, a < n → b < n → a * n + b < n * n := fun a b ha hb => pair_lt ha hb
  obtain ⟨X, hX⟩ : ∃ X, X = x * n := ⟨_, rfl⟩
  obtain ⟨Y, hY⟩ : ∃ Y, Y = y * n := ⟨_, rfl⟩
  have hXn : ∀ z, z < n → X + z < n * n := fun z hz => by rw [hX]; exact ix x z hx hz
  have hYn : ∀ z, z < n → Y + z < n * n := fun z hz => by rw [hY]; exact ix y z hy hz
  have cX : (n : Int) * (x : Int) = (X : Int) := by rw [hX, Int.natCast_mul, Int.mul_comm]
  have cY : (n : Int) * (y : Int) = (Y : Int) := by rw [hY, Int.natCast_mul, Int.mul_comm]
  have hXY := hXn y hy
  have hYX := hYn x hx
  have hXX := hXn x hx
  have d1 : (x * n + y) / n = x := pair_div hy
  have d2 : (x * n + y) % n = y := pair_mod hy
  obtain ⟨post, hpost⟩ : ∃ post : Int → zMem → Prop, post = (fun (r : Int) M' => zfr [41] M M' ∧ r = b01 (mkR w n f g (x * n + y))) := ⟨_, rfl⟩
  rw [← hpost]
  have fin : ∀ l8, zV zd_Model_isSo 1 120 [some (zr 9), some (zi i), some (zi x), some (zi y), some (zi ((9 * A : Nat) : Int)), some (zi (b01 (anF (fun z => f (X + z)) n))), some (zi (b01 (alF (fun z => f (X + z)) n))), some (zi n), l8] [] M post := by
    intro l8
    refine z_withR (fun hR => ?_)
    refine zaload_9_0 dX9_isSo_120 ?_
    refine zg_Model_54 rfl dX9_isSo_121 ?_
    refine ziload_9_1 dX9_isSo_124 ?_
    refine z_iald _ rfl (by decide) (by decide) rfl (by omega) dX9_isSo_125 ?_
    refine z_top hw ?_
    rcases (show (w : Int) = 1 ∨ (w : Int) = 2 ∨ (w : Int) = 3 ∨ (w : Int) = 4 ∨ (w : Int) = 5 ∨ (w : Int) = 6 ∨ ((w : Int) < 1 ∨ 6 < (w : Int)) from by omega) with h126 | h126 | h126 | h126 | h126 | h126 | h126
    · refine z_swIn (tgt := 164) 0 (by first | omega | exact hR.1 _ _ (by decide) | exact zrng_toInt _) (by omega) dX9_isSo_126 (by decide) rfl (by decide) ?_
      refine zaload_9_0 dX9_isSo_164 ?_
      refine zg_Model_66 rfl dX9_isSo_165 ?_
      refine ziload_9_4 dX9_isSo_168 ?_
      refine zaload_9_0 dX9_isSo_170 ?_
      refine zg_Model_124 rfl dX9_isSo_171 ?_
      refine z_top hs ?_
      refine ziload_9_2 dX9_isSo_174 ?_
      refine z_imul dX9_isSo_175 ?_
      refine z_iadd dX9_isSo_176 ?_
      refine ziload_9_3 dX9_isSo_177 ?_
      refine z_iadd dX9_isSo_178 ?_
      refine z_zald (9 * A + (X + y)) rfl (by decide) (by decide) (by omega) (by omega) dX9_isSo_179 ?_
      refine z_top (hf (X + y) hXY) ?_
      refine z_if_ne (tgt := 187) (b01_r _) dX9_isSo_180 (by decide) (fun h180 => ?_) (fun h180 => ?_)
      · have hb := b01_t h180
        refine z_iconst dX9_isSo_187 ?_
        refine z_zret rfl (by omega) ?_ dX9_isSo_188
        rw [hpost]
        refine ⟨zfr.rf, ?_⟩
        rw [show w = 1 by omega]
        show _ = b01 (!f (x * n + y))
        rw [← hX, hb]
        rfl
      · have hb := b01_f h180
        refine z_iconst dX9_isSo_183 ?_
        refine z_goto (tgt := 188) dX9_isSo_184 (by decide) ?_
        refine z_zret rfl (by omega) ?_ dX9_isSo_188
        rw [hpost]
        refine ⟨zfr.rf, ?_⟩
        rw [show w = 1 by omega]
        show _ = b01 (!f (x * n + y))
        rw [← hX, hb]
        rfl
    · refine z_swIn (tgt := 189) 1 (by first | omega | exact hR.1 _ _ (by decide) | exact zrng_toInt _) (by omega) dX9_isSo_126 (by decide) rfl (by decide) ?_
      refine zaload_9_0 dX9_isSo_189 ?_
      refine zg_Model_66 rfl dX9_isSo_190 ?_
      refine ziload_9_4 dX9_isSo_193 ?_
      refine zaload_9_0 dX9_isSo_195 ?_
      refine zg_Model_124 rfl dX9_isSo_196 ?_
      refine z_top hs ?_
      refine ziload_9_2 dX9_isSo_199 ?_
      refine z_imul dX9_isSo_200 ?_
      refine z_iadd dX9_isSo_201 ?_
      refine ziload_9_3 dX9_isSo_202 ?_
      refine z_iadd dX9_isSo_203 ?_
      refine z_zald (9 * A + (X + y)) rfl (by decide) (by decide) (by omega) (by omega) dX9_isSo_204 ?_
      refine z_top (hf (X + y) hXY) ?_
      refine z_if_eq (tgt := 238) (b01_r _) dX9_isSo_205 (by decide) (fun h205 => ?_) (fun h205 => ?_)
      · have hb := b01_f h205
        have hr : b01 (mkR w n f g (x * n + y)) = 0 := by
          rw [show w = 2 by omega]
          show b01 (f (x * n + y) && g (x * n + y)) = _
          rw [← hX, hb]
          rfl
        refine z_iconst dX9_isSo_238 ?_
        refine z_zret rfl (by omega) ?_ dX9_isSo_239
        rw [hpost]
        exact ⟨zfr.rf, hr.symm⟩
      · have hb := b01_t h205
        obtain ⟨B1, B2, B3⟩ := hB (by omega)
        refine zaload_9_0 dX9_isSo_208 ?_
        refine zg_Model_66 rfl dX9_isSo_209 ?_
        refine z_bipush dX9_isSo_212 (by decide) ?_
        refine zaload_9_0 dX9_isSo_214 ?_
        refine zg_Model_60 rfl dX9_isSo_215 ?_
        refine ziload_9_1 dX9_isSo_218 ?_
        refine z_iald _ rfl (by decide) (by decide) rfl (by omega) dX9_isSo_219 ?_
        refine z_top B1 ?_
        refine z_imul dX9_isSo_220 ?_
        refine zaload_9_0 dX9_isSo_221 ?_
        refine zg_Model_124 rfl dX9_isSo_222 ?_
        refine z_top hs ?_
        refine ziload_9_2 dX9_isSo_225 ?_
        refine z_imul dX9_isSo_226 ?_
        refine z_iadd dX9_isSo_227 ?_
        refine ziload_9_3 dX9_isSo_228 ?_
        refine z_iadd dX9_isSo_229 ?_
        refine z_zald (9 * Bb + (X + y)) rfl (by decide) (by decide) (by omega) (by omega) dX9_isSo_230 ?_
        refine z_top (B3 (X + y) hXY) ?_
        refine z_if_eq (tgt := 238) (b01_r _) dX9_isSo_231 (by decide) (fun h231 => ?_) (fun h231 => ?_)
        · have hb2 := b01_f h231
          have hr : b01 (mkR w n f g (x * n + y)) = 0 := by
            rw [show w = 2 by omega]
            show b01 (f (x * n + y) && g (x * n + y)) = _
            rw [← hX, hb, hb2]
            rfl
          refine z_iconst dX9_isSo_238 ?_
          refine z_zret rfl (by omega) ?_ dX9_isSo_239
          rw [hpost]
          exact ⟨zfr.rf, hr.symm⟩
        · have hb2 := b01_t h231
          have hr : b01 (mkR w n f g (x * n + y)) = 1 := by
            rw [show w = 2 by omega]
            show b01 (f (x * n + y) && g (x * n + y)) = _
            rw [← hX, hb, hb2]
            rfl
          refine z_iconst dX9_isSo_234 ?_
          refine z_goto (tgt := 239) dX9_isSo_235 (by decide) ?_
          refine z_zret rfl (by omega) ?_ dX9_isSo_239
          rw [hpost]
          exact ⟨zfr.rf, hr.symm⟩
    · refine z_swIn (tgt := 277) 2 (by first | omega | exact hR.1 _ _ (by decide) | exact zrng_toInt _) (by omega) dX9_isSo_126 (by decide) rfl (by decide) ?_
      refine ziload_9_6 dX9_isSo_277 ?_
      refine z_zret rfl (b01_01 _) ?_ dX9_isSo_279
      rw [hpost]
      refine ⟨zfr.rf, congrArg b01 ?_⟩
      rw [show w = 3 by omega]
      show _ = decide (∀ z, z < n → f ((x * n + y) / n * n + z) = true)
      rw [Bool.eq_iff_iff, alF_iff, decide_eq_true_iff, d1, hX]
    · refine z_swIn (tgt := 240) 3 (by first | omega | exact hR.1 _ _ (by decide) | exact zrng_toInt _) (by omega) dX9_isSo_126 (by decide) rfl (by decide) ?_
      refine ziload_9_5 dX9_isSo_240 ?_
      refine z_zret rfl (b01_01 _) ?_ dX9_isSo_242
      rw [hpost]
      refine ⟨zfr.rf, congrArg b01 ?_⟩
      rw [show w = 4 by omega]
      show _ = decide (∃ z, z < n ∧ f ((x * n + y) / n * n + z) = true)
      rw [Bool.eq_iff_iff, anF_iff, decide_eq_true_iff, d1, hX]
    · refine z_swIn (tgt := 243) 4 (by first | omega | exact hR.1 _ _ (by decide) | exact zrng_toInt _) (by omega) dX9_isSo_126 (by decide) rfl (by decide) ?_
      refine zaload_9_0 dX9_isSo_243 ?_
      refine zg_Model_66 rfl dX9_isSo_244 ?_
      refine ziload_9_4 dX9_isSo_247 ?_
      refine zaload_9_0 dX9_isSo_249 ?_
      refine zg_Model_124 rfl dX9_isSo_250 ?_
      refine z_top hs ?_
      refine ziload_9_3 dX9_isSo_253 ?_
      refine z_imul dX9_isSo_254 ?_
      refine z_iadd dX9_isSo_255 ?_
      refine ziload_9_2 dX9_isSo_256 ?_
      refine z_iadd dX9_isSo_257 ?_
      refine z_zald (9 * A + (Y + x)) rfl (by decide) (by decide) (by omega) (by omega) dX9_isSo_258 ?_
      refine z_top (hf (Y + x) hYX) ?_
      refine z_zret rfl (b01_01 _) ?_ dX9_isSo_259
      rw [hpost]
      refine ⟨zfr.rf, congrArg b01 ?_⟩
      rw [show w = 5 by omega]
      show _ = f ((x * n + y) % n * n + (x * n + y) / n)
      rw [d1, d2, hY]
    · refine z_swIn (tgt := 260) 5 (by first | omega | exact hR.1 _ _ (by decide) | exact zrng_toInt _) (by omega) dX9_isSo_126 (by decide) rfl (by decide) ?_
      refine zaload_9_0 dX9_isSo_260 ?_
      refine zg_Model_66 rfl dX9_isSo_261 ?_
      refine ziload_9_4 dX9_isSo_264 ?_
      refine zaload_9_0 dX9_isSo_266 ?_
      refine zg_Model_124 rfl dX9_isSo_267 ?_
      refine z_top hs ?_
      refine ziload_9_2 dX9_isSo_270 ?_
      refine z_imul dX9_isSo_271 ?_
      refine z_iadd dX9_isSo_272 ?_
      refine ziload_9_2 dX9_isSo_273 ?_
      refine z_iadd dX9_isSo_274 ?_
      refine z_zald (9 * A + (X + x)) rfl (by decide) (by decide) (by omega) (by omega) dX9_isSo_275 ?_
      refine z_top (hf (X + x) hXX) ?_
      refine z_zret rfl (b01_01 _) ?_ dX9_isSo_276
      rw [hpost]
      refine ⟨zfr.rf, congrArg b01 ?_⟩
      rw [show w = 6 by omega]
      show _ = f ((x * n + y) / n * n + (x * n + y) / n)
      rw [d1, hX]
    · exfalso
      omega
  have loop : ∀ (c z : Nat) (l8 : Option zAV), z + c = n → zV zd_Model_isSo 1 20 [some (zr 9), some (zi i), some (zi x), some (zi y), some (zi ((9 * A : Nat) : Int)), some (zi (b01 (anF (fun z => f (X + z)) z))), some (zi (b01 (alF (fun z => f (X + z)) z))), some (zi z), l8] [] M post := by
    intro c
    induction c with
    | zero =>
      intro z l8 hz
      have e : z = n := by omega
      subst e
      have k := fin l8
      refine z_withR (fun hR => ?_)
      refine ziload_9_7 dX9_isSo_20 ?_
      refine zaload_9_0 dX9_isSo_22 ?_
      refine zg_Model_124 rfl dX9_isSo_23 ?_
      refine z_top hs ?_
      refine z_icmp_ge (tgt := 120) (by first | omega | exact hR.1 _ _ (by decide) | exact zrng_toInt _) (by first | omega | exact hR.1 _ _ (by decide) | exact zrng_toInt _) dX9_isSo_26 (by decide) (fun h26 => ?_) (fun h26 => ?_)
      · exact k
      · omega
    | succ c ih =>
      intro z l8 hz
      have hXz := hXn z (by omega)
      have e1 : anF (fun z => f (X + z)) (z + 1) = (anF (fun z => f (X + z)) z || f (X + z)) := rfl
      have e2 : alF (fun z => f (X + z)) (z + 1) = (alF (fun z => f (X + z)) z && f (X + z)) := rfl
      have k := ih (z + 1) (some (zi (b01 (f (X + z))))) (by omega)
      rw [e1, e2] at k
      generalize anF (fun z => f (X + z)) z = an at k ⊢
      generalize alF (fun z => f (X + z)) z = al at k ⊢
      have k114 : ∀ p q : Int, p = b01 (an || f (X + z)) → q = b01 (al && f (X + z)) → zV zd_Model_isSo 1 114 [some (zr 9), some (zi i), some (zi x), some (zi y), some (zi ((9 * A : Nat) : Int)), some (zi p), some (zi q), some (zi z), some (zi (b01 (f (X + z))))] [] M post := by
        intro p q hp hq
        subst hp
        subst hq
        refine z_withR (fun hR => ?_)
        refine ziinc_9_7 dX9_isSo_114 ?_
        refine z_goto (tgt := 20) dX9_isSo_117 (by decide) ?_
        exact k
      refine z_withR (fun hR => ?_)
      refine ziload_9_7 dX9_isSo_20 ?_
      refine zaload_9_0 dX9_isSo_22 ?_
      refine zg_Model_124 rfl dX9_isSo_23 ?_
      refine z_top hs ?_
      refine z_icmp_ge (tgt := 120) (by first | omega | exact hR.1 _ _ (by decide) | exact zrng_toInt _) (by first | omega | exact hR.1 _ _ (by decide) | exact zrng_toInt _) dX9_isSo_26 (by decide) (fun h26 => ?_) (fun h26 => ?_)
      · omega
      · refine zaload_9_0 dX9_isSo_29 ?_
        refine zg_Model_54 rfl dX9_isSo_30 ?_
        refine ziload_9_1 dX9_isSo_33 ?_
        refine z_iald _ rfl (by decide) (by decide) rfl (by omega) dX9_isSo_34 ?_
        refine z_top hw ?_
        refine z_if_ne (tgt := 61) (by first | omega | exact hR.1 _ _ (by decide) | exact zrng_toInt _) dX9_isSo_35 (by decide) (fun h35 => ?_) (fun h35 => ?_)
        · refine zaload_9_0 dX9_isSo_61 ?_
          refine zg_Model_66 rfl dX9_isSo_62 ?_
          refine ziload_9_4 dX9_isSo_65 ?_
          refine zaload_9_0 dX9_isSo_67 ?_
          refine zg_Model_124 rfl dX9_isSo_68 ?_
          refine z_top hs ?_
          refine ziload_9_2 dX9_isSo_71 ?_
          refine z_imul dX9_isSo_72 ?_
          refine z_iadd dX9_isSo_73 ?_
          refine ziload_9_7 dX9_isSo_74 ?_
          refine z_iadd dX9_isSo_76 ?_
          refine z_zald (9 * A + (X + z)) rfl (by decide) (by decide) (by omega) (by omega) dX9_isSo_77 ?_
          refine z_top (hf (X + z) hXz) ?_
          refine zistore_9_8 dX9_isSo_78 ?_
          refine ziload_9_5 dX9_isSo_80 ?_
          refine z_if_ne (tgt := 90) (b01_r _) dX9_isSo_82 (by decide) (fun h82 => ?_) (fun h82 => ?_)
          · have ha := b01_t h82
            refine z_iconst dX9_isSo_90 ?_
            refine z_goto (tgt := 95) dX9_isSo_91 (by decide) ?_
            refine zistore_9_5 dX9_isSo_95 ?_
            refine ziload_9_6 dX9_isSo_97 ?_
            refine z_if_eq (tgt := 111) (b01_r _) dX9_isSo_99 (by decide) (fun h99 => ?_) (fun h99 => ?_)
            · have hc := b01_f h99
              refine z_iconst dX9_isSo_111 ?_
              refine zistore_9_6 dX9_isSo_112 ?_
              exact k114 _ _ (by first | (rw [ha]; rfl) | (rw [ha, hb]; rfl)) (by first | (rw [hc]; rfl) | (rw [hc, hd]; rfl))
            · have hc := b01_t h99
              refine ziload_9_8 dX9_isSo_102 ?_
              refine z_if_eq (tgt := 111) (b01_r _) dX9_isSo_104 (by decide) (fun h104 => ?_) (fun h104 => ?_)
              · have hd := b01_f h104
                refine z_iconst dX9_isSo_111 ?_
                refine zistore_9_6 dX9_isSo_112 ?_
                exact k114 _ _ (by first | (rw [ha]; rfl) | (rw [ha, hb]; rfl)) (by first | (rw [hc]; rfl) | (rw [hc, hd]; rfl))
              · have hd := b01_t h104
                refine z_iconst dX9_isSo_107 ?_
                refine z_goto (tgt := 112) dX9_isSo_108 (by decide) ?_
                refine zistore_9_6 dX9_isSo_112 ?_
                exact k114 _ _ (by first | (rw [ha]; rfl) | (rw [ha, hb]; rfl)) (by first | (rw [hc]; rfl) | (rw [hc, hd]; rfl))
          · have ha := b01_f h82
            refine ziload_9_8 dX9_isSo_85 ?_
            refine z_if_eq (tgt := 94) (b01_r _) dX9_isSo_87 (by decide) (fun h87 => ?_) (fun h87 => ?_)
            · have hb := b01_f h87
              refine z_iconst dX9_isSo_94 ?_
              refine zistore_9_5 dX9_isSo_95 ?_
              refine ziload_9_6 dX9_isSo_97 ?_
              refine z_if_eq (tgt := 111) (b01_r _) dX9_isSo_99 (by decide) (fun h99 => ?_) (fun h99 => ?_)
              · have hc := b01_f h99
                refine z_iconst dX9_isSo_111 ?_
                refine zistore_9_6 dX9_isSo_112 ?_
                exact k114 _ _ (by first | (rw [ha]; rfl) | (rw [ha, hb]; rfl)) (by first | (rw [hc]; rfl) | (rw [hc, hd]; rfl))
              · have hc := b01_t h99
                refine ziload_9_8 dX9_isSo_102 ?_
                refine z_if_eq (tgt := 111) (b01_r _) dX9_isSo_104 (by decide) (fun h104 => ?_) (fun h104 => ?_)
                · have hd := b01_f h104
                  refine z_iconst dX9_isSo_111 ?_
                  refine zistore_9_6 dX9_isSo_112 ?_
                  exact k114 _ _ (by first | (rw [ha]; rfl) | (rw [ha, hb]; rfl)) (by first | (rw [hc]; rfl) | (rw [hc, hd]; rfl))
                · have hd := b01_t h104
                  refine z_iconst dX9_isSo_107 ?_
                  refine z_goto (tgt := 112) dX9_isSo_108 (by decide) ?_
                  refine zistore_9_6 dX9_isSo_112 ?_
                  exact k114 _ _ (by first | (rw [ha]; rfl) | (rw [ha, hb]; rfl)) (by first | (rw [hc]; rfl) | (rw [hc, hd]; rfl))
            · have hb := b01_t h87
              refine z_iconst dX9_isSo_90 ?_
              refine z_goto (tgt := 95) dX9_isSo_91 (by decide) ?_
              refine zistore_9_5 dX9_isSo_95 ?_
              refine ziload_9_6 dX9_isSo_97 ?_
              refine z_if_eq (tgt := 111) (b01_r _) dX9_isSo_99 (by decide) (fun h99 => ?_) (fun h99 => ?_)
              · have hc := b01_f h99
                refine z_iconst dX9_isSo_111 ?_
                refine zistore_9_6 dX9_isSo_112 ?_
                exact k114 _ _ (by first | (rw [ha]; rfl) | (rw [ha, hb]; rfl)) (by first | (rw [hc]; rfl) | (rw [hc, hd]; rfl))
              · have hc := b01_t h99
                refine ziload_9_8 dX9_isSo_102 ?_
                refine z_if_eq (tgt := 111) (b01_r _) dX9_isSo_104 (by decide) (fun h104 => ?_) (fun h104 => ?_)
                · have hd := b01_f h104
                  refine z_iconst dX9_isSo_111 ?_
                  refine zistore_9_6 dX9_isSo_112 ?_
                  exact k114 _ _ (by first | (rw [ha]; rfl) | (rw [ha, hb]; rfl)) (by first | (rw [hc]; rfl) | (rw [hc, hd]; rfl))
                · have hd := b01_t h104
                  refine z_iconst dX9_isSo_107 ?_
                  refine z_goto (tgt := 112) dX9_isSo_108 (by decide) ?_
                  refine zistore_9_6 dX9_isSo_112 ?_
                  exact k114 _ _ (by first | (rw [ha]; rfl) | (rw [ha, hb]; rfl)) (by first | (rw [hc]; rfl) | (rw [hc, hd]; rfl))
        · omega
  refine z_bipush dX9_isSo_0 (by decide) ?_
  refine zaload_9_0 dX9_isSo_2 ?_
  refine zg_Model_57 rfl dX9_isSo_3 ?_
  refine ziload_9_1 dX9_isSo_6 ?_
  refine z_iald _ rfl (by decide) (by decide) rfl (by omega) dX9_isSo_7 ?_
  refine z_top hA ?_
  refine z_imul dX9_isSo_8 ?_
  rw [show (9 : Int) * (A : Int) = ((9 * A : Nat) : Int) by omega]
  refine zistore_9_4 dX9_isSo_9 ?_
  refine z_iconst dX9_isSo_11 ?_
  refine zistore_9_5 dX9_isSo_12 ?_
  refine z_iconst dX9_isSo_14 ?_
  refine zistore_9_6 dX9_isSo_15 ?_
  refine z_iconst dX9_isSo_17 ?_
  refine zistore_9_7 dX9_isSo_18 ?_
  exact loop n 0 _ (by omega)
