theorem al_iff {B : Nat → Nat → Nat} {s : Nat} (hw : wfT (B 1) (B 2) (B 0 0)) (hlw : ∀ l, l < B 3 0 → B 4 l < B 0 0 ∧ B 5 l < B 0 0) (hsw : ∀ l, l < B 12 s → B 13 (6 * s + l) < B 0 0 ∧ B 14 (6 * s + l) < B 0 0) : (alF (fun p => bKp B p == skP B s p) 19700 = true ↔ ∀ e, e < 3341 → wK B e = sK B s e) ∧ (alF (fun p => bKp B p == skP B s (pt p)) 19700 = true ↔ ∀ e, e < 3341 → wK B e = sK B s (tn e)) := by
  constructor
  · rw [alF_iff]
    constructor
    · intro h e he
      have h1 := beq_iff_eq.mp (h (pe e) (pe_ok he).1)
      rw [← wK_pE hw hlw, ← sK_pE hw hsw, pE_pe he] at h1
      exact h1
    · intro h p hp
      rw [beq_iff_eq, ← wK_pE hw hlw, ← sK_pE hw hsw]
      exact h _ (pE_ok p).1
  · rw [alF_iff]
    constructor
    · intro h e he
      have h1 := beq_iff_eq.mp (h (pe e) (pe_ok he).1)
      rw [← wK_pE hw hlw, ← sK_pE hw hsw, pE_pe he, pE_pt_pe he] at h1
      exact h1
    · intro h p hp
      rw [beq_iff_eq, ← wK_pE hw hlw, ← sK_pE hw hsw, pE_pt]
      exact h _ (pE_ok p).1
theorem alF_end {f : Nat → Bool} {k n : Nat} (hk : k ≤ n) (h : alF f k = false) : alF f n = false := by
  rw [Bool.eq_false_iff] at h ⊢
  intro hz
  exact h (alF_iff.mpr (fun z hz2 => alF_iff.mp hz z (by omega)))
noncomputable def orN (B : Nat → Nat → Nat) (s p : Nat) : Nat := bm (fun l => !kp (B 1) (B 2) (pz p) (pq p) (B 13 (6 * s + l)) (B 14 (6 * s + l))) (B 12 s)
theorem orN_zero {B : Nat → Nat → Nat} {s p : Nat} : orN B s p = 0 ↔ skP B s p = true := by
  unfold orN skP
  rw [bm_zero, decide_eq_true_iff]
  refine forall_congr' (fun l => forall_congr' (fun _ => ?_))
  simp
theorem beq_b {a b : Bool} {V W : Nat} (ha : V = 0 ↔ a = true) (hb : W = 0 ↔ b = true) : (a == b) = decide (V = 0 ↔ W = 0) := by
  cases a <;> cases b <;> simp at ha hb ⊢ <;> omega
theorem sp_Model_same (M : zMem) (B : Nat → Nat → Nat) (s : Int) (hsr : zrng s) (h : abR M B) : zSp zd_Model_same 4 [zr 9, zi s] M (fun r M' => rOK M M' B r (fSame B s)) := by
  refine zSp_in 3 [some (zr 9), some (zi s), none, none, none] rfl rfl (by decide +kernel) rfl ?_
  refine z_withR (fun hR => ?_)
  have hP6 := h.1.2.2.2.1.2.1
  have hw := h.1.1.2.2.2.1
  have hlw := h.lw
  have t20 := h.1.1.2.2.1
  have hsl := h.1.2.2.2.2.2.2
  obtain ⟨post, hpost⟩ : ∃ post : Int → zMem → Prop, post = (fun (r : Int) M' => rOK M M' B r (fSame B s)) := ⟨_, rfl⟩
  rw [← hpost]
  have hbl : ∀ k, brN B k < 2 ^ 6 := fun k => Nat.lt_of_lt_of_le (bm_lt _ _) (Nat.pow_le_pow_right (by decide) hP6)
  have lp : ∀ (s' : Nat), s = s' → s' < 2 → ∀ (M0 : zMem), zfr [9, 40, 41, 42, 43, 44, 45, 46, 59, 60] M M0 → abR M0 B → laid M0 B → (∀ p, p < 19700 → M0 44 p = (orN B s' p : Nat)) → ∀ (c k : Nat) (M1 : zMem), k + c = 19700 → zfr [9, 40] M0 M1 → (∀ i, i ≠ 8 → M1 9 i = M0 9 i) → zV zd_Model_same 4 97 [some (zr 9), some (zi s'), some (zi (b01 (alF (fun p => bKp B p == skP B s' p) k))), some (zi (b01 (alF (fun p => bKp B p == skP B s' (pt p)) k))), some (zi k)] [] M1 post := by
    intro s' es hs' M0 f0 a0 l0 o0 c
    subst es
    have hol : ∀ k, orN B s' k < 2 ^ 6 := fun k => Nat.lt_of_lt_of_le (bm_lt _ _) (Nat.pow_le_pow_right (by decide) (hsl s' hs').2.1)
    obtain ⟨ai1, ai2⟩ := al_iff (s := s') hw hlw (fun l hl => ((hsl s' hs').2.2 l hl).2)
    obtain ⟨Sf, hSf⟩ : ∃ Sf : Nat → Bool, Sf = (fun p => bKp B p == skP B s' p) := ⟨_, rfl⟩
    obtain ⟨Af, hAf⟩ : ∃ Af : Nat → Bool, Af = (fun p => bKp B p == skP B s' (pt p)) := ⟨_, rfl⟩
    rw [← hSf] at ai1 ⊢
    rw [← hAf] at ai2 ⊢
    have k209 : ∀ (M1 : zMem) (k : Nat) (l4 : Option zAV), k ≤ 19700 → zfr [9, 40] M0 M1 → (∀ i, i ≠ 8 → M1 9 i = M0 9 i) → (k = 19700 ∨ (alF Sf k = false ∧ alF Af k = false)) → zV zd_Model_same 4 209 [some (zr 9), some (zi s'), some (zi (b01 (alF Sf k))), some (zi (b01 (alF Af k))), l4] [] M1 post := by
      intro M1 k l4 hk19 f1 g1 hk
      have e1 : alF Sf k = alF Sf 19700 := by
        rcases hk with e | ⟨e, _⟩
        · rw [e]
        · rw [e, alF_end hk19 e]
      have e2 : alF Af k = alF Af 19700 := by
        rcases hk with e | ⟨_, e⟩
        · rw [e]
        · rw [e, alF_end hk19 e]
      rw [e1, e2]
      have fin : ∀ r : Int, r = (@ite _ (∀ e, e < 3341 → wK B e = sK B s' e) (Classical.propDecidable _) 1 (@ite _ (∀ e, e < 3341 → wK B e = sK B s' (tn e)) (Classical.propDecidable _) 2 0)) → post r M1 := by
        intro r hr
        rw [hpost]
        refine ⟨?_, f0.tr f1 (by decide) (by decide), a0.1.fr f1 (by decide) (g1 _ (by decide)) (g1 _ (by decide)) (g1 _ (by decide)), a0.2.fr f1 (by decide) (g1 _ (by decide)) (g1 _ (by decide)) (g1 _ (by decide))⟩
        unfold fSame
        rw [if_pos (show inR (s' : Int) 2 from ⟨by omega, by omega⟩), Int.toNat_natCast]
        exact hr
      refine z_withR (fun hR => ?_)
      refine ziload_5_2 dX9_same_209 ?_
      refine z_if_eq (tgt := 217) (b01_r _) dX9_same_210 (by decide) (fun h210 => ?_) (fun h210 => ?_)
      · have y := b01_f h210
        have y' : ¬ ∀ e, e < 3341 → wK B e = sK B s' e := fun z => by rw [ai1.mpr z] at y; exact absurd y (by decide)
        refine ziload_5_3 dX9_same_217 ?_
        refine z_if_eq (tgt := 225) (b01_r _) dX9_same_218 (by decide) (fun h218 => ?_) (fun h218 => ?_)
        · have z := b01_f h218
          have z' : ¬ ∀ e, e < 3341 → wK B e = sK B s' (tn e) := fun q => by rw [ai2.mpr q] at z; exact absurd z (by decide)
          refine z_iconst dX9_same_225 ?_
          refine z_iret rfl ?_ dX9_same_226
          refine fin _ ?_
          first
            | (rw [if_pos y']; done)
            | (rw [if_neg y', if_pos z']; done)
            | (rw [if_neg y', if_neg z']; done)
        · have z' := ai2.mp (b01_t h218)
          refine z_iconst dX9_same_221 ?_
          refine z_goto (tgt := 226) dX9_same_222 (by decide) ?_
          refine z_iret rfl ?_ dX9_same_226
          refine fin _ ?_
          first
            | (rw [if_pos y']; done)
            | (rw [if_neg y', if_pos z']; done)
            | (rw [if_neg y', if_neg z']; done)
      · have y' := ai1.mp (b01_t h210)
        refine z_iconst dX9_same_213 ?_
        refine z_goto (tgt := 226) dX9_same_214 (by decide) ?_
        refine z_iret rfl ?_ dX9_same_226
        refine fin _ ?_
        first
          | (rw [if_pos y']; done)
          | (rw [if_neg y', if_pos z']; done)
          | (rw [if_neg y', if_neg z']; done)
    induction c with
    | zero =>
      intro k M1 hk f1 g1
      refine z_withR (fun hR => ?_)
      refine ziload_5_4 dX9_same_97 ?_
      refine z_sipush dX9_same_99 (by decide) ?_
      refine z_icmp_ge (tgt := 209) (by first | omega | exact hR.1 _ _ (by decide) | exact zrng_toInt _) (by first | omega | exact hR.1 _ _ (by decide) | exact zrng_toInt _) dX9_same_102 (by decide) (fun h102 => ?_) (fun h102 => ?_)
      · exact k209 M1 k _ (by omega) f1 g1 (Or.inl (by omega))
      · omega
    | succ c ih =>
      intro k M1 hk f1 g1
      have hb1 : M1 43 k = (brN B k : Nat) := by rw [f1 43 (by decide)]; exact l0.1 k (by omega)
      have ho1 : M1 44 k = (orN B s' k : Nat) := by rw [f1 44 (by decide)]; exact o0 k (by omega)
      have hl1 := hbl k
      have hl2 := hol k
      have hl3 := hol (pt k)
      have hpt := (pt_ok k).2.2
      have eS : alF Sf (k + 1) = (alF Sf k && decide (brN B k = 0 ↔ orN B s' k = 0)) := by
        rw [alF, ← beq_b (brN_zero (B := B) (p := k)) (orN_zero (B := B) (s := s') (p := k)), hSf]
      have eA : alF Af (k + 1) = (alF Af k && decide (brN B k = 0 ↔ orN B s' (pt k) = 0)) := by
        rw [alF, ← beq_b (brN_zero (B := B) (p := k)) (orN_zero (B := B) (s := s') (p := pt k)), hAf]
      have kN := fun M2 f2 g2 => ih (k + 1) M2 (by omega) f2 g2
      rw [eS, eA] at kN
      have kE := k209 M1 k (some (zi k)) (by omega) f1 g1
      generalize alF Sf k = S0 at kN kE ⊢
      generalize alF Af k = A0 at kN kE ⊢
      obtain ⟨V, hV⟩ : ∃ V, V = brN B k := ⟨_, rfl⟩
      obtain ⟨W1, hW1⟩ : ∃ W1, W1 = orN B s' k := ⟨_, rfl⟩
      obtain ⟨W2, hW2⟩ : ∃ W2, W2 = orN B s' (pt k) := ⟨_, rfl⟩
      have ho0 := o0 (pt k) hpt
      rw [← hV] at hb1 hl1 kN
      rw [← hW1] at ho1 hl2 kN
      rw [← hW2] at hl3 kN ho0
      have k202 : ∀ (M2 : zMem) (x : Int) (l3 : Option zAV), zfr [9, 40] M0 M2 → (∀ i, i ≠ 8 → M2 9 i = M0 9 i) → x = b01 (A0 && decide (V = 0 ↔ W2 = 0)) → zV zd_Model_same 4 202 [some (zr 9), some (zi s'), some (zi (b01 (S0 && decide (V = 0 ↔ W1 = 0)))), l3, some (zi k)] [zi x] M2 post := by
        intro M2 x l3 f2 g2 hx
        subst hx
        refine z_withR (fun hR => ?_)
        refine zistore_5_3 dX9_same_202 ?_
        refine ziinc_5_4 dX9_same_203 ?_
        refine z_goto (tgt := 97) dX9_same_206 (by decide) ?_
        exact kN M2 f2 g2
      have k155 : ∀ (x : Int) (l2 : Option zAV), x = b01 (S0 && decide (V = 0 ↔ W1 = 0)) → zV zd_Model_same 4 155 [some (zr 9), some (zi s'), l2, some (zi (b01 A0)), some (zi k)] [zi x] M1 post := by
        intro x l2 hx
        subst hx
        refine z_withR (fun hR => ?_)
        refine zistore_5_2 dX9_same_155 ?_
        refine ziload_5_3 dX9_same_156 ?_
        refine z_if_eq (tgt := 201) (b01_r _) dX9_same_157 (by decide) (fun h157 => ?_) (fun h157 => ?_)
        · have hA := b01_f h157
          have hx : (0 : Int) = b01 (A0 && decide (V = 0 ↔ W2 = 0)) := by rw [hA]; rfl
          refine z_iconst dX9_same_201 ?_
          first
            | exact k202 M1 _ _ f1 g1 hx
            | exact k202 M182 _ _ ff gg hx
        · have hA := b01_t h157
          refine zaload_5_0 dX9_same_160 ?_
          refine zg_Model_39 rfl dX9_same_161 ?_
          refine ziload_5_4 dX9_same_164 ?_
          refine z_iald _ rfl (by decide) (by decide) rfl (by omega) dX9_same_166 ?_
          refine z_top hb1 ?_
          refine z_if_ne (tgt := 174) (by first | omega | exact hR.1 _ _ (by decide) | exact zrng_toInt _) dX9_same_167 (by decide) (fun h167 => ?_) (fun h167 => ?_)
          · refine z_iconst dX9_same_174 ?_
            refine zaload_5_0 dX9_same_175 ?_
            refine zg_Model_42 rfl dX9_same_176 ?_
            refine zaload_5_0 dX9_same_179 ?_
            refine ziload_5_4 dX9_same_180 ?_
            refine zc_Model_249 rfl dX9_same_182 (by decide) (Nat.le_of_ble_eq_true rfl) (sp_Model_turned M1 k (by omega)) (fun r182 M182 hq182 => ?_)
            refine z_withR (fun hR => ?_)
            obtain ⟨f182, g182, q182⟩ := hq182
            subst q182
            have ff : zfr [9, 40] M0 M182 := f1.tr f182 (by decide) (by decide)
            have gg : ∀ i, i ≠ 8 → M182 9 i = M0 9 i := fun i hi => by rw [g182 i hi]; exact g1 i hi
            have hb2 : M182 44 (pt k) = (W2 : Nat) := by rw [ff 44 (by decide)]; exact ho0
            refine z_iald _ rfl (by decide) (by decide) rfl (by omega) dX9_same_185 ?_
            refine z_top hb2 ?_
            refine z_if_ne (tgt := 193) (by first | omega | exact hR.1 _ _ (by decide) | exact zrng_toInt _) dX9_same_186 (by decide) (fun h186 => ?_) (fun h186 => ?_)
            · refine z_iconst dX9_same_193 ?_
              refine z_icmp_ne (tgt := 201) (by first | omega | exact hR.1 _ _ (by decide) | exact zrng_toInt _) (by first | omega | exact hR.1 _ _ (by decide) | exact zrng_toInt _) dX9_same_194 (by decide) (fun h194 => ?_) (fun h194 => ?_)
              · have hd : ¬ (V = 0 ↔ W2 = 0) := by omega
                have hx : (0 : Int) = b01 (A0 && decide (V = 0 ↔ W2 = 0)) := by rw [decide_eq_false hd, Bool.and_false]; rfl
                refine z_iconst dX9_same_201 ?_
                first
                  | exact k202 M1 _ _ f1 g1 hx
                  | exact k202 M182 _ _ ff gg hx
              · have hd : (V = 0 ↔ W2 = 0) := by omega
                have hx : (1 : Int) = b01 (A0 && decide (V = 0 ↔ W2 = 0)) := by rw [decide_eq_true hd, hA]; rfl
                refine z_iconst dX9_same_197 ?_
                refine z_goto (tgt := 202) dX9_same_198 (by decide) ?_
                first
                  | exact k202 M1 _ _ f1 g1 hx
                  | exact k202 M182 _ _ ff gg hx
            · refine z_iconst dX9_same_189 ?_
              refine z_goto (tgt := 194) dX9_same_190 (by decide) ?_
              refine z_icmp_ne (tgt := 201) (by first | omega | exact hR.1 _ _ (by decide) | exact zrng_toInt _) (by first | omega | exact hR.1 _ _ (by decide) | exact zrng_toInt _) dX9_same_194 (by decide) (fun h194 => ?_) (fun h194 => ?_)
              · have hd : ¬ (V = 0 ↔ W2 = 0) := by omega
                have hx : (0 : Int) = b01 (A0 && decide (V = 0 ↔ W2 = 0)) := by rw [decide_eq_false hd, Bool.and_false]; rfl
                refine z_iconst dX9_same_201 ?_
                first
                  | exact k202 M1 _ _ f1 g1 hx
                  | exact k202 M182 _ _ ff gg hx
              · have hd : (V = 0 ↔ W2 = 0) := by omega
                have hx : (1 : Int) = b01 (A0 && decide (V = 0 ↔ W2 = 0)) := by rw [decide_eq_true hd, hA]; rfl
                refine z_iconst dX9_same_197 ?_
                refine z_goto (tgt := 202) dX9_same_198 (by decide) ?_
                first
                  | exact k202 M1 _ _ f1 g1 hx
                  | exact k202 M182 _ _ ff gg hx
          · refine z_iconst dX9_same_170 ?_
            refine z_goto (tgt := 175) dX9_same_171 (by decide) ?_
            refine zaload_5_0 dX9_same_175 ?_
            refine zg_Model_42 rfl dX9_same_176 ?_
            refine zaload_5_0 dX9_same_179 ?_
            refine ziload_5_4 dX9_same_180 ?_
            refine zc_Model_249 rfl dX9_same_182 (by decide) (Nat.le_of_ble_eq_true rfl) (sp_Model_turned M1 k (by omega)) (fun r182 M182 hq182 => ?_)
            refine z_withR (fun hR => ?_)
            obtain ⟨f182, g182, q182⟩ := hq182
            subst q182
            have ff : zfr [9, 40] M0 M182 := f1.tr f182 (by decide) (by decide)
            have gg : ∀ i, i ≠ 8 → M182 9 i = M0 9 i := fun i hi => by rw [g182 i hi]; exact g1 i hi
            have hb2 : M182 44 (pt k) = (W2 : Nat) := by rw [ff 44 (by decide)]; exact ho0
            refine z_iald _ rfl (by decide) (by decide) rfl (by omega) dX9_same_185 ?_
            refine z_top hb2 ?_
            refine z_if_ne (tgt := 193) (by first | omega | exact hR.1 _ _ (by decide) | exact zrng_toInt _) dX9_same_186 (by decide) (fun h186 => ?_) (fun h186 => ?_)
            · refine z_iconst dX9_same_193 ?_
              refine z_icmp_ne (tgt := 201) (by first | omega | exact hR.1 _ _ (by decide) | exact zrng_toInt _) (by first | omega | exact hR.1 _ _ (by decide) | exact zrng_toInt _) dX9_same_194 (by decide) (fun h194 => ?_) (fun h194 => ?_)
              · have hd : ¬ (V = 0 ↔ W2 = 0) := by omega
                have hx : (0 : Int) = b01 (A0 && decide (V = 0 ↔ W2 = 0)) := by rw [decide_eq_false hd, Bool.and_false]; rfl
                refine z_iconst dX9_same_201 ?_
                first
                  | exact k202 M1 _ _ f1 g1 hx
                  | exact k202 M182 _ _ ff gg hx
              · have hd : (V = 0 ↔ W2 = 0) := by omega
                have hx : (1 : Int) = b01 (A0 && decide (V = 0 ↔ W2 = 0)) := by rw [decide_eq_true hd, hA]; rfl
                refine z_iconst dX9_same_197 ?_
                refine z_goto (tgt := 202) dX9_same_198 (by decide) ?_
                first
                  | exact k202 M1 _ _ f1 g1 hx
                  | exact k202 M182 _ _ ff gg hx
            · refine z_iconst dX9_same_189 ?_
              refine z_goto (tgt := 194) dX9_same_190 (by decide) ?_
              refine z_icmp_ne (tgt := 201) (by first | omega | exact hR.1 _ _ (by decide) | exact zrng_toInt _) (by first | omega | exact hR.1 _ _ (by decide) | exact zrng_toInt _) dX9_same_194 (by decide) (fun h194 => ?_) (fun h194 => ?_)
              · have hd : ¬ (V = 0 ↔ W2 = 0) := by omega
                have hx : (0 : Int) = b01 (A0 && decide (V = 0 ↔ W2 = 0)) := by rw [decide_eq_false hd, Bool.and_false]; rfl
                refine z_iconst dX9_same_201 ?_
                first
                  | exact k202 M1 _ _ f1 g1 hx
                  | exact k202 M182 _ _ ff gg hx
              · have hd : (V = 0 ↔ W2 = 0) := by omega
                have hx : (1 : Int) = b01 (A0 && decide (V = 0 ↔ W2 = 0)) := by rw [decide_eq_true hd, hA]; rfl
                refine z_iconst dX9_same_197 ?_
                refine z_goto (tgt := 202) dX9_same_198 (by decide) ?_
                first
                  | exact k202 M1 _ _ f1 g1 hx
                  | exact k202 M182 _ _ ff gg hx
      have k113 : zV zd_Model_same 4 113 [some (zr 9), some (zi s'), some (zi (b01 S0)), some (zi (b01 A0)), some (zi k)] [] M1 post := by
        refine z_withR (fun hR => ?_)
        refine ziload_5_2 dX9_same_113 ?_
        refine z_if_eq (tgt := 154) (b01_r _) dX9_same_114 (by decide) (fun h114 => ?_) (fun h114 => ?_)
        · have hS := b01_f h114
          have hx : (0 : Int) = b01 (S0 && decide (V = 0 ↔ W1 = 0)) := by rw [hS]; rfl
          refine z_iconst dX9_same_154 ?_
          exact k155 _ _ hx
        · have hS := b01_t h114
          refine zaload_5_0 dX9_same_117 ?_
          refine zg_Model_39 rfl dX9_same_118 ?_
          refine ziload_5_4 dX9_same_121 ?_
          refine z_iald _ rfl (by decide) (by decide) rfl (by omega) dX9_same_123 ?_
          refine z_top hb1 ?_
          refine z_if_ne (tgt := 131) (by first | omega | exact hR.1 _ _ (by decide) | exact zrng_toInt _) dX9_same_124 (by decide) (fun h124 => ?_) (fun h124 => ?_)
          · refine z_iconst dX9_same_131 ?_
            refine zaload_5_0 dX9_same_132 ?_
            refine zg_Model_42 rfl dX9_same_133 ?_
            refine ziload_5_4 dX9_same_136 ?_
            refine z_iald _ rfl (by decide) (by decide) rfl (by omega) dX9_same_138 ?_
            refine z_top ho1 ?_
            refine z_if_ne (tgt := 146) (by first | omega | exact hR.1 _ _ (by decide) | exact zrng_toInt _) dX9_same_139 (by decide) (fun h139 => ?_) (fun h139 => ?_)
            · refine z_iconst dX9_same_146 ?_
              refine z_icmp_ne (tgt := 154) (by first | omega | exact hR.1 _ _ (by decide) | exact zrng_toInt _) (by first | omega | exact hR.1 _ _ (by decide) | exact zrng_toInt _) dX9_same_147 (by decide) (fun h147 => ?_) (fun h147 => ?_)
              · have hd : ¬ (V = 0 ↔ W1 = 0) := by omega
                have hx : (0 : Int) = b01 (S0 && decide (V = 0 ↔ W1 = 0)) := by rw [decide_eq_false hd, Bool.and_false]; rfl
                refine z_iconst dX9_same_154 ?_
                exact k155 _ _ hx
              · have hd : (V = 0 ↔ W1 = 0) := by omega
                have hx : (1 : Int) = b01 (S0 && decide (V = 0 ↔ W1 = 0)) := by rw [decide_eq_true hd, hS]; rfl
                refine z_iconst dX9_same_150 ?_
                refine z_goto (tgt := 155) dX9_same_151 (by decide) ?_
                exact k155 _ _ hx
            · refine z_iconst dX9_same_142 ?_
              refine z_goto (tgt := 147) dX9_same_143 (by decide) ?_
              refine z_icmp_ne (tgt := 154) (by first | omega | exact hR.1 _ _ (by decide) | exact zrng_toInt _) (by first | omega | exact hR.1 _ _ (by decide) | exact zrng_toInt _) dX9_same_147 (by decide) (fun h147 => ?_) (fun h147 => ?_)
              · have hd : ¬ (V = 0 ↔ W1 = 0) := by omega
                have hx : (0 : Int) = b01 (S0 && decide (V = 0 ↔ W1 = 0)) := by rw [decide_eq_false hd, Bool.and_false]; rfl
                refine z_iconst dX9_same_154 ?_
                exact k155 _ _ hx
              · have hd : (V = 0 ↔ W1 = 0) := by omega
                have hx : (1 : Int) = b01 (S0 && decide (V = 0 ↔ W1 = 0)) := by rw [decide_eq_true hd, hS]; rfl
                refine z_iconst dX9_same_150 ?_
                refine z_goto (tgt := 155) dX9_same_151 (by decide) ?_
                exact k155 _ _ hx
          · refine z_iconst dX9_same_127 ?_
            refine z_goto (tgt := 132) dX9_same_128 (by decide) ?_
            refine zaload_5_0 dX9_same_132 ?_
            refine zg_Model_42 rfl dX9_same_133 ?_
            refine ziload_5_4 dX9_same_136 ?_
            refine z_iald _ rfl (by decide) (by decide) rfl (by omega) dX9_same_138 ?_
            refine z_top ho1 ?_
            refine z_if_ne (tgt := 146) (by first | omega | exact hR.1 _ _ (by decide) | exact zrng_toInt _) dX9_same_139 (by decide) (fun h139 => ?_) (fun h139 => ?_)
            · refine z_iconst dX9_same_146 ?_
              refine z_icmp_ne (tgt := 154) (by first | omega | exact hR.1 _ _ (by decide) | exact zrng_toInt _) (by first | omega | exact hR.1 _ _ (by decide) | exact zrng_toInt _) dX9_same_147 (by decide) (fun h147 => ?_) (fun h147 => ?_)
              · have hd : ¬ (V = 0 ↔ W1 = 0) := by omega
                have hx : (0 : Int) = b01 (S0 && decide (V = 0 ↔ W1 = 0)) := by rw [decide_eq_false hd, Bool.and_false]; rfl
                refine z_iconst dX9_same_154 ?_
                exact k155 _ _ hx
              · have hd : (V = 0 ↔ W1 = 0) := by omega
                have hx : (1 : Int) = b01 (S0 && decide (V = 0 ↔ W1 = 0)) := by rw [decide_eq_true hd, hS]; rfl
                refine z_iconst dX9_same_150 ?_
                refine z_goto (tgt := 155) dX9_same_151 (by decide) ?_
                exact k155 _ _ hx
            · refine z_iconst dX9_same_142 ?_
              refine z_goto (tgt := 147) dX9_same_143 (by decide) ?_
              refine z_icmp_ne (tgt := 154) (by first | omega | exact hR.1 _ _ (by decide) | exact zrng_toInt _) (by first | omega | exact hR.1 _ _ (by decide) | exact zrng_toInt _) dX9_same_147 (by decide) (fun h147 => ?_) (fun h147 => ?_)
              · have hd : ¬ (V = 0 ↔ W1 = 0) := by omega
                have hx : (0 : Int) = b01 (S0 && decide (V = 0 ↔ W1 = 0)) := by rw [decide_eq_false hd, Bool.and_false]; rfl
                refine z_iconst dX9_same_154 ?_
                exact k155 _ _ hx
              · have hd : (V = 0 ↔ W1 = 0) := by omega
                have hx : (1 : Int) = b01 (S0 && decide (V = 0 ↔ W1 = 0)) := by rw [decide_eq_true hd, hS]; rfl
                refine z_iconst dX9_same_150 ?_
                refine z_goto (tgt := 155) dX9_same_151 (by decide) ?_
                exact k155 _ _ hx
      refine z_withR (fun hR => ?_)
      refine ziload_5_4 dX9_same_97 ?_
      refine z_sipush dX9_same_99 (by decide) ?_
      refine z_icmp_ge (tgt := 209) (by first | omega | exact hR.1 _ _ (by decide) | exact zrng_toInt _) (by first | omega | exact hR.1 _ _ (by decide) | exact zrng_toInt _) dX9_same_102 (by decide) (fun h102 => ?_) (fun h102 => ?_)
      · omega
      · refine ziload_5_2 dX9_same_105 ?_
        refine z_if_ne (tgt := 113) (b01_r _) dX9_same_106 (by decide) (fun h106 => ?_) (fun h106 => ?_)
        · exact k113
        · refine ziload_5_3 dX9_same_109 ?_
          refine z_if_eq (tgt := 209) (b01_r _) dX9_same_110 (by decide) (fun h110 => ?_) (fun h110 => ?_)
          · exact kE (Or.inr ⟨b01_f h106, b01_f h110⟩)
          · exact k113
  have cp : ∀ (s' : Nat), s = s' → s' < 2 → ∀ (M0 : zMem), zfr [9, 40, 41, 42, 43, 45, 46] M M0 → abR M0 B → laid M0 B → ∀ (c l : Nat) (M1 : zMem), l + c = B 12 s' → zfr [59, 60] M0 M1 → (∀ l', l' < l → M1 59 l' = (B 13 (6 * s' + l') : Nat) ∧ M1 60 l' = (B 14 (6 * s' + l') : Nat)) → zV zd_Model_same 4 18 [some (zr 9), some (zi s'), some (zi l), none, none] [] M1 post := by
    intro s' es hs' M0 f0 a0 l0 c
    have k0 := lp s' es hs'
    subst es
    obtain ⟨s1, s2, s3⟩ := a0.1.2.2.2.2.2.2 s' hs'
    induction c with
    | zero =>
      intro l M1 hl f1 hc
      have e56 : M1 56 s' = (B 12 s' : Nat) := by rw [f1 56 (by decide)]; exact s1
      have g9 : M1 9 = M0 9 := f1 9 (by decide)
      have a1 : abR M1 B := ⟨a0.1.fr f1 (by decide) (by rw [g9]) (by rw [g9]) (by rw [g9]), a0.2.fr f1 (by decide) (by rw [g9]) (by rw [g9]) (by rw [g9])⟩
      have l1 := l0.fr f1 (by rw [g9]) (by decide) (by decide)
      refine z_withR (fun hR => ?_)
      refine ziload_5_2 dX9_same_18 ?_
      refine zaload_5_0 dX9_same_19 ?_
      refine zg_Model_78 rfl dX9_same_20 ?_
      refine ziload_5_1 dX9_same_23 ?_
      refine z_iald _ rfl (by decide) (by decide) rfl (by omega) dX9_same_24 ?_
      refine z_top e56 ?_
      refine z_icmp_ge (tgt := 68) (by first | omega | exact hR.1 _ _ (by decide) | exact zrng_toInt _) (by first | omega | exact hR.1 _ _ (by decide) | exact zrng_toInt _) dX9_same_25 (by decide) (fun h25 => ?_) (fun h25 => ?_)
      · refine zaload_5_0 dX9_same_68 ?_
        refine zaload_5_0 dX9_same_69 ?_
        refine zg_Model_42 rfl dX9_same_70 ?_
        refine zaload_5_0 dX9_same_73 ?_
        refine zg_Model_87 rfl dX9_same_74 ?_
        refine zaload_5_0 dX9_same_77 ?_
        refine zg_Model_90 rfl dX9_same_78 ?_
        refine zaload_5_0 dX9_same_81 ?_
        refine zg_Model_78 rfl dX9_same_82 ?_
        refine ziload_5_1 dX9_same_85 ?_
        refine z_iald _ rfl (by decide) (by decide) rfl (by omega) dX9_same_86 ?_
        refine z_top e56 ?_
        refine zc_Model_153 rfl dX9_same_87 (by decide) (Nat.le_of_ble_eq_true rfl) (sp_Model_layBroken2 M1 (B 1) (B 2) (fun l => B 13 (6 * s' + l)) (fun l => B 14 (6 * s' + l)) (B 0 0) (B 12 s') a1.1.1 s2 (fun l' hl' => ⟨hc l' (by omega), (s3 l' hl').2⟩)) (fun r87 M87 hq87 => ?_)
        refine z_withR (fun hR => ?_)
        obtain ⟨f87, g87, b87⟩ := hq87
        refine z_iconst dX9_same_90 ?_
        refine zistore_5_2 dX9_same_91 ?_
        refine z_iconst dX9_same_92 ?_
        refine zistore_5_3 dX9_same_93 ?_
        refine z_iconst dX9_same_94 ?_
        refine zistore_5_4 dX9_same_95 ?_
        exact k0 M87 ((f0.tr f1 (by decide) (by decide) : zfr [9, 40, 41, 42, 43, 45, 46, 59, 60] M M1).tr f87 (by decide) (by decide)) ⟨a1.1.fr f87 (by decide) (g87 _ (by decide)) (g87 _ (by decide)) (g87 _ (by decide)), a1.2.fr f87 (by decide) (g87 _ (by decide)) (g87 _ (by decide)) (g87 _ (by decide))⟩ (l1.fr f87 (g87 _ (by decide)) (by decide) (by decide)) b87 19700 0 M87 (by omega) zfr.rf (fun _ _ => rfl)
      · omega
    | succ c ih =>
      intro l M1 hl f1 hc
      have e56 : M1 56 s' = (B 12 s' : Nat) := by rw [f1 56 (by decide)]; exact s1
      have eA : M1 57 (6 * s' + l) = (B 13 (6 * s' + l) : Nat) := by rw [f1 57 (by decide)]; exact (s3 l (by omega)).1.1
      have eB : M1 58 (6 * s' + l) = (B 14 (6 * s' + l) : Nat) := by rw [f1 58 (by decide)]; exact (s3 l (by omega)).1.2
      have hAB := (s3 l (by omega)).2
      refine z_withR (fun hR => ?_)
      refine ziload_5_2 dX9_same_18 ?_
      refine zaload_5_0 dX9_same_19 ?_
      refine zg_Model_78 rfl dX9_same_20 ?_
      refine ziload_5_1 dX9_same_23 ?_
      refine z_iald _ rfl (by decide) (by decide) rfl (by omega) dX9_same_24 ?_
      refine z_top e56 ?_
      refine z_icmp_ge (tgt := 68) (by first | omega | exact hR.1 _ _ (by decide) | exact zrng_toInt _) (by first | omega | exact hR.1 _ _ (by decide) | exact zrng_toInt _) dX9_same_25 (by decide) (fun h25 => ?_) (fun h25 => ?_)
      · omega
      · refine zaload_5_0 dX9_same_28 ?_
        refine zg_Model_87 rfl dX9_same_29 ?_
        refine ziload_5_2 dX9_same_32 ?_
        refine zaload_5_0 dX9_same_33 ?_
        refine zg_Model_81 rfl dX9_same_34 ?_
        refine z_bipush dX9_same_37 (by decide) ?_
        refine ziload_5_1 dX9_same_39 ?_
        refine z_imul dX9_same_40 ?_
        refine ziload_5_2 dX9_same_41 ?_
        refine z_iadd dX9_same_42 ?_
        refine z_iald (6 * s' + l) rfl (by decide) (by decide) (by omega) (by omega) dX9_same_43 ?_
        refine z_top eA ?_
        refine z_iast _ (by decide) rfl (by decide) (by decide) rfl (by omega) (by first | omega | exact hR.1 _ _ (by decide) | exact zrng_toInt _) dX9_same_44 ?_
        refine z_withR (fun hR => ?_)
        refine zaload_5_0 dX9_same_45 ?_
        refine zg_Model_90 rfl dX9_same_46 ?_
        refine ziload_5_2 dX9_same_49 ?_
        refine zaload_5_0 dX9_same_50 ?_
        refine zg_Model_84 rfl dX9_same_51 ?_
        refine z_bipush dX9_same_54 (by decide) ?_
        refine ziload_5_1 dX9_same_56 ?_
        refine z_imul dX9_same_57 ?_
        refine ziload_5_2 dX9_same_58 ?_
        refine z_iadd dX9_same_59 ?_
        refine z_iald (6 * s' + l) rfl (by decide) (by decide) (by omega) (by omega) dX9_same_60 ?_
        refine z_top (y := (B 14 (6 * s' + l) : Int)) (by rw [zmu_other _ _ _ _ (by decide)]; exact eB) ?_
        refine z_iast _ (by decide) rfl (by decide) (by decide) rfl (by omega) (by first | omega | exact hR.1 _ _ (by decide) | exact zrng_toInt _) dX9_same_61 ?_
        refine z_withR (fun hR => ?_)
        refine ziinc_5_2 dX9_same_62 ?_
        refine z_goto (tgt := 18) dX9_same_65 (by decide) ?_
        refine ih (l + 1) _ (by omega) ((f1.mu (by decide)).mu (by decide)) (fun l' hl' => ?_)
        rw [zmu_other (zmu M1 59 l _) 60 l _ (show (59 : Nat) ≠ 60 by decide)]
        by_cases e : l' = l
        · rw [e, zmu_same, zmu_same]; exact ⟨rfl, rfl⟩
        · rw [zmu_ne _ _ _ _ e, zmu_ne _ _ _ _ e, zmu_other _ _ _ _ (by decide)]; exact hc l' (by omega)
  refine ziload_5_1 dX9_same_0 ?_
  refine z_i2l (by first | omega | exact hR.1 _ _ (by decide) | exact zrng_toInt _) dX9_same_1 ?_
  refine z_lconst 0 dX9_same_2 rfl ?_
  refine z_lconst 1 dX9_same_3 rfl ?_
  refine zc_Model_105 rfl dX9_same_4 (by decide) (Nat.le_of_ble_eq_true rfl) (sp_Model_in M s 0 1 hsr (by decide) (by decide)) (fun r4 M4 hq4 => ?_)
  refine z_withR (fun hR => ?_)
  have e4 := hq4.1.symm
  subst e4
  have q4 := hq4.2
  have q4 := or_if q4
  refine z_if_ne (tgt := 12) (or_rng q4) dX9_same_7 (by decide) (fun h7 => ?_) (fun h7 => ?_)
  · have y0 := or_yes q4 h7
    obtain ⟨s', hs'⟩ : ∃ s' : Nat, s = s' := ⟨s.toNat, by omega⟩
    refine zaload_5_0 dX9_same_12 ?_
    refine zc_Model_175 rfl dX9_same_13 (by decide) (Nat.le_of_ble_eq_true rfl) (sp_Model_layAll M B h.1.1 h.1.2.2.2.1 h.cache) (fun r13 M13 hq13 => ?_)
    refine z_withR (fun hR => ?_)
    obtain ⟨f12, g12, i12, l12, c12⟩ := hq13
    have hab := h.after f12 g12 i12 l12 c12
    refine z_iconst dX9_same_16 ?_
    refine zistore_5_2 dX9_same_17 ?_
    have k := cp s' hs' (by omega) M13 f12 hab l12 (B 12 s') 0 M13 (by omega) zfr.rf (fun l h => absurd h (Nat.not_lt_zero _))
    rw [← hs'] at k
    exact k
  · have y0 := or_no q4 h7
    refine z_iconst dX9_same_10 ?_
    refine z_iret rfl ?_ dX9_same_11
    rw [hpost]
    unfold fSame
    rw [if_neg (fun z => y0 ⟨z.1, by have := z.2; omega⟩)]
    exact ⟨rfl, zfr.rf, h⟩
