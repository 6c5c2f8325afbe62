/-! what is shown -/
noncomputable def bGr (B : Nat → Nat → Nat) (r : Nat) : Nat → Nat := gR (B 1) (B 2) (B 4) (B 5) (B 0 0) (B 3 0) r
noncomputable def bRn (B : Nat → Nat → Nat) (r t u : Nat) : Int := rnF (B 1) (B 2) (B 4) (B 5) (B 0 0) (B 3 0) r t u
def bFs (B : Nat → Nat → Nat) (r : Nat) : Prop := fsh (B 1) (B 2) (B 4) (B 5) (B 0 0) (B 3 0) r
noncomputable def bLw (B : Nat → Nat → Nat) (t u : Nat) : Bool := lwB (B 1) (B 2) (B 4) (B 5) (B 0 0) (B 3 0) t u
def shS (M M1 : zMem) (B : Nat → Nat → Nat) (r : Nat) (N : Nat → Nat → Bool) : Prop := zfr [9, 61, 62, 63, 64] M M1 ∧ (∀ i, i ≠ 37 → M1 9 i = M 9 i) ∧ (∀ s, s < r → bFs B s) ∧ (∀ t, t < B 0 0 → M1 62 t = bGr B r t) ∧ (∀ t u, t < B 0 0 → u < B 0 0 → M1 61 (20 * t + u) = bRn B r t u) ∧ M1 9 37 = r ∧ (∀ t u, t < B 0 0 → u < B 0 0 → M1 64 (20 * t + u) = b01 (N t u)) ∧ (∀ t u, t < B 0 0 → u < B 0 0 → bLw B t u = true → N t u = true) ∧ ∀ t u, t < B 0 0 → u < B 0 0 → N t u = true → (bLw B t u = true ∨ bLw B u t = true) ∨ bGr B r t = bGr B r u
theorem sh_next {B : Nat → Nat → Nat} {r : Nat} {N : Nat → Nat → Bool} (hT : B 0 0 ≤ 20) (h1 : ∀ t u, t < B 0 0 → u < B 0 0 → bLw B t u = true → N t u = true) (h2 : ∀ t u, t < B 0 0 → u < B 0 0 → N t u = true → (bLw B t u = true ∨ bLw B u t = true) ∨ bGr B r t = bGr B r u) {g' : Nat → Nat} (hc : clo (B 0 0) (bGr B r) (fun x y => (N x y || ptB (B 1) (B 2) (bGr B r) x y) = true) g') : (∀ t, t < B 0 0 → g' t = bGr B (r + 1) t) ∧ ∀ t u, t < B 0 0 → u < B 0 0 → (N t u || ptB (B 1) (B 2) (bGr B r) t u) = true → bGr B (r + 1) t = bGr B (r + 1) u := by
  have hcl : ∀ t, t < B 0 0 → g' t = bGr B (r + 1) t := by
    refine clo.one (hc.to (fun f hf => ?_)) (gR_clo hT r)
    constructor
    · intro k x y hx hy e
      refine k x y hx hy ?_
      unfold eB at e
      rw [Bool.or_eq_true] at e ⊢
      exact e.imp (h1 x y hx hy) id
    · intro k x y hx hy e
      rw [Bool.or_eq_true] at e
      have kl : ∀ a b, a < B 0 0 → b < B 0 0 → bLw B a b = true → f a = f b := fun a b ha hb hz => k a b ha hb (by unfold eB; rw [Bool.or_eq_true]; exact Or.inl hz)
      rcases e with e | e
      · rcases h2 x y hx hy e with (q | q) | q
        · exact kl x y hx hy q
        · exact (kl y x hy hx q).symm
        · exact hf x y hx hy q
      · exact k x y hx hy (by unfold eB; rw [Bool.or_eq_true]; exact Or.inr e)
  refine ⟨hcl, fun t u ht hu e => ?_⟩
  rw [← hcl t ht, ← hcl u hu]
  exact hc.2.2.1 t u ht hu e
theorem sp_Model_layShown (M : zMem) (B : Nat → Nat → Nat) (h : abR M B) : zSp zd_Model_layShown 2 [zr 9] M (fun _ M' => zfr [9, 61, 62, 63, 64] M M' ∧ (∀ i, i ≠ 37 → M' 9 i = M 9 i) ∧ (∀ t, t < B 0 0 → M' 62 t = bG B t) ∧ (∀ t u, t < B 0 0 → u < B 0 0 → M' 61 (20 * t + u) = bRd B t u) ∧ M' 9 37 = bF B) := by
  refine zSp_in 3 [some (zr 9), none, none, none] rfl rfl (by decide +kernel) rfl ?_
  refine z_withR (fun hR => ?_)
  obtain ⟨t1, t2, t3, t4, t5⟩ := id h.1.1
  have hu := h.1.2.1
  have hJ := h.1.2.2.1
  have hP := h.1.2.2.2.1
  obtain ⟨post, hpost⟩ : ∃ post : Int → zMem → Prop, post = (fun (_ : Int) M' => zfr [9, 61, 62, 63, 64] M M' ∧ (∀ i, i ≠ 37 → M' 9 i = M 9 i) ∧ (∀ t, t < B 0 0 → M' 62 t = bG B t) ∧ (∀ t u, t < B 0 0 → u < B 0 0 → M' 61 (20 * t + u) = bRd B t u) ∧ M' 9 37 = bF B) := ⟨_, rfl⟩
  rw [← hpost]
  have hrs : ∀ r t u, bRn B (r + 1) t u = if bRn B r t u = -9 then (if bGr B (r + 1) t = bGr B (r + 1) u then ((r + 1 : Nat) : Int) else -9) else bRn B r t u := fun r t u => rfl
  have hri : ∀ r t u, t < B 0 0 → u < B 0 0 → (bRn B r t u = -9 ↔ ¬ bGr B r t = bGr B r u) ∧ -9 ≤ bRn B r t u ∧ bRn B r t u ≤ r := fun r t u ht hu => rnF_iff t3 r t u ht hu
  have pass : ∀ (r : Nat), (bFs B r → ∀ (M3 : zMem) (l2 l3 : Option zAV) (N : Nat → Nat → Bool), shS M M3 B (r + 1) N → zV zd_Model_layShown 2 77 [some (zr 9), some (zi 1), l2, l3] [] M3 post) → ∀ (M1 : zMem) (l2 l3 : Option zAV) (N : Nat → Nat → Bool), shS M M1 B r N → zV zd_Model_layShown 2 77 [some (zr 9), some (zi 1), l2, l3] [] M1 post := by
    intro r kont M1 l2 l3 N hS
    obtain ⟨f1, g9, hfs, hg, hr, h37, hN, hN1, hN2⟩ := hS
    have hr20 : r ≤ 20 := by
      have := fsh_sum (L := B 1) (R := B 2) (LA := B 4) (LB := B 5) (P := B 3 0) t3 r hfs
      omega
    have hmr : mr (B 0 0) (bGr B r) := gR_mr t3 r
    have hmr1 : mr (B 0 0) (bGr B (r + 1)) := gR_mr t3 (r + 1)
    have tm1 := h.1.1.fr f1 (g9 _ (by decide)) (by decide) (by decide)
    have fin : ¬ bFs B r → ∀ (M3 : zMem), zfr [9, 61, 62, 63, 64] M M3 → (∀ i, i ≠ 37 → M3 9 i = M 9 i) → (∀ t, t < B 0 0 → M3 62 t = bGr B (r + 1) t) → (∀ t u, t < B 0 0 → u < B 0 0 → M3 61 (20 * t + u) = bRn B (r + 1) t u) → M3 9 37 = r → post 0 M3 := by
      intro hno M3 f3 g3 h62 h61 h37
      rw [hpost]
      have er : r = bF B := frN_is t3 (by omega) hno hfs
      refine ⟨f3, g3, fun t ht => ?_, fun t u ht hu => ?_, by rw [← er]; exact h37⟩
      · rw [h62 t ht]
        have e2 : bGr B (r + 1) t = bGr B r t := gR_stop t3 hno t ht
        rw [e2]
        show ((bGr B r t : Nat) : Int) = (bGr B (bF B) t : Nat)
        rw [← er]
      · rw [h61 t u ht hu]
        show _ = bRn B (bF B) t u
        rw [← er, hrs]
        by_cases e9 : bRn B r t u = -9
        · rw [if_pos e9, e9]
          by_cases e2 : bGr B (r + 1) t = bGr B (r + 1) u
          · exact absurd ⟨t, u, ht, hu, e2, (hri r t u ht hu).1.mp e9⟩ hno
          · rw [if_neg e2]
        · rw [if_neg e9]
    have kl : ∀ (M0 : zMem) (N' : Nat → Nat → Bool), zfr [9, 61, 62, 63, 64] M M0 → (∀ i, i ≠ 37 → M0 9 i = M 9 i) → M0 9 37 = r → (∀ t, t < B 0 0 → M0 62 t = bGr B (r + 1) t) → (∀ t u, t < B 0 0 → u < B 0 0 → M0 64 (20 * t + u) = b01 (N' t u)) → (∀ t u, t < B 0 0 → u < B 0 0 → bLw B t u = true → N' t u = true) → (∀ t u, t < B 0 0 → u < B 0 0 → N' t u = true → bGr B (r + 1) t = bGr B (r + 1) u) → ∀ (c k : Nat) (M2 : zMem) (m : Bool) (l3 : Option zAV), k + c = 400 → zfr [61] M0 M2 → (∀ t u, t < B 0 0 → u < B 0 0 → M2 61 (20 * t + u) = if 20 * t + u < k then bRn B (r + 1) t u else bRn B r t u) → (m = true ↔ ∃ t u, t < B 0 0 ∧ u < B 0 0 ∧ 20 * t + u < k ∧ bGr B (r + 1) t = bGr B (r + 1) u ∧ bRn B r t u = -9) → zV zd_Model_layShown 2 93 [some (zr 9), some (zi (b01 m)), some (zi k), l3] [] M2 post := by
      intro M0 N' f0 g0 h37 h62 h64 hL hN' c
      have st : ∀ M2, zfr [61] M0 M2 → zfr [9, 61, 62, 63, 64] M M2 ∧ (∀ i, i ≠ 37 → M2 9 i = M 9 i) ∧ M2 9 37 = r ∧ (∀ t, t < B 0 0 → M2 62 t = bGr B (r + 1) t) ∧ (∀ t u, t < B 0 0 → u < B 0 0 → M2 64 (20 * t + u) = b01 (N' t u)) ∧ M2 9 0 = (B 0 0 : Nat) := by
        intro M2 f2
        have e9 := f2 9 (by decide)
        refine ⟨f0.tr f2 (fun _ z => z) (by decide), by rw [e9]; exact g0, by rw [e9]; exact h37, by rw [f2 62 (by decide)]; exact h62, by rw [f2 64 (by decide)]; exact h64, ?_⟩
        rw [e9, g0 _ (by decide)]; exact t1
      induction c with
      | zero =>
        intro k M2 m l3 hk f2 h2 hm
        obtain ⟨s1, s2, s3, s4, s5, s6⟩ := st M2 f2
        have h2' : ∀ t u, t < B 0 0 → u < B 0 0 → M2 61 (20 * t + u) = bRn B (r + 1) t u := fun t u ht hu => by rw [h2 t u ht hu, if_pos (by omega)]
        have hmf : m = true ↔ bFs B r := by
          rw [hm]
          constructor
          · rintro ⟨t, u, a1, a2, a3, a4, a5⟩; exact ⟨t, u, a1, a2, a4, (hri r t u a1 a2).1.mp a5⟩
          · rintro ⟨t, u, a1, a2, a4, a5⟩; exact ⟨t, u, a1, a2, by omega, a4, (hri r t u a1 a2).1.mpr a5⟩
        cases m with
        | true =>
          have hF := hmf.mp rfl
          have kk := fun l2 l3 => kont hF (zmu M2 9 37 ((r : Int) + 1)) l2 l3 N' ⟨s1.mu (by decide), fun i hi => by rw [zmu_ne _ _ _ _ hi]; exact s2 i hi, fun s hs => by
              by_cases e : s = r
              · rw [e]; exact hF
              · exact hfs s (by omega), by rw [zmu_other _ _ _ _ (by decide)]; exact s4, by rw [zmu_other _ _ _ _ (by decide)]; exact h2', zmu_same _ _ _ _, by rw [zmu_other _ _ _ _ (by decide)]; exact s5, hL, fun t u ht hu hz => Or.inr (hN' t u ht hu hz)⟩
          show zV zd_Model_layShown 2 93 [some (zr 9), some (zi 1), some (zi k), l3] [] M2 post
          refine z_withR (fun hR => ?_)
          refine ziload_4_2 dX9_layShown_93 ?_
          refine z_sipush dX9_layShown_94 (by decide) ?_
          refine z_icmp_ge (tgt := 184) (by first | omega | exact hR.1 _ _ (by decide) | exact zrng_toInt _) (by first | omega | exact hR.1 _ _ (by decide) | exact zrng_toInt _) dX9_layShown_97 (by decide) (fun h97 => ?_) (fun h97 => ?_)
          · refine zaload_4_0 dX9_layShown_184 ?_
            refine z_dup (fun _ => rfl) dX9_layShown_185 ?_
            refine zg_Model_258 rfl dX9_layShown_186 ?_
            refine z_top s3 ?_
            refine ziload_4_1 dX9_layShown_189 ?_
            refine z_if_eq (tgt := 197) (by first | omega | exact hR.1 _ _ (by decide) | exact zrng_toInt _) dX9_layShown_190 (by decide) (fun h190 => ?_) (fun h190 => ?_)
            · exact absurd h190 (by decide)
            · refine z_iconst dX9_layShown_193 ?_
              refine z_goto (tgt := 198) dX9_layShown_194 (by decide) ?_
              refine z_iadd dX9_layShown_198 ?_
              refine zp_Model_258 rfl (by first | omega | exact hR.1 _ _ (by decide) | exact zrng_toInt _) dX9_layShown_199 ?_
              refine z_withR (fun hR => ?_)
              refine z_goto (tgt := 77) dX9_layShown_202 (by decide) ?_
              exact kk _ _
          · omega
        | false =>
          have hF : ¬ bFs B r := fun z => by have := hmf.mpr z; cases this
          have kk := fin hF (zmu M2 9 37 ((r : Int) + 0)) (s1.mu (by decide)) (fun i hi => by rw [zmu_ne _ _ _ _ hi]; exact s2 i hi) (by rw [zmu_other _ _ _ _ (by decide)]; exact s4) (by rw [zmu_other _ _ _ _ (by decide)]; exact h2') (zmu_same _ _ _ _)
          show zV zd_Model_layShown 2 93 [some (zr 9), some (zi 0), some (zi k), l3] [] M2 post
          refine z_withR (fun hR => ?_)
          refine ziload_4_2 dX9_layShown_93 ?_
          refine z_sipush dX9_layShown_94 (by decide) ?_
          refine z_icmp_ge (tgt := 184) (by first | omega | exact hR.1 _ _ (by decide) | exact zrng_toInt _) (by first | omega | exact hR.1 _ _ (by decide) | exact zrng_toInt _) dX9_layShown_97 (by decide) (fun h97 => ?_) (fun h97 => ?_)
          · refine zaload_4_0 dX9_layShown_184 ?_
            refine z_dup (fun _ => rfl) dX9_layShown_185 ?_
            refine zg_Model_258 rfl dX9_layShown_186 ?_
            refine z_top s3 ?_
            refine ziload_4_1 dX9_layShown_189 ?_
            refine z_if_eq (tgt := 197) (by first | omega | exact hR.1 _ _ (by decide) | exact zrng_toInt _) dX9_layShown_190 (by decide) (fun h190 => ?_) (fun h190 => ?_)
            · refine z_iconst dX9_layShown_197 ?_
              refine z_iadd dX9_layShown_198 ?_
              refine zp_Model_258 rfl (by first | omega | exact hR.1 _ _ (by decide) | exact zrng_toInt _) dX9_layShown_199 ?_
              refine z_withR (fun hR => ?_)
              refine z_goto (tgt := 77) dX9_layShown_202 (by decide) ?_
              refine ziload_4_1 dX9_layShown_77 ?_
              refine z_if_eq (tgt := 205) (by first | omega | exact hR.1 _ _ (by decide) | exact zrng_toInt _) dX9_layShown_78 (by decide) (fun h78 => ?_) (fun h78 => ?_)
              · refine z_vret rfl ?_ dX9_layShown_205
                rw [hpost] at kk ⊢
                exact kk
              · exact absurd rfl h78
            · exact absurd rfl h190
          · omega
      | succ c ih =>
        intro k M2 m l3 hk f2 h2 hm
        obtain ⟨s1, s2, s3, s4, s5, s6⟩ := st M2 f2
        obtain ⟨A, hA⟩ : ∃ A, A = k / 20 := ⟨_, rfl⟩
        obtain ⟨D, hD⟩ : ∃ D, D = k % 20 := ⟨_, rfl⟩
        have eqk : ∀ t u, t < B 0 0 → u < B 0 0 → 20 * t + u = k → t = A ∧ u = D := fun t u ht hu e => by omega
        have k178 : ∀ (M3 : zMem) (m' : Bool) (l3 : Option zAV), zfr [61] M0 M3 → (∀ t u, t < B 0 0 → u < B 0 0 → M3 61 (20 * t + u) = if 20 * t + u < k + 1 then bRn B (r + 1) t u else bRn B r t u) → (m' = true ↔ (m = true ∨ (A < B 0 0 ∧ D < B 0 0 ∧ bGr B (r + 1) A = bGr B (r + 1) D ∧ bRn B r A D = -9))) → zV zd_Model_layShown 2 178 [some (zr 9), some (zi (b01 m')), some (zi k), l3] [] M3 post := by
          intro M3 m' l3 f3 h3 hm'
          refine z_withR (fun hR => ?_)
          refine ziinc_4_2 dX9_layShown_178 ?_
          refine z_goto (tgt := 93) dX9_layShown_181 (by decide) ?_
          refine ih (k + 1) M3 m' _ (by omega) f3 h3 ?_
          rw [hm', hm]
          constructor
          · rintro (⟨t, u, a1, a2, a3, a4, a5⟩ | ⟨a1, a2, a4, a5⟩)
            · exact ⟨t, u, a1, a2, by omega, a4, a5⟩
            · exact ⟨A, D, a1, a2, by omega, a4, a5⟩
          · rintro ⟨t, u, a1, a2, a3, a4, a5⟩
            by_cases e : 20 * t + u = k
            · obtain ⟨e1, e2⟩ := eqk t u a1 a2 e
              subst e1
              subst e2
              exact Or.inr ⟨a1, a2, a4, a5⟩
            · exact Or.inl ⟨t, u, a1, a2, by omega, a4, a5⟩
        have same : ∀ (l3 : Option zAV), ¬ (A < B 0 0 ∧ D < B 0 0 ∧ bGr B (r + 1) A = bGr B (r + 1) D ∧ bRn B r A D = -9) → zV zd_Model_layShown 2 178 [some (zr 9), some (zi (b01 m)), some (zi k), l3] [] M2 post := by
          intro l3 hno
          refine k178 M2 m l3 f2 (fun t u ht hu => ?_) ⟨Or.inl, fun z => z.resolve_right hno⟩
          rw [h2 t u ht hu]
          by_cases e : 20 * t + u = k
          · obtain ⟨e1, e2⟩ := eqk t u ht hu e
            rw [if_neg (by omega), if_pos (by omega), hrs]
            by_cases e9 : bRn B r t u = -9
            · rw [if_pos e9]
              rw [e1, e2] at e9 ⊢
              rw [if_neg (fun z => hno ⟨by omega, by omega, z, e9⟩)]
              exact e9
            · rw [if_neg e9]
          · by_cases e2 : 20 * t + u < k
            · rw [if_pos e2, if_pos (by omega)]
            · rw [if_neg e2, if_neg (by omega)]
        have k148 : ∀ (x : Int) (l3 : Option zAV), ((x = 1 ∧ (A < B 0 0 ∧ D < B 0 0 ∧ bGr B (r + 1) A = bGr B (r + 1) D)) ∨ (x = 0 ∧ ¬ (A < B 0 0 ∧ D < B 0 0 ∧ bGr B (r + 1) A = bGr B (r + 1) D))) → zV zd_Model_layShown 2 148 [some (zr 9), some (zi (b01 m)), some (zi k), l3] [zi x] M2 post := by
          intro x l3 hx
          refine z_withR (fun hR => ?_)
          refine zistore_4_3 dX9_layShown_148 ?_
          refine ziload_4_3 dX9_layShown_149 ?_
          refine z_if_eq (tgt := 178) (or_rng hx) dX9_layShown_150 (by decide) (fun h150 => ?_) (fun h150 => ?_)
          · have hno := or_no hx h150
            first
              | exact same _ (fun z => hno ⟨z.1, z.2.1, z.2.2.1⟩)
              | exact same _ (fun z => h161 z.2.2.2)
              | (refine k178 _ true _ (f2.mu (by decide)) (fun t u ht hu => ?_) ⟨fun _ => Or.inr ⟨y1, y2, y3, h161⟩, fun _ => rfl⟩
                 by_cases e : 20 * t + u = k
                 · obtain ⟨e1, e2⟩ := eqk t u ht hu e
                   rw [e1, e2, zmu_same, if_pos (by omega), hrs, if_pos h161, if_pos y3]
                   rfl
                 · rw [zmu_ne _ _ _ _ (by omega), h2 t u ht hu]
                   by_cases e2 : 20 * t + u < k
                   · rw [if_pos e2, if_pos (by omega)]
                   · rw [if_neg e2, if_neg (by omega)])
          · obtain ⟨y1, y2, y3⟩ := or_yes hx h150
            have hrAD := h2 A D y1 y2
            rw [if_neg (by omega)] at hrAD
            have hrr := (hri r A D y1 y2).2
            refine zaload_4_0 dX9_layShown_153 ?_
            refine zg_Model_93 rfl dX9_layShown_154 ?_
            refine ziload_4_2 dX9_layShown_157 ?_
            refine z_iald (20 * A + D) rfl (by decide) (by decide) (by omega) (by omega) dX9_layShown_158 ?_
            refine z_top hrAD ?_
            refine z_bipush dX9_layShown_159 (by decide) ?_
            refine z_icmp_ne (tgt := 178) (by first | omega | exact hR.1 _ _ (by decide) | exact zrng_toInt _) (by first | omega | exact hR.1 _ _ (by decide) | exact zrng_toInt _) dX9_layShown_161 (by decide) (fun h161 => ?_) (fun h161 => ?_)
            · first
                | exact same _ (fun z => hno ⟨z.1, z.2.1, z.2.2.1⟩)
                | exact same _ (fun z => h161 z.2.2.2)
                | (refine k178 _ true _ (f2.mu (by decide)) (fun t u ht hu => ?_) ⟨fun _ => Or.inr ⟨y1, y2, y3, h161⟩, fun _ => rfl⟩
                   by_cases e : 20 * t + u = k
                   · obtain ⟨e1, e2⟩ := eqk t u ht hu e
                     rw [e1, e2, zmu_same, if_pos (by omega), hrs, if_pos h161, if_pos y3]
                     rfl
                   · rw [zmu_ne _ _ _ _ (by omega), h2 t u ht hu]
                     by_cases e2 : 20 * t + u < k
                     · rw [if_pos e2, if_pos (by omega)]
                     · rw [if_neg e2, if_neg (by omega)])
            · refine zaload_4_0 dX9_layShown_164 ?_
              refine zg_Model_93 rfl dX9_layShown_165 ?_
              refine ziload_4_2 dX9_layShown_168 ?_
              refine zaload_4_0 dX9_layShown_169 ?_
              refine zg_Model_258 rfl dX9_layShown_170 ?_
              refine z_top s3 ?_
              refine z_iconst dX9_layShown_173 ?_
              refine z_iadd dX9_layShown_174 ?_
              refine z_iast (20 * A + D) (by decide) rfl (by decide) (by decide) (by omega) (by omega) (by first | omega | exact hR.1 _ _ (by decide) | exact zrng_toInt _) dX9_layShown_175 ?_
              refine z_withR (fun hR => ?_)
              refine z_iconst dX9_layShown_176 ?_
              refine zistore_4_1 dX9_layShown_177 ?_
              first
                | exact same _ (fun z => hno ⟨z.1, z.2.1, z.2.2.1⟩)
                | exact same _ (fun z => h161 z.2.2.2)
                | (refine k178 _ true _ (f2.mu (by decide)) (fun t u ht hu => ?_) ⟨fun _ => Or.inr ⟨y1, y2, y3, h161⟩, fun _ => rfl⟩
                   by_cases e : 20 * t + u = k
                   · obtain ⟨e1, e2⟩ := eqk t u ht hu e
                     rw [e1, e2, zmu_same, if_pos (by omega), hrs, if_pos h161, if_pos y3]
                     rfl
                   · rw [zmu_ne _ _ _ _ (by omega), h2 t u ht hu]
                     by_cases e2 : 20 * t + u < k
                     · rw [if_pos e2, if_pos (by omega)]
                     · rw [if_neg e2, if_neg (by omega)])
        have gA : A < B 0 0 → M2 62 A = (bGr B (r + 1) A : Nat) ∧ bGr B (r + 1) A ≤ A := fun z => ⟨s4 A z, (hmr1 A z).1⟩
        have gD : D < B 0 0 → M2 62 D = (bGr B (r + 1) D : Nat) ∧ bGr B (r + 1) D ≤ D := fun z => ⟨s4 D z, (hmr1 D z).1⟩
        refine z_withR (fun hR => ?_)
        refine ziload_4_2 dX9_layShown_93 ?_
        refine z_sipush dX9_layShown_94 (by decide) ?_
        refine z_icmp_ge (tgt := 184) (by first | omega | exact hR.1 _ _ (by decide) | exact zrng_toInt _) (by first | omega | exact hR.1 _ _ (by decide) | exact zrng_toInt _) dX9_layShown_97 (by decide) (fun h97 => ?_) (fun h97 => ?_)
        · omega
        · refine ziload_4_2 dX9_layShown_100 ?_
          refine z_bipush dX9_layShown_101 (by decide) ?_
          refine z_idiv (by omega) (by omega) dX9_layShown_103 ?_
          refine z_top (y := (A : Int)) (by omega) ?_
          refine zaload_4_0 dX9_layShown_104 ?_
          refine zg_Model_7 rfl dX9_layShown_105 ?_
          refine z_top s6 ?_
          refine z_icmp_ge (tgt := 147) (by first | omega | exact hR.1 _ _ (by decide) | exact zrng_toInt _) (by first | omega | exact hR.1 _ _ (by decide) | exact zrng_toInt _) dX9_layShown_108 (by decide) (fun h108 => ?_) (fun h108 => ?_)
          · have hx : ((0 : Int) = 1 ∧ (A < B 0 0 ∧ D < B 0 0 ∧ bGr B (r + 1) A = bGr B (r + 1) D)) ∨ ((0 : Int) = 0 ∧ ¬ (A < B 0 0 ∧ D < B 0 0 ∧ bGr B (r + 1) A = bGr B (r + 1) D)) := Or.inr ⟨rfl, fun z => by omega⟩
            refine z_iconst dX9_layShown_147 ?_
            exact k148 _ _ hx
          · have a1 : A < B 0 0 := by omega
            obtain ⟨gA1, gA2⟩ := gA a1
            refine ziload_4_2 dX9_layShown_111 ?_
            refine z_bipush dX9_layShown_112 (by decide) ?_
            refine z_irem (by omega) (by omega) dX9_layShown_114 ?_
            refine z_top (y := (D : Int)) (by omega) ?_
            refine zaload_4_0 dX9_layShown_115 ?_
            refine zg_Model_7 rfl dX9_layShown_116 ?_
            refine z_top s6 ?_
            refine z_icmp_ge (tgt := 147) (by first | omega | exact hR.1 _ _ (by decide) | exact zrng_toInt _) (by first | omega | exact hR.1 _ _ (by decide) | exact zrng_toInt _) dX9_layShown_119 (by decide) (fun h119 => ?_) (fun h119 => ?_)
            · have hx : ((0 : Int) = 1 ∧ (A < B 0 0 ∧ D < B 0 0 ∧ bGr B (r + 1) A = bGr B (r + 1) D)) ∨ ((0 : Int) = 0 ∧ ¬ (A < B 0 0 ∧ D < B 0 0 ∧ bGr B (r + 1) A = bGr B (r + 1) D)) := Or.inr ⟨rfl, fun z => by omega⟩
              refine z_iconst dX9_layShown_147 ?_
              exact k148 _ _ hx
            · have a2 : D < B 0 0 := by omega
              obtain ⟨gD1, gD2⟩ := gD a2
              refine zaload_4_0 dX9_layShown_122 ?_
              refine zg_Model_96 rfl dX9_layShown_123 ?_
              refine ziload_4_2 dX9_layShown_126 ?_
              refine z_bipush dX9_layShown_127 (by decide) ?_
              refine z_idiv (by omega) (by omega) dX9_layShown_129 ?_
              refine z_top (y := (A : Int)) (by omega) ?_
              refine z_iald _ rfl (by decide) (by decide) rfl (by omega) dX9_layShown_130 ?_
              refine z_top gA1 ?_
              refine zaload_4_0 dX9_layShown_131 ?_
              refine zg_Model_96 rfl dX9_layShown_132 ?_
              refine ziload_4_2 dX9_layShown_135 ?_
              refine z_bipush dX9_layShown_136 (by decide) ?_
              refine z_irem (by omega) (by omega) dX9_layShown_138 ?_
              refine z_top (y := (D : Int)) (by omega) ?_
              refine z_iald _ rfl (by decide) (by decide) rfl (by omega) dX9_layShown_139 ?_
              refine z_top gD1 ?_
              refine z_icmp_ne (tgt := 147) (by first | omega | exact hR.1 _ _ (by decide) | exact zrng_toInt _) (by first | omega | exact hR.1 _ _ (by decide) | exact zrng_toInt _) dX9_layShown_140 (by decide) (fun h140 => ?_) (fun h140 => ?_)
              · have hx : ((0 : Int) = 1 ∧ (A < B 0 0 ∧ D < B 0 0 ∧ bGr B (r + 1) A = bGr B (r + 1) D)) ∨ ((0 : Int) = 0 ∧ ¬ (A < B 0 0 ∧ D < B 0 0 ∧ bGr B (r + 1) A = bGr B (r + 1) D)) := Or.inr ⟨rfl, fun z => by omega⟩
                refine z_iconst dX9_layShown_147 ?_
                exact k148 _ _ hx
              · have hx : ((1 : Int) = 1 ∧ (A < B 0 0 ∧ D < B 0 0 ∧ bGr B (r + 1) A = bGr B (r + 1) D)) ∨ ((1 : Int) = 0 ∧ ¬ (A < B 0 0 ∧ D < B 0 0 ∧ bGr B (r + 1) A = bGr B (r + 1) D)) := Or.inl ⟨rfl, a1, a2, by omega⟩
                refine z_iconst dX9_layShown_143 ?_
                refine z_goto (tgt := 148) dX9_layShown_144 (by decide) ?_
                exact k148 _ _ hx
    refine z_withR (fun hR => ?_)
    refine ziload_4_1 dX9_layShown_77 ?_
    refine z_if_eq (tgt := 205) (by first | omega | exact hR.1 _ _ (by decide) | exact zrng_toInt _) dX9_layShown_78 (by decide) (fun h78 => ?_) (fun h78 => ?_)
    · exact absurd h78 (by decide)
    · refine z_iconst dX9_layShown_81 ?_
      refine zistore_4_1 dX9_layShown_82 ?_
      refine zaload_4_0 dX9_layShown_83 ?_
      refine zc_Model_261 rfl dX9_layShown_84 (by decide) (Nat.le_of_ble_eq_true rfl) (sp_Model_layParts M1 (B 1) (B 2) (bGr B r) N (B 0 0) tm1 hmr hg hN) (fun r84 M84 hq84 => ?_)
      refine z_withR (fun hR => ?_)
      obtain ⟨f84, n84⟩ := hq84
      refine zaload_4_0 dX9_layShown_87 ?_
      refine zc_Model_264 rfl dX9_layShown_88 (by decide) (Nat.le_of_ble_eq_true rfl) (sp_Model_joinAll M84 (bGr B r) (fun x y => N x y || ptB (B 1) (B 2) (bGr B r) x y) (B 0 0) (by rw [f84 9 (by decide)]; exact tm1.1) t3 hmr (by rw [f84 62 (by decide)]; exact hg) n84) (fun r88 M88 hq88 => ?_)
      refine z_withR (fun hR => ?_)
      obtain ⟨f88, g', c88, g88⟩ := hq88
      obtain ⟨n1, n2⟩ := sh_next t3 hN1 hN2 c88
      have ff : zfr [62, 64] M1 M88 := f84.tr f88 (by decide) (by decide)
      have e9 := ff 9 (by decide)
      refine z_iconst dX9_layShown_91 ?_
      refine zistore_4_2 dX9_layShown_92 ?_
      refine kl M88 (fun x y => N x y || ptB (B 1) (B 2) (bGr B r) x y) (f1.tr ff (fun _ z => z) (by decide)) (by rw [e9]; exact g9) (by rw [e9]; exact h37) (fun t ht => by rw [g88 t ht, n1 t ht]) (by rw [f88 64 (by decide)]; exact n84) (fun t u ht hu hz => ?_) n2 400 0 M88 false _ (by omega) zfr.rf (fun t u ht hu => ?_) ⟨(fun z => by cases z), fun ⟨t, u, _, _, z, _⟩ => absurd z (Nat.not_lt_zero _)⟩
      · show (N t u || _) = true
        rw [hN1 t u ht hu hz]
        rfl
      · rw [if_neg (Nat.not_lt_zero _), ff 61 (by decide)]
        exact hr t u ht hu
  have rloop : ∀ (c r : Nat) (M1 : zMem) (l2 l3 : Option zAV) (N : Nat → Nat → Bool), r + c = bF B → shS M M1 B r N → zV zd_Model_layShown 2 77 [some (zr 9), some (zi 1), l2, l3] [] M1 post := by
    obtain ⟨⟨h3, h4⟩, h5⟩ := frN_ok (L := B 1) (R := B 2) (LA := B 4) (LB := B 5) (P := B 3 0) t3 (by omega)
    intro c
    induction c with
    | zero =>
      intro r M1 l2 l3 N hr hS
      have er : r = bF B := by omega
      exact pass r (fun z => absurd z (by rw [er]; exact h3)) M1 l2 l3 N hS
    | succ c ih =>
      intro r M1 l2 l3 N hr hS
      exact pass r (fun _ M3 l2 l3 N' hS' => ih (r + 1) M3 l2 l3 N' (by omega) hS') M1 l2 l3 N hS
  have k66 : ∀ (M1 : zMem) (l1 : Option zAV), zfr [61, 62, 64] M M1 → (∀ t, t < 20 → M1 62 t = t) → (∀ k, k < 400 → (M1 61 k = if k / 20 = k % 20 then 0 else -9) ∧ M1 64 k = 0) → zV zd_Model_layShown 2 66 [some (zr 9), l1, none, none] [] M1 post := by
    intro M1 l1 f1 h62 h61
    have e9 := f1 9 (by decide)
    refine z_withR (fun hR => ?_)
    refine zaload_4_0 dX9_layShown_66 ?_
    refine zc_Model_255 rfl dX9_layShown_67 (by decide) (Nat.le_of_ble_eq_true rfl) (sp_Model_layLaws M1 B (h.1.1.fr f1 (by rw [e9]) (by decide) (by decide)) hu (by rw [f1 37 (by decide)]; exact hJ) (hP.fr f1 (by rw [e9]) (by decide) (by decide)) (fun k hk => (h61 k hk).2)) (fun r67 M67 hq67 => ?_)
    refine z_withR (fun hR => ?_)
    obtain ⟨f67, n67⟩ := hq67
    have ff : zfr [61, 62, 63, 64] M M67 := f1.tr f67 (by decide) (by decide)
    refine zaload_4_0 dX9_layShown_70 ?_
    refine z_iconst dX9_layShown_71 ?_
    refine zp_Model_258 rfl (by first | omega | exact hR.1 _ _ (by decide) | exact zrng_toInt _) dX9_layShown_72 ?_
    refine z_withR (fun hR => ?_)
    refine z_iconst dX9_layShown_75 ?_
    refine zistore_4_1 dX9_layShown_76 ?_
    refine rloop (bF B) 0 _ _ _ (fun t u => bLw B t u || bLw B u t) (by omega) ⟨(ff.up (by decide) : zfr [9, 61, 62, 63, 64] M M67).mu (by decide), fun i hi => by rw [zmu_ne _ _ _ _ hi, ff 9 (by decide)], fun s hs => absurd hs (Nat.not_lt_zero _), fun t ht => ?_, fun t u ht hu => ?_, zmu_same _ _ _ _, fun t u ht hu => ?_, fun t u ht hu hz => (by show (bLw B t u || bLw B u t) = true; rw [hz]; rfl), fun t u ht hu hz => Or.inl ((Bool.or_eq_true _ _).mp hz)⟩
    · rw [zmu_other _ _ _ _ (by decide), f67 62 (by decide)]
      exact h62 t (by omega)
    · rw [zmu_other _ _ _ _ (by decide), f67 61 (by decide), (h61 (20 * t + u) (by omega)).1]
      show _ = if t = u then (0 : Int) else -9
      by_cases e : t = u
      · rw [if_pos (by omega), if_pos e]
      · rw [if_neg (by omega), if_neg e]
    · rw [zmu_other _ _ _ _ (by decide)]
      show _ = b01 (bLw B t u || bLw B u t)
      rcases n67 t u ht hu with ⟨z1, z2⟩ | ⟨z1, z2⟩
      · rw [z1, show (bLw B t u || bLw B u t) = true by rw [Bool.or_eq_true]; exact z2]
        rfl
      · rw [z1, show (bLw B t u || bLw B u t) = false by rw [Bool.eq_false_iff]; intro q; rw [Bool.or_eq_true] at q; exact z2 q]
        rfl
  have l23 : ∀ (c k : Nat) (M1 : zMem), k + c = 400 → zfr [61, 62, 64] M M1 → (∀ t, t < 20 → M1 62 t = t) → (∀ k', k' < k → (M1 61 k' = if k' / 20 = k' % 20 then 0 else -9) ∧ M1 64 k' = 0) → zV zd_Model_layShown 2 23 [some (zr 9), some (zi k), none, none] [] M1 post := by
    intro c
    induction c with
    | zero =>
      intro k M1 hk f1 h62 h61
      refine z_withR (fun hR => ?_)
      refine ziload_4_1 dX9_layShown_23 ?_
      refine z_sipush dX9_layShown_24 (by decide) ?_
      refine z_icmp_ge (tgt := 66) (by first | omega | exact hR.1 _ _ (by decide) | exact zrng_toInt _) (by first | omega | exact hR.1 _ _ (by decide) | exact zrng_toInt _) dX9_layShown_27 (by decide) (fun h27 => ?_) (fun h27 => ?_)
      · exact k66 M1 _ f1 h62 (fun k' hk' => h61 k' (by omega))
      · omega
    | succ c ih =>
      intro k M1 hk f1 h62 h61
      refine z_withR (fun hR => ?_)
      refine ziload_4_1 dX9_layShown_23 ?_
      refine z_sipush dX9_layShown_24 (by decide) ?_
      refine z_icmp_ge (tgt := 66) (by first | omega | exact hR.1 _ _ (by decide) | exact zrng_toInt _) (by first | omega | exact hR.1 _ _ (by decide) | exact zrng_toInt _) dX9_layShown_27 (by decide) (fun h27 => ?_) (fun h27 => ?_)
      · omega
      · refine zaload_4_0 dX9_layShown_30 ?_
        refine zg_Model_93 rfl dX9_layShown_31 ?_
        refine ziload_4_1 dX9_layShown_34 ?_
        refine ziload_4_1 dX9_layShown_35 ?_
        refine z_bipush dX9_layShown_36 (by decide) ?_
        refine z_idiv (by omega) (by omega) dX9_layShown_38 ?_
        refine ziload_4_1 dX9_layShown_39 ?_
        refine z_bipush dX9_layShown_40 (by decide) ?_
        refine z_irem (by omega) (by omega) dX9_layShown_42 ?_
        refine z_icmp_ne (tgt := 50) (by first | omega | exact hR.1 _ _ (by decide) | exact zrng_toInt _) (by first | omega | exact hR.1 _ _ (by decide) | exact zrng_toInt _) dX9_layShown_43 (by decide) (fun h43 => ?_) (fun h43 => ?_)
        · have hv : (-9 : Int) = if k / 20 = k % 20 then 0 else -9 := by rw [if_neg (by omega)]
          refine z_bipush dX9_layShown_50 (by decide) ?_
          refine z_top hv ?_
          refine z_iast _ (by decide) rfl (by decide) (by decide) rfl (by omega) (by split <;> decide) dX9_layShown_52 ?_
          refine z_withR (fun hR => ?_)
          refine zaload_4_0 dX9_layShown_53 ?_
          refine zg_Model_102 rfl dX9_layShown_54 ?_
          refine ziload_4_1 dX9_layShown_57 ?_
          refine z_iconst dX9_layShown_58 ?_
          refine z_zast _ (by decide) rfl (by decide) (by decide) rfl (by omega) (by first | omega | exact hR.1 _ _ (by decide) | exact zrng_toInt _) dX9_layShown_59 ?_
          refine z_withR (fun hR => ?_)
          refine ziinc_4_1 dX9_layShown_60 ?_
          refine z_goto (tgt := 23) dX9_layShown_63 (by decide) ?_
          refine ih (k + 1) _ (by omega) ((f1.mu (by decide)).mu (by decide)) (fun t ht => ?_) (fun k' hk' => ?_)
          · rw [zmu_other _ _ _ _ (by decide), zmu_other _ _ _ _ (by decide)]; exact h62 t ht
          · by_cases e : k' = k
            · subst e
              refine ⟨?_, zmu_same _ _ _ _⟩
              rw [zmu_other _ _ _ _ (by decide), zmu_same]
            · have h1 := h61 k' (by omega)
              refine ⟨?_, ?_⟩
              · rw [zmu_other _ _ _ _ (by decide), zmu_ne _ _ _ _ e]; exact h1.1
              · rw [zmu_ne _ _ _ _ e, zmu_other _ _ _ _ (by decide)]; exact h1.2
        · have hv : (0 : Int) = if k / 20 = k % 20 then 0 else -9 := by rw [if_pos (by omega)]
          refine z_iconst dX9_layShown_46 ?_
          refine z_goto (tgt := 52) dX9_layShown_47 (by decide) ?_
          refine z_top hv ?_
          refine z_iast _ (by decide) rfl (by decide) (by decide) rfl (by omega) (by split <;> decide) dX9_layShown_52 ?_
          refine z_withR (fun hR => ?_)
          refine zaload_4_0 dX9_layShown_53 ?_
          refine zg_Model_102 rfl dX9_layShown_54 ?_
          refine ziload_4_1 dX9_layShown_57 ?_
          refine z_iconst dX9_layShown_58 ?_
          refine z_zast _ (by decide) rfl (by decide) (by decide) rfl (by omega) (by first | omega | exact hR.1 _ _ (by decide) | exact zrng_toInt _) dX9_layShown_59 ?_
          refine z_withR (fun hR => ?_)
          refine ziinc_4_1 dX9_layShown_60 ?_
          refine z_goto (tgt := 23) dX9_layShown_63 (by decide) ?_
          refine ih (k + 1) _ (by omega) ((f1.mu (by decide)).mu (by decide)) (fun t ht => ?_) (fun k' hk' => ?_)
          · rw [zmu_other _ _ _ _ (by decide), zmu_other _ _ _ _ (by decide)]; exact h62 t ht
          · by_cases e : k' = k
            · subst e
              refine ⟨?_, zmu_same _ _ _ _⟩
              rw [zmu_other _ _ _ _ (by decide), zmu_same]
            · have h1 := h61 k' (by omega)
              refine ⟨?_, ?_⟩
              · rw [zmu_other _ _ _ _ (by decide), zmu_ne _ _ _ _ e]; exact h1.1
              · rw [zmu_ne _ _ _ _ e, zmu_other _ _ _ _ (by decide)]; exact h1.2
  have l2 : ∀ (c t : Nat) (M1 : zMem), t + c = 20 → zfr [61, 62, 64] M M1 → (∀ t', t' < t → M1 62 t' = t') → zV zd_Model_layShown 2 2 [some (zr 9), some (zi t), none, none] [] M1 post := by
    intro c
    induction c with
    | zero =>
      intro t M1 ht f1 h62
      refine z_withR (fun hR => ?_)
      refine ziload_4_1 dX9_layShown_2 ?_
      refine z_bipush dX9_layShown_3 (by decide) ?_
      refine z_icmp_ge (tgt := 21) (by first | omega | exact hR.1 _ _ (by decide) | exact zrng_toInt _) (by first | omega | exact hR.1 _ _ (by decide) | exact zrng_toInt _) dX9_layShown_5 (by decide) (fun h5 => ?_) (fun h5 => ?_)
      · refine z_iconst dX9_layShown_21 ?_
        refine zistore_4_1 dX9_layShown_22 ?_
        exact l23 400 0 M1 (by omega) f1 (fun t' ht' => h62 t' (by omega)) (fun k' hk' => absurd hk' (Nat.not_lt_zero _))
      · omega
    | succ c ih =>
      intro t M1 ht f1 h62
      refine z_withR (fun hR => ?_)
      refine ziload_4_1 dX9_layShown_2 ?_
      refine z_bipush dX9_layShown_3 (by decide) ?_
      refine z_icmp_ge (tgt := 21) (by first | omega | exact hR.1 _ _ (by decide) | exact zrng_toInt _) (by first | omega | exact hR.1 _ _ (by decide) | exact zrng_toInt _) dX9_layShown_5 (by decide) (fun h5 => ?_) (fun h5 => ?_)
      · omega
      · refine zaload_4_0 dX9_layShown_8 ?_
        refine zg_Model_96 rfl dX9_layShown_9 ?_
        refine ziload_4_1 dX9_layShown_12 ?_
        refine ziload_4_1 dX9_layShown_13 ?_
        refine z_iast _ (by decide) rfl (by decide) (by decide) rfl (by omega) (by first | omega | exact hR.1 _ _ (by decide) | exact zrng_toInt _) dX9_layShown_14 ?_
        refine z_withR (fun hR => ?_)
        refine ziinc_4_1 dX9_layShown_15 ?_
        refine z_goto (tgt := 2) dX9_layShown_18 (by decide) ?_
        refine ih (t + 1) _ (by omega) (f1.mu (by decide)) (fun t' ht' => ?_)
        by_cases e : t' = t
        · rw [e, zmu_same]
        · rw [zmu_ne _ _ _ _ e]; exact h62 t' (by omega)
  refine z_iconst dX9_layShown_0 ?_
  refine zistore_4_1 dX9_layShown_1 ?_
  exact l2 20 0 M (by omega) zfr.rf (fun t' ht' => absurd ht' (Nat.not_lt_zero _))
