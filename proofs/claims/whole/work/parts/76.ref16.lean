/-! the rows as one line -/
theorem lP_mono (q : Nat → Bool) {v w : Nat} (h : v ≤ w) : lP q v ≤ lP q w := by
  obtain ⟨d, rfl⟩ := Nat.exists_eq_add_of_le h
  exact fb_sm_mono _ _ _
theorem lP_lt {q : Nat → Bool} {m w j : Nat} (hw : w < m) (hj : j < lQ q w) : lP q w + j < lP q m := by
  have h1 := lP_mono q (show w + 1 ≤ m from hw)
  have h2 : lP q (w + 1) = lP q w + lQ q w := rfl
  omega
theorem flat_one {q : Nat → Bool} {w w' j j' : Nat} (hj : j < lQ q w) (hj' : j' < lQ q w') (e : lP q w + j = lP q w' + j') : w = w' ∧ j = j' := by
  rcases Nat.lt_trichotomy w w' with h | h | h
  · have := lP_lt h hj; omega
  · subst h; exact ⟨rfl, by omega⟩
  · have := lP_lt h hj'; omega
noncomputable def flB (q : Nat → Bool) (F : Nat → Nat → Bool) (k : Nat) : Bool := @decide (∃ w j, j < lQ q w ∧ k = lP q w + j ∧ F w j = true) (Classical.propDecidable _)
theorem flB_at {q : Nat → Bool} {F : Nat → Nat → Bool} {w j : Nat} (hj : j < lQ q w) : flB q F (lP q w + j) = F w j := by
  unfold flB
  rw [Bool.eq_iff_iff, @decide_eq_true_iff _ (Classical.propDecidable _)]
  constructor
  · rintro ⟨w', j', h1, h2, h3⟩
    obtain ⟨rfl, rfl⟩ := flat_one hj h1 h2
    exact h3
  · intro h
    exact ⟨w, j, hj, rfl, h⟩
theorem flat_ex {q : Nat → Bool} : ∀ {m k : Nat}, k < lP q m → ∃ w j, w < m ∧ j < lQ q w ∧ k = lP q w + j
  | 0, k, h => absurd h (Nat.not_lt_zero _)
  | m + 1, k, h => by
    have e : lP q (m + 1) = lP q m + lQ q m := rfl
    by_cases h2 : k < lP q m
    · obtain ⟨w, j, a, b, c⟩ := flat_ex h2
      exact ⟨w, j, by omega, b, c⟩
    · exact ⟨m, k - lP q m, by omega, by omega, by omega⟩
theorem flB_ct {q : Nat → Bool} {F : Nat → Nat → Bool} : ∀ w, fb_ct (flB q F) (lP q w) = lC q F w
  | 0 => rfl
  | w + 1 => by
    have e : lP q (w + 1) = lP q w + lQ q w := rfl
    have e2 : lC q F (w + 1) = lC q F w + fb_ct (F w) (lQ q w) := rfl
    rw [e, fb_ct_split, flB_ct w, e2]
    congr 1
    exact fb_ct_cong (fun j hj => flB_at hj)
noncomputable def rwF (B : Nat → Nat → Nat) (i : Nat) : Nat → Bool := flB (wK B) (fun w => bS B (lE (wK B) w) i)
theorem rwR.flat {M : zMem} {B : Nat → Nat → Nat} {r i k : Nat} (h : rwR M B r) (hi : i < r) (hk : k < lP (wK B) (lS (wK B))) : M 53 (360 * i + k) = b01 (rwF B i k) := by
  obtain ⟨w, j, h1, h2, rfl⟩ := flat_ex hk
  unfold rwF
  rw [flB_at h2, ← Nat.add_assoc]
  exact h i hi w h1 j h2
theorem rwR.of {M : zMem} {B : Nat → Nat → Nat} {r : Nat} (h : ∀ i, i < r → ∀ k, k < lP (wK B) (lS (wK B)) → M 53 (360 * i + k) = b01 (rwF B i k)) : rwR M B r := by
  intro i hi w hw j hj
  have e := h i hi (lP (wK B) w + j) (lP_lt hw hj)
  unfold rwF at e
  rw [flB_at hj, ← Nat.add_assoc] at e
  exact e
theorem lP_all (q : Nat → Bool) : lP q (lS q) ≤ 360 := by
  have := lP_le q (lS q)
  have := lS_le q
  omega
def rowsR (M : zMem) (B : Nat → Nat → Nat) : Prop := abR M B ∧ laid M B ∧ (∀ w, w ≤ lS (wK B) → M 47 w = lP (wK B) w) ∧ rwR M B (B 6 0)
theorem sp_Model_layRows (M : zMem) (B : Nat → Nat → Nat) (h : abR M B) : zSp zd_Model_layRows 4 [zr 9] M (fun _ M' => zfr [9, 40, 41, 42, 43, 45, 46, 47, 52, 53] M M' ∧ rowsR M' B) := by
  refine zSp_in 4 [some (zr 9), none, none, none, none] rfl rfl (by decide +kernel) rfl ?_
  refine z_withR (fun hR => ?_)
  obtain ⟨post, hpost⟩ : ∃ post : Int → zMem → Prop, post = (fun (_ : Int) M' => zfr [9, 40, 41, 42, 43, 45, 46, 47, 52, 53] M M' ∧ rowsR M' B) := ⟨_, rfl⟩
  rw [← hpost]
  have hl40 := lS_le (wK B)
  have hlT : lS (wK B) ≤ lT B := by have := lS_lT B; omega
  have hpa := lP_all (wK B)
  obtain ⟨n1, n12, nw, n4⟩ := id h.1.2.2.2.2.1
  have main : ∀ (M5 : zMem), zfr [9, 40, 41, 42, 43, 45, 46, 47] M M5 → abR M5 B → laid M5 B → M5 9 7 = 1 → (∀ w, w ≤ lS (wK B) → M5 47 w = lP (wK B) w) → ∀ (l1 : Option zAV) (c w : Nat) (M1 : zMem) (l3 l4 : Option zAV), w + c = lS (wK B) → zfr [9, 40, 41, 42, 52, 53] M5 M1 → (∀ i, i ≠ 8 → M1 9 i = M5 9 i) → (∀ i, i < B 6 0 → ∀ k, k < lP (wK B) w → M1 53 (360 * i + k) = b01 (rwF B i k)) → zV zd_Model_layRows 4 25 [some (zr 9), l1, some (zi w), l3, l4] [] M1 post := by
    intro M5 f5 a5 d5 i5 p5 l1 c
    have nn5 := a5.1.2.2.2.2.1.1
    induction c with
    | zero =>
      intro w M1 l3 l4 hw hf g9 hr
      have ew : w = lS (wK B) := by omega
      have d1 := d5.fr hf (g9 _ (by decide)) (by decide) (by decide)
      have nn1 : M1 9 18 = (B 6 0 : Nat) := by rw [g9 _ (by decide)]; exact nn5
      refine z_withR (fun hR => ?_)
      refine ziload_5_2 dX9_layRows_25 ?_
      refine zaload_5_0 dX9_layRows_26 ?_
      refine zc_Model_181 rfl dX9_layRows_27 (by decide) (Nat.le_of_ble_eq_true rfl) (sp_Model_onList M1 B d1.2.1) (fun r27 M27 hq27 => ?_)
      refine z_withR (fun hR => ?_)
      have e27 := hq27.1.symm
      subst e27
      have q27 := hq27.2
      subst q27
      refine z_icmp_ge (tgt := 125) (by first | omega | exact hR.1 _ _ (by decide) | exact zrng_toInt _) (by first | omega | exact hR.1 _ _ (by decide) | exact zrng_toInt _) dX9_layRows_30 (by decide) (fun h30 => ?_) (fun h30 => ?_)
      · refine zaload_5_0 dX9_layRows_125 ?_
        refine zaload_5_0 dX9_layRows_126 ?_
        refine zg_Model_187 rfl dX9_layRows_127 ?_
        refine z_top nn1 ?_
        refine z_iconst dX9_layRows_130 ?_
        refine z_iadd dX9_layRows_131 ?_
        refine zp_Model_164 rfl (by first | omega | exact hR.1 _ _ (by decide) | exact zrng_toInt _) dX9_layRows_132 ?_
        refine z_withR (fun hR => ?_)
        refine z_vret rfl ?_ dX9_layRows_135
        rw [hpost]
        have hrw : rwR M1 B (B 6 0) := rwR.of (fun i hi k hk => hr i hi k (by rw [ew]; exact hk))
        have ff : zfr [9, 40, 41, 42, 52, 53] M5 (zmu M1 9 25 ((B 6 0 : Int) + 1)) := hf.mu (by decide)
        have gg : ∀ i, i ≠ 8 → i ≠ 25 → zmu M1 9 25 ((B 6 0 : Int) + 1) 9 i = M5 9 i := fun i h1 h2 => by rw [zmu_ne _ _ _ _ h2]; exact g9 i h1
        have dd := d5.fr ff (gg _ (by decide) (by decide)) (by decide) (by decide)
        have hrw' : rwR (zmu M1 9 25 ((B 6 0 : Int) + 1)) B (B 6 0) := by
          unfold rwR
          rw [zmu_other _ _ _ _ (by decide)]
          exact hrw
        refine ⟨f5.tr ff (by decide) (by decide), ⟨a5.1.fr ff (by decide) (gg _ (by decide) (by decide)) (gg _ (by decide) (by decide)) (gg _ (by decide) (by decide)), Or.inr ⟨?_, dd, Or.inr ⟨B 6 0, Nat.le_refl _, ?_, hrw'⟩⟩⟩, dd, ?_, hrw'⟩
        · rw [gg _ (by decide) (by decide)]; exact i5
        · rw [zmu_same]; omega
        · rw [ff 47 (by decide)]; exact p5
      · omega
    | succ c ih =>
      intro w M1 l3 l4 hw hf g9 hr
      have hwl : w < lS (wK B) := by omega
      have d1 := d5.fr hf (g9 _ (by decide)) (by decide) (by decide)
      have hE := (lE_okA (q := wK B) (j := w) (by show w < lT B; omega)).1
      obtain ⟨p1, p2, p3, p4⟩ := pe_ok hE
      have eL := d1.2.2 w (by omega)
      have hlq : ∀ j, j < lQ (wK B) w → lP (wK B) w + j < lP (wK B) (lS (wK B)) := fun j hj => lP_lt hwl hj
      have hlP1 : lP (wK B) (w + 1) = lP (wK B) w + lQ (wK B) w := rfl
      obtain ⟨n, hn⟩ : ∃ n, n = eSz (lE (wK B) w) := ⟨_, rfl⟩
      obtain ⟨k, hk⟩ : ∃ k, k = eK (lE (wK B) w) := ⟨_, rfl⟩
      have hQ : lQ (wK B) w = n * n := by rw [hn]; rfl
      have hok : okn n := by rw [hn]; exact okn_eSz _
      have hsq := sq_le hok
      have hn3 := hok.le
      have hSo : ∀ i j, j < n * n → rwF B i (lP (wK B) w + j) = so (B 1) (B 2) (B 7) (B 8) (B 9) n k i j := by
        intro i j hj
        unfold rwF
        rw [flB_at (by rw [hQ]; exact hj), hn, hk]
        rfl
      have nloop : ∀ (c i : Nat) (M2 : zMem) (l4 : Option zAV), i + c = B 6 0 → zfr [9, 40, 41, 42, 52, 53] M5 M2 → (∀ i, i ≠ 8 → M2 9 i = M5 9 i) → tbR M2 n k → hrR M2 (so (B 1) (B 2) (B 7) (B 8) (B 9) n k) n i → (∀ i, i < B 6 0 → ∀ k, k < lP (wK B) w → M2 53 (360 * i + k) = b01 (rwF B i k)) → (∀ i', i' < i → ∀ k, k < lP (wK B) (w + 1) → M2 53 (360 * i' + k) = b01 (rwF B i' k)) → zV zd_Model_layRows 4 45 [some (zr 9), l1, some (zi w), some (zi i), l4] [] M2 post := by
        intro c
        induction c with
        | zero =>
          intro i M2 l4 hi f2 g2 t2 h2 r2 s2
          have nn2 : M2 9 18 = (B 6 0 : Nat) := by rw [g2 _ (by decide)]; exact nn5
          refine z_withR (fun hR => ?_)
          refine ziload_5_3 dX9_layRows_45 ?_
          refine zaload_5_0 dX9_layRows_46 ?_
          refine zg_Model_187 rfl dX9_layRows_47 ?_
          refine z_top nn2 ?_
          refine z_icmp_ge (tgt := 119) (by first | omega | exact hR.1 _ _ (by decide) | exact zrng_toInt _) (by first | omega | exact hR.1 _ _ (by decide) | exact zrng_toInt _) dX9_layRows_50 (by decide) (fun h50 => ?_) (fun h50 => ?_)
          · refine ziinc_5_2 dX9_layRows_119 ?_
            refine z_goto (tgt := 25) dX9_layRows_122 (by decide) ?_
            exact ih (w + 1) M2 _ _ (by omega) f2 g2 (fun i' hi' => s2 i' (by omega))
          · omega
        | succ c ihn =>
          intro i M2 l4 hi f2 g2 t2 h2 r2 s2
          have nn2 : M2 9 18 = (B 6 0 : Nat) := by rw [g2 _ (by decide)]; exact nn5
          have a2 := a5.1.fr f2 (by decide) (g2 _ (by decide)) (g2 _ (by decide)) (g2 _ (by decide))
          have kloop : ∀ (c j : Nat) (M3 : zMem), j + c = n * n → zfr [9, 40, 41, 42, 52, 53] M5 M3 → (∀ i, i ≠ 8 → M3 9 i = M5 9 i) → tbR M3 n k → hrR M3 (so (B 1) (B 2) (B 7) (B 8) (B 9) n k) n (i + 1) → (∀ i, i < B 6 0 → ∀ k, k < lP (wK B) w → M3 53 (360 * i + k) = b01 (rwF B i k)) → (∀ i', i' < i → ∀ k, k < lP (wK B) (w + 1) → M3 53 (360 * i' + k) = b01 (rwF B i' k)) → (∀ k, k < lP (wK B) w + j → M3 53 (360 * i + k) = b01 (rwF B i k)) → zV zd_Model_layRows 4 61 [some (zr 9), l1, some (zi w), some (zi i), some (zi j)] [] M3 post := by
            intro c
            induction c with
            | zero =>
              intro j M3 hj f3 g3 t3 h3 r3 s3 u3
              have hs := t3.1
              refine z_withR (fun hR => ?_)
              refine ziload_5_4 dX9_layRows_61 ?_
              refine zaload_5_0 dX9_layRows_63 ?_
              refine zg_Model_124 rfl dX9_layRows_64 ?_
              refine z_top hs ?_
              refine zaload_5_0 dX9_layRows_67 ?_
              refine zg_Model_124 rfl dX9_layRows_68 ?_
              refine z_top hs ?_
              refine z_imul dX9_layRows_71 ?_
              rw [← Int.natCast_mul]
              refine z_icmp_ge (tgt := 113) (by first | omega | exact hR.1 _ _ (by decide) | exact zrng_toInt _) (by first | omega | exact hR.1 _ _ (by decide) | exact zrng_toInt _) dX9_layRows_72 (by decide) (fun h72 => ?_) (fun h72 => ?_)
              · refine ziinc_5_3 dX9_layRows_113 ?_
                refine z_goto (tgt := 45) dX9_layRows_116 (by decide) ?_
                refine ihn (i + 1) M3 _ (by omega) f3 g3 t3 h3 r3 (fun i' hi' k' hk' => ?_)
                by_cases e : i' = i
                · rw [e]; exact u3 k' (by omega)
                · exact s3 i' (by omega) k' hk'
              · omega
            | succ c ihk =>
              intro j M3 hj f3 g3 t3 h3 r3 s3 u3
              have hs := t3.1
              have hpw : M3 47 w = (lP (wK B) w : Nat) := by rw [f3 47 (by decide)]; exact p5 w (by omega)
              have hhj := h3 i (by omega) j (by omega)
              have hlj := hlq j (by omega)
              refine z_withR (fun hR => ?_)
              refine ziload_5_4 dX9_layRows_61 ?_
              refine zaload_5_0 dX9_layRows_63 ?_
              refine zg_Model_124 rfl dX9_layRows_64 ?_
              refine z_top hs ?_
              refine zaload_5_0 dX9_layRows_67 ?_
              refine zg_Model_124 rfl dX9_layRows_68 ?_
              refine z_top hs ?_
              refine z_imul dX9_layRows_71 ?_
              rw [← Int.natCast_mul]
              refine z_icmp_ge (tgt := 113) (by first | omega | exact hR.1 _ _ (by decide) | exact zrng_toInt _) (by first | omega | exact hR.1 _ _ (by decide) | exact zrng_toInt _) dX9_layRows_72 (by decide) (fun h72 => ?_) (fun h72 => ?_)
              · omega
              · refine zaload_5_0 dX9_layRows_75 ?_
                refine zg_Model_69 rfl dX9_layRows_76 ?_
                refine z_sipush dX9_layRows_79 (by decide) ?_
                refine ziload_5_3 dX9_layRows_82 ?_
                refine z_imul dX9_layRows_83 ?_
                refine zaload_5_0 dX9_layRows_84 ?_
                refine zg_Model_51 rfl dX9_layRows_85 ?_
                refine ziload_5_2 dX9_layRows_88 ?_
                refine z_iald _ rfl (by decide) (by decide) rfl (by omega) dX9_layRows_89 ?_
                refine z_top hpw ?_
                refine z_iadd dX9_layRows_90 ?_
                refine ziload_5_4 dX9_layRows_91 ?_
                refine z_iadd dX9_layRows_93 ?_
                refine zaload_5_0 dX9_layRows_94 ?_
                refine zg_Model_66 rfl dX9_layRows_95 ?_
                refine z_bipush dX9_layRows_98 (by decide) ?_
                refine ziload_5_3 dX9_layRows_100 ?_
                refine z_imul dX9_layRows_101 ?_
                refine ziload_5_4 dX9_layRows_102 ?_
                refine z_iadd dX9_layRows_104 ?_
                refine z_zald (9 * i + j) rfl (by decide) (by decide) (by omega) (by omega) dX9_layRows_105 ?_
                refine z_top hhj ?_
                refine z_zast (360 * i + (lP (wK B) w + j)) (by decide) rfl (by decide) (by decide) (by omega) (by omega) (b01_01 _) dX9_layRows_106 ?_
                refine z_withR (fun hR => ?_)
                refine ziinc_5_4 dX9_layRows_107 ?_
                refine z_goto (tgt := 61) dX9_layRows_110 (by decide) ?_
                refine ihk (j + 1) _ (by omega) (f3.mu (by decide)) (fun i' hi' => by rw [zmu_other _ _ _ _ (by decide)]; exact g3 i' hi') (t3.fr (zfr.rf.mu (by decide) : zfr [53] M3 _) (by rw [zmu_other _ _ _ _ (by decide)]) (by decide)) (fun i' hi' j' hj' => by rw [zmu_other _ _ _ _ (by decide)]; exact h3 i' hi' j' hj') (fun i' hi' k' hk' => ?_) (fun i' hi' k' hk' => ?_) (fun k' hk' => ?_)
                · rw [zmu_ne _ _ _ _ (by omega)]; exact r3 i' hi' k' hk'
                · rw [zmu_ne _ _ _ _ (by omega)]; exact s3 i' hi' k' hk'
                · by_cases e : k' = lP (wK B) w + j
                  · rw [e, zmu_same, hSo i j (by omega)]
                  · rw [zmu_ne _ _ _ _ (by omega)]; exact u3 k' (by omega)
          refine z_withR (fun hR => ?_)
          refine ziload_5_3 dX9_layRows_45 ?_
          refine zaload_5_0 dX9_layRows_46 ?_
          refine zg_Model_187 rfl dX9_layRows_47 ?_
          refine z_top nn2 ?_
          refine z_icmp_ge (tgt := 119) (by first | omega | exact hR.1 _ _ (by decide) | exact zrng_toInt _) (by first | omega | exact hR.1 _ _ (by decide) | exact zrng_toInt _) dX9_layRows_50 (by decide) (fun h50 => ?_) (fun h50 => ?_)
          · omega
          · refine zaload_5_0 dX9_layRows_53 ?_
            refine ziload_5_3 dX9_layRows_54 ?_
            refine zc_Model_203 rfl dX9_layRows_55 (by decide) (Nat.le_of_ble_eq_true rfl) (sp_Model_layHere M2 B n k i hok t2 a2.1 a2.2.2.2.2.1 (by omega) h2) (fun r55 M55 hq55 => ?_)
            refine z_withR (fun hR => ?_)
            obtain ⟨f55, h55⟩ := hq55
            refine z_iconst dX9_layRows_58 ?_
            refine zistore_5_4 dX9_layRows_59 ?_
            exact kloop (n * n) 0 M55 (by omega) (f2.tr f55 (by decide) (by decide)) (fun i' hi' => by rw [f55 9 (by decide)]; exact g2 i' hi') (t2.fr f55 (by rw [f55 9 (by decide)]) (by decide)) h55 (by rw [f55 53 (by decide)]; exact r2) (by rw [f55 53 (by decide)]; exact s2) (by rw [f55 53 (by decide)]; exact fun k' hk' => r2 i (by omega) k' (by omega))
      refine z_withR (fun hR => ?_)
      refine ziload_5_2 dX9_layRows_25 ?_
      refine zaload_5_0 dX9_layRows_26 ?_
      refine zc_Model_181 rfl dX9_layRows_27 (by decide) (Nat.le_of_ble_eq_true rfl) (sp_Model_onList M1 B d1.2.1) (fun r27 M27 hq27 => ?_)
      refine z_withR (fun hR => ?_)
      have e27 := hq27.1.symm
      subst e27
      have q27 := hq27.2
      subst q27
      refine z_icmp_ge (tgt := 125) (by first | omega | exact hR.1 _ _ (by decide) | exact zrng_toInt _) (by first | omega | exact hR.1 _ _ (by decide) | exact zrng_toInt _) dX9_layRows_30 (by decide) (fun h30 => ?_) (fun h30 => ?_)
      · omega
      · refine zaload_5_0 dX9_layRows_33 ?_
        refine zaload_5_0 dX9_layRows_34 ?_
        refine zg_Model_48 rfl dX9_layRows_35 ?_
        refine ziload_5_2 dX9_layRows_38 ?_
        refine z_iald _ rfl (by decide) (by decide) rfl (by omega) dX9_layRows_39 ?_
        refine z_top eL ?_
        refine zc_Model_138 rfl dX9_layRows_40 (by decide) (Nat.le_of_ble_eq_true rfl) (sp_Model_layWorld M1 (pe (lE (wK B) w)) p1) (fun r40 M40 hq40 => ?_)
        refine z_withR (fun hR => ?_)
        obtain ⟨f40, g40, t40⟩ := hq40
        rw [p2, p3, ← hn, ← hk] at t40
        refine z_iconst dX9_layRows_43 ?_
        refine zistore_5_3 dX9_layRows_44 ?_
        exact nloop (B 6 0) 0 M40 _ (by omega) (hf.tr f40 (by decide) (by decide)) (fun i' hi' => by rw [g40 i' hi']; exact g9 i' hi') t40 (fun i' hi' => absurd hi' (Nat.not_lt_zero _)) (by rw [f40 53 (by decide)]; exact hr) (fun i' hi' => absurd hi' (Nat.not_lt_zero _))
  refine zaload_5_0 dX9_layRows_0 ?_
  refine zc_Model_175 rfl dX9_layRows_1 (by decide) (Nat.le_of_ble_eq_true rfl) (sp_Model_layAll M B h.1.1 h.1.2.2.2.1 h.cache) (fun r1 M1 hq1 => ?_)
  refine z_withR (fun hR => ?_)
  obtain ⟨f12, g12, i12, l12, c12⟩ := hq1
  have hab := h.after f12 g12 i12 l12 c12
  refine zaload_5_0 dX9_layRows_4 ?_
  refine zc_Model_184 rfl dX9_layRows_5 (by decide) (Nat.le_of_ble_eq_true rfl) (sp_Model_pairs M1 B l12) (fun r5 M5 hq5 => ?_)
  refine z_withR (fun hR => ?_)
  obtain ⟨f5, p5, q5⟩ := hq5
  have a5 : abR M5 B := ⟨hab.1.fr f5 (by decide) (by rw [f5 9 (by decide)]) (by rw [f5 9 (by decide)]) (by rw [f5 9 (by decide)]), hab.2.fr f5 (by decide) (by rw [f5 9 (by decide)]) (by rw [f5 9 (by decide)]) (by rw [f5 9 (by decide)])⟩
  have d5 := l12.fr f5 (by rw [f5 9 (by decide)]) (by decide) (by decide)
  have i5 : M5 9 7 = 1 := by rw [f5 9 (by decide)]; exact i12
  have ff : zfr [9, 40, 41, 42, 43, 45, 46, 47] M M5 := f12.tr f5 (by decide) (by decide)
  have nn5 := a5.1.2.2.2.2.1.1
  refine zistore_5_1 dX9_layRows_8 ?_
  refine zaload_5_0 dX9_layRows_9 ?_
  refine zg_Model_164 rfl dX9_layRows_10 ?_
  refine zaload_5_0 dX9_layRows_13 ?_
  refine zg_Model_187 rfl dX9_layRows_14 ?_
  refine z_iconst dX9_layRows_17 ?_
  refine z_iadd dX9_layRows_18 ?_
  refine z_top (y := (B 6 0 : Int) + 1) (by rw [nn5]) ?_
  refine z_icmp_ne (tgt := 23) (by first | omega | exact hR.1 _ _ (by decide) | exact zrng_toInt _) (by first | omega | exact hR.1 _ _ (by decide) | exact zrng_toInt _) dX9_layRows_19 (by decide) (fun h19 => ?_) (fun h19 => ?_)
  · refine z_iconst dX9_layRows_23 ?_
    refine zistore_5_2 dX9_layRows_24 ?_
    exact main M5 ff a5 d5 i5 p5 _ (lS (wK B)) 0 M5 _ _ (by omega) zfr.rf (fun _ _ => rfl) (fun i hi k hk => absurd hk (Nat.not_lt_zero _))
  · refine z_vret rfl ?_ dX9_layRows_22
    rw [hpost]
    rcases a5.2 with z | ⟨_, _, z | ⟨r, r1, r2, r3⟩⟩
    · rw [i5] at z; exact absurd z (by decide)
    · omega
    · have er : r = B 6 0 := by omega
      rw [er] at r3
      exact ⟨ff.up (by decide), a5, d5, p5, r3⟩
