/-! what might be made -/
theorem rowsR.tryN {M M' : zMem} {B : Nat → Nat → Nat} (h : rowsR M B) (hf : zfr [9, 41, 48, 49, 50, 52, 53] M M') (g9 : ∀ i, i ≠ 8 → M' 9 i = M 9 i) (hw : ∀ i, i < 12 → M' 48 i = M 48 i ∧ M' 49 i = M 49 i ∧ M' 50 i = M 50 i) (hr : ∀ k, k < 4320 → M' 53 k = M 53 k) : rowsR M' B := by
  obtain ⟨⟨⟨h1, h2, h3, h4, h5, h6, h7⟩, hc⟩, hl, hp, hrw⟩ := h
  have hrw' : ∀ r, r ≤ 12 → rwR M B r → rwR M' B r := by
    intro r hr12 q i hi w hw j hj
    have h1 := lP_lt hw hj
    have h2 := lP_all (wK B)
    rw [hr _ (by omega)]
    exact q i hi w hw j hj
  have hl' := hl.fr hf (g9 _ (by decide)) (by decide) (by decide)
  refine ⟨⟨⟨h1.fr hf (g9 _ (by decide)) (by decide) (by decide), h2, ?_, h4.fr hf (g9 _ (by decide)) (by decide) (by decide), ?_, ?_, ?_⟩, ?_⟩, hl', ?_, hrw' _ h5.2.1 hrw⟩
  · rw [hf 37 (by decide)]; exact h3
  · have n12 := h5.2.1
    refine ⟨by rw [g9 _ (by decide)]; exact h5.1, n12, h5.2.2.1, fun i hi => ?_⟩
    obtain ⟨e1, e2, e3⟩ := hw i (by omega)
    rw [e1, e2, e3, hf 51 (by decide)]
    exact h5.2.2.2 i hi
  · rw [hf 54 (by decide)]; exact h6
  · unfold slR
    rw [hf 56 (by decide), hf 57 (by decide), hf 58 (by decide)]; exact h7
  · have n12 := h5.2.1
    unfold abRc
    rw [g9 _ (by decide), g9 _ (by decide)]
    exact hc.imp id (fun z => ⟨z.1, hl', z.2.2.imp id (fun ⟨r, r1, r2, r3⟩ => ⟨r, r1, r2, hrw' r (by omega) r3⟩)⟩)
  · rw [hf 47 (by decide)]; exact hp
theorem sp_Model_layTried (M : zMem) (B : Nat → Nat → Nat) (w a b : Nat) (h : rowsR M B) (hw : 1 ≤ w ∧ w ≤ 6) (ha : a < B 6 0) (hb : b < B 6 0) : zSp zd_Model_layTried 2 [zr 9, zi w, zi a, zi b] M (fun _ M' => zfr [9, 41, 48, 49, 50, 52, 53] M M' ∧ rowsR M' B ∧ ∀ k, k < lP (wK B) (lS (wK B)) → M' 53 (4320 + k) = b01 (flB (wK B) (tC (wK B) (bS B) w a b) k)) := by
  refine zSp_in 2 [some (zr 9), some (zi w), some (zi a), some (zi b), none, none] rfl rfl (by decide +kernel) rfl ?_
  refine z_withR (fun hR => ?_)
  have hl40 := lS_le (wK B)
  have hlT : lS (wK B) ≤ lT B := by have := lS_lT B; omega
  have hpa := lP_all (wK B)
  have n12 := h.n12
  obtain ⟨G, hG⟩ : ∃ G, G = flB (wK B) (tC (wK B) (bS B) w a b) := ⟨_, rfl⟩
  rw [← hG]
  obtain ⟨post, hpost⟩ : ∃ post : Int → zMem → Prop, post = (fun (_ : Int) M' => zfr [9, 41, 48, 49, 50, 52, 53] M M' ∧ rowsR M' B ∧ ∀ k, k < lP (wK B) (lS (wK B)) → M' 53 (4320 + k) = b01 (G k)) := ⟨_, rfl⟩
  rw [← hpost]
  have vloop : ∀ (c v : Nat) (M1 : zMem) (l5 : Option zAV), v + c = lS (wK B) → zfr [9, 41, 48, 49, 50, 52, 53] M M1 → rowsR M1 B → M1 48 12 = w → M1 49 12 = a → M1 50 12 = b → (∀ k, k < lP (wK B) v → M1 53 (4320 + k) = b01 (G k)) → zV zd_Model_layTried 2 12 [some (zr 9), some (zi w), some (zi a), some (zi b), some (zi v), l5] [] M1 post := by
    intro c
    induction c with
    | zero =>
      intro v M1 l5 hv f1 r1 e48 e49 e50 hk
      refine z_withR (fun hR => ?_)
      refine ziload_6_4 dX9_layTried_12 ?_
      refine zaload_6_0 dX9_layTried_14 ?_
      refine zc_Model_181 rfl dX9_layTried_15 (by decide) (Nat.le_of_ble_eq_true rfl) (sp_Model_onList M1 B r1.2.1.2.1) (fun r15 M15 hq15 => ?_)
      refine z_withR (fun hR => ?_)
      have e15 := hq15.1.symm
      subst e15
      have q15 := hq15.2
      subst q15
      refine z_icmp_ge (tgt := 192) (by first | omega | exact hR.1 _ _ (by decide) | exact zrng_toInt _) (by first | omega | exact hR.1 _ _ (by decide) | exact zrng_toInt _) dX9_layTried_18 (by decide) (fun h18 => ?_) (fun h18 => ?_)
      · refine z_vret rfl ?_ dX9_layTried_192
        rw [hpost]
        exact ⟨f1, r1, fun k hk' => hk k (by rw [show v = lS (wK B) by omega]; exact hk')⟩
      · omega
    | succ c ih =>
      intro v M1 l5 hv f1 r1 e48 e49 e50 hk
      have hvl : v < lS (wK B) := by omega
      have hE := (lE_okA (q := wK B) (j := v) (by show v < lT B; omega)).1
      obtain ⟨p1, p2, p3, p4⟩ := pe_ok hE
      have eL := r1.2.1.2.2 v (by omega)
      have hlq : ∀ j, j < lQ (wK B) v → lP (wK B) v + j < lP (wK B) (lS (wK B)) := fun j hj => lP_lt hvl hj
      have hlP1 : lP (wK B) (v + 1) = lP (wK B) v + lQ (wK B) v := rfl
      obtain ⟨f, hf⟩ : ∃ f, f = bS B (lE (wK B) v) a := ⟨_, rfl⟩
      obtain ⟨g, hg⟩ : ∃ g, g = bS B (lE (wK B) v) b := ⟨_, rfl⟩
      have hra := r1.2.2.2 a ha v hvl
      have hrb := r1.2.2.2 b hb v hvl
      rw [← hf] at hra
      rw [← hg] at hrb
      have hGm : ∀ j, j < lQ (wK B) v → G (lP (wK B) v + j) = mkR w (eSz (lE (wK B) v)) f g j := by
        intro j hj
        rw [hG, flB_at hj, hf, hg]
        rfl
      have hQ : lQ (wK B) v = eSz (lE (wK B) v) * eSz (lE (wK B) v) := rfl
      have hok := okn_eSz (lE (wK B) v)
      obtain ⟨n, hn⟩ : ∃ n, n = eSz (lE (wK B) v) := ⟨_, rfl⟩
      rw [← hn] at hQ hok p2 hGm
      have hsq := sq_le hok
      have hn3 := hok.le
      have hn0 := hok.pos
      have hpv := r1.2.2.1 v (by omega)
      obtain ⟨P, hP⟩ : ∃ P, P = lP (wK B) v := ⟨_, rfl⟩
      rw [← hP] at hra hrb hGm hlq hlP1 hk hpv
      have sloop : ∀ (c j : Nat) (M2 : zMem), j + c = n * n → zfr [9, 41, 48, 49, 50, 52, 53] M M2 → rowsR M2 B → M2 9 8 = n → M2 48 12 = w → M2 49 12 = a → M2 50 12 = b → (∀ k, k < P + j → M2 53 (4320 + k) = b01 (G k)) → (∀ j', j' < n * n → M2 52 (9 * a + j') = b01 (f j')) → (∀ j', j' < n * n → M2 52 (9 * b + j') = b01 (g j')) → zV zd_Model_layTried 2 127 [some (zr 9), some (zi w), some (zi a), some (zi b), some (zi v), some (zi j)] [] M2 post := by
        intro c
        induction c with
        | zero =>
          intro j M2 hj f2 r2 hs e48 e49 e50 hk2 ua ub
          refine z_withR (fun hR => ?_)
          refine ziload_6_5 dX9_layTried_127 ?_
          refine zaload_6_0 dX9_layTried_129 ?_
          refine zg_Model_124 rfl dX9_layTried_130 ?_
          refine z_top hs ?_
          refine zaload_6_0 dX9_layTried_133 ?_
          refine zg_Model_124 rfl dX9_layTried_134 ?_
          refine z_top hs ?_
          refine z_imul dX9_layTried_137 ?_
          rw [← Int.natCast_mul]
          refine z_icmp_ge (tgt := 186) (by first | omega | exact hR.1 _ _ (by decide) | exact zrng_toInt _) (by first | omega | exact hR.1 _ _ (by decide) | exact zrng_toInt _) dX9_layTried_138 (by decide) (fun h138 => ?_) (fun h138 => ?_)
          · refine ziinc_6_4 dX9_layTried_186 ?_
            refine z_goto (tgt := 12) dX9_layTried_189 (by decide) ?_
            exact ih (v + 1) M2 _ (by omega) f2 r2 e48 e49 e50 (fun k' hk' => hk2 k' (by omega))
          · omega
        | succ c ihs =>
          intro j M2 hj f2 r2 hs e48 e49 e50 hk2 ua ub
          have hpv2 : M2 47 v = (P : Nat) := by rw [r2.2.2.1 v (by omega), hP]
          have hlj := hlq j (by omega)
          obtain ⟨x, hx⟩ : ∃ x, x = j / n := ⟨_, rfl⟩
          obtain ⟨y, hy⟩ : ∃ y, y = j % n := ⟨_, rfl⟩
          have hxn : x < n := by rw [hx]; exact Nat.div_lt_of_lt_mul (by omega)
          have hyn : y < n := by rw [hy]; exact Nat.mod_lt _ hn0
          have exy : x * n + y = j := by rw [hx, hy]; exact pair_eq
          have sp := sp_Model_isSoN M2 12 n w a b x y f g (by omega) hok hs e48 hw e49 (by omega) (fun z => ⟨e50, by omega, ub⟩) ua hxn hyn
          rw [exy] at sp
          refine z_withR (fun hR => ?_)
          refine ziload_6_5 dX9_layTried_127 ?_
          refine zaload_6_0 dX9_layTried_129 ?_
          refine zg_Model_124 rfl dX9_layTried_130 ?_
          refine z_top hs ?_
          refine zaload_6_0 dX9_layTried_133 ?_
          refine zg_Model_124 rfl dX9_layTried_134 ?_
          refine z_top hs ?_
          refine z_imul dX9_layTried_137 ?_
          rw [← Int.natCast_mul]
          refine z_icmp_ge (tgt := 186) (by first | omega | exact hR.1 _ _ (by decide) | exact zrng_toInt _) (by first | omega | exact hR.1 _ _ (by decide) | exact zrng_toInt _) dX9_layTried_138 (by decide) (fun h138 => ?_) (fun h138 => ?_)
          · omega
          · refine zaload_6_0 dX9_layTried_141 ?_
            refine zg_Model_69 rfl dX9_layTried_142 ?_
            refine z_sipush dX9_layTried_145 (by decide) ?_
            refine zaload_6_0 dX9_layTried_148 ?_
            refine zg_Model_51 rfl dX9_layTried_149 ?_
            refine ziload_6_4 dX9_layTried_152 ?_
            refine z_iald _ rfl (by decide) (by decide) rfl (by omega) dX9_layTried_154 ?_
            refine z_top hpv2 ?_
            refine z_iadd dX9_layTried_155 ?_
            refine ziload_6_5 dX9_layTried_156 ?_
            refine z_iadd dX9_layTried_158 ?_
            refine zaload_6_0 dX9_layTried_159 ?_
            refine z_bipush dX9_layTried_160 (by decide) ?_
            refine ziload_6_5 dX9_layTried_162 ?_
            refine zaload_6_0 dX9_layTried_164 ?_
            refine zg_Model_124 rfl dX9_layTried_165 ?_
            refine z_top hs ?_
            refine z_idiv (by omega) (by omega) dX9_layTried_168 ?_
            refine z_top (y := (x : Int)) (by rw [hx]; rfl) ?_
            refine ziload_6_5 dX9_layTried_169 ?_
            refine zaload_6_0 dX9_layTried_171 ?_
            refine zg_Model_124 rfl dX9_layTried_172 ?_
            refine z_top hs ?_
            refine z_irem (by omega) (by omega) dX9_layTried_175 ?_
            refine z_top (y := (y : Int)) (by rw [hy]; rfl) ?_
            refine zc_Model_199 rfl dX9_layTried_176 (by decide) (Nat.le_of_ble_eq_true rfl) (sp) (fun r176 M176 hq176 => ?_)
            refine z_withR (fun hR => ?_)
            obtain ⟨f176, q176⟩ := hq176
            subst q176
            refine z_zast (4320 + (P + j)) (by decide) rfl (by decide) (by decide) (by omega) (by omega) (b01_01 _) dX9_layTried_179 ?_
            refine z_withR (fun hR => ?_)
            refine ziinc_6_5 dX9_layTried_180 ?_
            refine z_goto (tgt := 127) dX9_layTried_183 (by decide) ?_
            have fz : zfr [41, 53] M2 (zmu M176 53 (4320 + (P + j)) (b01 (mkR w n f g j))) := (f176.up (by decide) : zfr [41, 53] M2 M176).mu (by decide)
            refine ihs (j + 1) _ (by omega) (f2.tr fz (fun _ z => z) (by decide)) (r2.tryN (fz.up (by decide)) (fun i hi => by rw [fz 9 (by decide)]) (fun i hi => by rw [fz 48 (by decide), fz 49 (by decide), fz 50 (by decide)]; exact ⟨rfl, rfl, rfl⟩) (fun k' hk' => by rw [zmu_ne _ _ _ _ (by omega), f176 53 (by decide)])) (by rw [fz 9 (by decide)]; exact hs) (by rw [fz 48 (by decide)]; exact e48) (by rw [fz 49 (by decide)]; exact e49) (by rw [fz 50 (by decide)]; exact e50) (fun k' hk' => ?_) (by rw [fz 52 (by decide)]; exact ua) (by rw [fz 52 (by decide)]; exact ub)
            by_cases e : k' = P + j
            · rw [e, zmu_same, hGm j (by omega)]
            · rw [zmu_ne _ _ _ _ (by omega), f176 53 (by decide)]; exact hk2 k' (by omega)
      have cloop : ∀ (c j : Nat) (M2 : zMem), j + c = n * n → zfr [9, 41, 48, 49, 50, 52, 53] M M2 → rowsR M2 B → M2 9 8 = n → M2 48 12 = w → M2 49 12 = a → M2 50 12 = b → (∀ k, k < P → M2 53 (4320 + k) = b01 (G k)) → (∀ j', j' < j → M2 52 (9 * a + j') = b01 (f j')) → (∀ j', j' < j → M2 52 (9 * b + j') = b01 (g j')) → zV zd_Model_layTried 2 38 [some (zr 9), some (zi w), some (zi a), some (zi b), some (zi v), some (zi j)] [] M2 post := by
        intro c
        induction c with
        | zero =>
          intro j M2 hj f2 r2 hs e48 e49 e50 hk2 ua ub
          have ej : j = n * n := by omega
          rw [ej] at ua ub
          refine z_withR (fun hR => ?_)
          refine ziload_6_5 dX9_layTried_38 ?_
          refine zaload_6_0 dX9_layTried_40 ?_
          refine zg_Model_124 rfl dX9_layTried_41 ?_
          refine z_top hs ?_
          refine zaload_6_0 dX9_layTried_44 ?_
          refine zg_Model_124 rfl dX9_layTried_45 ?_
          refine z_top hs ?_
          refine z_imul dX9_layTried_48 ?_
          rw [← Int.natCast_mul]
          refine z_icmp_ge (tgt := 124) (by first | omega | exact hR.1 _ _ (by decide) | exact zrng_toInt _) (by first | omega | exact hR.1 _ _ (by decide) | exact zrng_toInt _) dX9_layTried_49 (by decide) (fun h49 => ?_) (fun h49 => ?_)
          · refine z_iconst dX9_layTried_124 ?_
            refine zistore_6_5 dX9_layTried_125 ?_
            exact sloop (n * n) 0 M2 (by omega) f2 r2 hs e48 e49 e50 (fun k' hk' => hk2 k' (by omega)) ua ub
          · omega
        | succ c ihc =>
          intro j M2 hj f2 r2 hs e48 e49 e50 hk2 ua ub
          have hpv2 : M2 47 v = (P : Nat) := by rw [r2.2.2.1 v (by omega), hP]
          have hlj := hlq j (by omega)
          have ra := r2.2.2.2 a ha v hvl j (by omega)
          have rb := r2.2.2.2 b hb v hvl j (by omega)
          rw [← hf, ← hP, Nat.add_assoc] at ra
          rw [← hg, ← hP, Nat.add_assoc] at rb
          have ra' : M2 53 (360 * a + (P + j)) = b01 (f j) := ra
          have rb' : M2 53 (360 * b + (P + j)) = b01 (g j) := rb
          refine z_withR (fun hR => ?_)
          refine ziload_6_5 dX9_layTried_38 ?_
          refine zaload_6_0 dX9_layTried_40 ?_
          refine zg_Model_124 rfl dX9_layTried_41 ?_
          refine z_top hs ?_
          refine zaload_6_0 dX9_layTried_44 ?_
          refine zg_Model_124 rfl dX9_layTried_45 ?_
          refine z_top hs ?_
          refine z_imul dX9_layTried_48 ?_
          rw [← Int.natCast_mul]
          refine z_icmp_ge (tgt := 124) (by first | omega | exact hR.1 _ _ (by decide) | exact zrng_toInt _) (by first | omega | exact hR.1 _ _ (by decide) | exact zrng_toInt _) dX9_layTried_49 (by decide) (fun h49 => ?_) (fun h49 => ?_)
          · omega
          · refine zaload_6_0 dX9_layTried_52 ?_
            refine zg_Model_66 rfl dX9_layTried_53 ?_
            refine z_bipush dX9_layTried_56 (by decide) ?_
            refine ziload_6_2 dX9_layTried_58 ?_
            refine z_imul dX9_layTried_59 ?_
            refine ziload_6_5 dX9_layTried_60 ?_
            refine z_iadd dX9_layTried_62 ?_
            refine zaload_6_0 dX9_layTried_63 ?_
            refine zg_Model_69 rfl dX9_layTried_64 ?_
            refine z_sipush dX9_layTried_67 (by decide) ?_
            refine ziload_6_2 dX9_layTried_70 ?_
            refine z_imul dX9_layTried_71 ?_
            refine zaload_6_0 dX9_layTried_72 ?_
            refine zg_Model_51 rfl dX9_layTried_73 ?_
            refine ziload_6_4 dX9_layTried_76 ?_
            refine z_iald _ rfl (by decide) (by decide) rfl (by omega) dX9_layTried_78 ?_
            refine z_top hpv2 ?_
            refine z_iadd dX9_layTried_79 ?_
            refine ziload_6_5 dX9_layTried_80 ?_
            refine z_iadd dX9_layTried_82 ?_
            refine z_zald (360 * a + (P + j)) rfl (by decide) (by decide) (by omega) (by omega) dX9_layTried_83 ?_
            refine z_top ra' ?_
            refine z_zast (9 * a + j) (by decide) rfl (by decide) (by decide) (by omega) (by omega) (b01_01 _) dX9_layTried_84 ?_
            refine z_withR (fun hR => ?_)
            refine zaload_6_0 dX9_layTried_85 ?_
            refine zg_Model_66 rfl dX9_layTried_86 ?_
            refine z_bipush dX9_layTried_89 (by decide) ?_
            refine ziload_6_3 dX9_layTried_91 ?_
            refine z_imul dX9_layTried_92 ?_
            refine ziload_6_5 dX9_layTried_93 ?_
            refine z_iadd dX9_layTried_95 ?_
            refine zaload_6_0 dX9_layTried_96 ?_
            refine zg_Model_69 rfl dX9_layTried_97 ?_
            refine z_sipush dX9_layTried_100 (by decide) ?_
            refine ziload_6_3 dX9_layTried_103 ?_
            refine z_imul dX9_layTried_104 ?_
            refine zaload_6_0 dX9_layTried_105 ?_
            refine zg_Model_51 rfl dX9_layTried_106 ?_
            refine ziload_6_4 dX9_layTried_109 ?_
            refine z_iald _ rfl (by decide) (by decide) rfl (by omega) dX9_layTried_111 ?_
            refine z_top (y := (P : Int)) (by rw [zmu_other _ _ _ _ (by decide)]; exact hpv2) ?_
            refine z_iadd dX9_layTried_112 ?_
            refine ziload_6_5 dX9_layTried_113 ?_
            refine z_iadd dX9_layTried_115 ?_
            refine z_zald (360 * b + (P + j)) rfl (by decide) (by decide) (by omega) (by omega) dX9_layTried_116 ?_
            refine z_top (y := b01 (g j)) (by rw [zmu_other _ _ _ _ (by decide)]; exact rb') ?_
            refine z_zast (9 * b + j) (by decide) rfl (by decide) (by decide) (by omega) (by omega) (b01_01 _) dX9_layTried_117 ?_
            refine z_withR (fun hR => ?_)
            refine ziinc_6_5 dX9_layTried_118 ?_
            refine z_goto (tgt := 38) dX9_layTried_121 (by decide) ?_
            have fz : zfr [52] M2 (zmu (zmu M2 52 (9 * a + j) (b01 (f j))) 52 (9 * b + j) (b01 (g j))) := (zfr.rf.mu (by decide)).mu (by decide)
            refine ihc (j + 1) _ (by omega) (f2.tr fz (fun _ z => z) (by decide)) (r2.fr fz (by decide)) (by rw [fz 9 (by decide)]; exact hs) (by rw [fz 48 (by decide)]; exact e48) (by rw [fz 49 (by decide)]; exact e49) (by rw [fz 50 (by decide)]; exact e50) (by rw [fz 53 (by decide)]; exact hk2) (fun j' hj' => ?_) (fun j' hj' => ?_)
            · by_cases eab : a = b
              · have efg : f = g := by rw [hf, hg, eab]
                rw [eab, efg]
                by_cases e : j' = j
                · rw [e, zmu_same]
                · rw [zmu_ne _ _ _ _ (by omega), zmu_ne _ _ _ _ (by omega)]; exact ub j' (by omega)
              · rw [zmu_ne _ _ _ _ (by omega)]
                by_cases e : j' = j
                · rw [e, zmu_same]
                · rw [zmu_ne _ _ _ _ (by omega)]; exact ua j' (by omega)
            · by_cases e : j' = j
              · rw [e, zmu_same]
              · rw [zmu_ne _ _ _ _ (by omega), zmu_ne _ _ _ _ (by omega)]; exact ub j' (by omega)
      refine z_withR (fun hR => ?_)
      refine ziload_6_4 dX9_layTried_12 ?_
      refine zaload_6_0 dX9_layTried_14 ?_
      refine zc_Model_181 rfl dX9_layTried_15 (by decide) (Nat.le_of_ble_eq_true rfl) (sp_Model_onList M1 B r1.2.1.2.1) (fun r15 M15 hq15 => ?_)
      refine z_withR (fun hR => ?_)
      have e15 := hq15.1.symm
      subst e15
      have q15 := hq15.2
      subst q15
      refine z_icmp_ge (tgt := 192) (by first | omega | exact hR.1 _ _ (by decide) | exact zrng_toInt _) (by first | omega | exact hR.1 _ _ (by decide) | exact zrng_toInt _) dX9_layTried_18 (by decide) (fun h18 => ?_) (fun h18 => ?_)
      · omega
      · refine zaload_6_0 dX9_layTried_21 ?_
        refine zaload_6_0 dX9_layTried_22 ?_
        refine zg_Model_48 rfl dX9_layTried_23 ?_
        refine ziload_6_4 dX9_layTried_26 ?_
        refine z_iald _ rfl (by decide) (by decide) rfl (by omega) dX9_layTried_28 ?_
        refine z_top eL ?_
        refine zc_Model_120 rfl dX9_layTried_29 (by decide) (Nat.le_of_ble_eq_true rfl) (sp_Model_sizeAt M1 (pe (lE (wK B) v)) p1) (fun r29 M29 hq29 => ?_)
        refine z_withR (fun hR => ?_)
        have e29 := hq29.1.symm
        subst e29
        have q29 := hq29.2
        rw [p2] at q29
        subst q29
        refine zp_Model_124 rfl (by first | omega | exact hR.1 _ _ (by decide) | exact zrng_toInt _) dX9_layTried_32 ?_
        refine z_withR (fun hR => ?_)
        refine z_iconst dX9_layTried_35 ?_
        refine zistore_6_5 dX9_layTried_36 ?_
        have fz : zfr [9] M1 (zmu M1 9 8 (n : Int)) := zfr.rf.mu (by decide)
        exact cloop (n * n) 0 _ (by omega) (f1.tr fz (fun _ z => z) (by decide)) (r1.tryN (fz.up (by decide)) (fun i hi => zmu_ne _ _ _ _ hi) (fun i hi => ⟨rfl, rfl, rfl⟩) (fun k' hk' => rfl)) (zmu_same _ _ _ _) e48 e49 e50 hk (fun j h => absurd h (Nat.not_lt_zero _)) (fun j h => absurd h (Nat.not_lt_zero _))
  refine zaload_6_0 dX9_layTried_0 ?_
  refine z_bipush dX9_layTried_1 (by decide) ?_
  refine ziload_6_1 dX9_layTried_3 ?_
  refine ziload_6_2 dX9_layTried_4 ?_
  refine ziload_6_3 dX9_layTried_5 ?_
  refine zc_Model_195 rfl dX9_layTried_6 (by decide) (Nat.le_of_ble_eq_true rfl) (sp_Model_set M 12 w a b (by omega) (by unfold zrng; omega) (by unfold zrng; omega) (by unfold zrng; omega)) (fun r6 M6 hq6 => ?_)
  refine z_withR (fun hR => ?_)
  subst hq6
  refine z_iconst dX9_layTried_9 ?_
  refine zistore_6_4 dX9_layTried_10 ?_
  have fz : zfr [48, 49, 50] M (zmu (zmu (zmu M 48 12 (w : Int)) 49 12 (a : Int)) 50 12 (b : Int)) := ((zfr.rf.mu (by decide)).mu (by decide)).mu (by decide)
  refine vloop (lS (wK B)) 0 _ _ (by omega) (fz.up (by decide)) (h.tryN (fz.up (by decide)) (fun i hi => by rw [fz 9 (by decide)]) (fun i hi => ?_) (fun k' hk' => by rw [fz 53 (by decide)])) ?_ ?_ ?_ (fun k hk => absurd hk (Nat.not_lt_zero _))
  · have h12 : i ≠ 12 := by omega
    refine ⟨?_, ?_, ?_⟩
    · rw [zmu_other _ _ _ _ (by decide), zmu_other _ _ _ _ (by decide), zmu_ne _ _ _ _ h12]
    · rw [zmu_other _ _ _ _ (by decide), zmu_ne _ _ _ _ h12, zmu_other _ _ _ _ (by decide)]
    · rw [zmu_ne _ _ _ _ h12, zmu_other _ _ _ _ (by decide), zmu_other _ _ _ _ (by decide)]
  · rw [zmu_other _ _ _ _ (by decide), zmu_other _ _ _ _ (by decide), zmu_same]
  · rw [zmu_other _ _ _ _ (by decide), zmu_same]
  · rw [zmu_same]
