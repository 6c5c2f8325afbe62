/-! turned about -/
def pt (p : Nat) : Nat := pb (pz p) + tau (pz p) (pq p)
theorem tau_cN {n k : Nat} (hn : okn n) : tau n k < cN n := by rw [cN_pow hn]; exact tau_lt hn
theorem pt_ok (p : Nat) : pz (pt p) = pz p ∧ pq (pt p) = tau (pz p) (pq p) ∧ pt p < 19700 := pz_of (pz_ok p) (tau_cN (pz_ok p))
theorem pE_pe {e : Nat} (he : e < 3341) : pE (pe e) = e := by
  obtain ⟨_, h2, h3, _⟩ := pe_ok he
  obtain ⟨k1, k2, k3⟩ := eK_ok he
  unfold pE
  rw [h2, h3, k2]
  exact k3
theorem lst_tau {n k : Nat} (hn : okn n) : lst n (tau n (lst n k)) = lst n (tau n k) := by
  obtain ⟨r, hr, e⟩ := lst_is (n := n) (k := k) hn
  rw [e, tau_rho hn hr, lst_rho hn hr]
theorem pE_pt (p : Nat) : pE (pt p) = tn (pE p) := by
  obtain ⟨_, h2, h3⟩ := pE_ok p
  obtain ⟨k1, k2, _⟩ := pt_ok p
  unfold tn
  rw [h2, h3, lst_tau (pz_ok p)]
  unfold pE
  rw [k1, k2]
theorem pE_pt_pe {e : Nat} (he : e < 3341) : pE (pt (pe e)) = tn e := by rw [pE_pt, pE_pe he]
theorem wK_pE {B : Nat → Nat → Nat} {p : Nat} (hw : wfT (B 1) (B 2) (B 0 0)) (hlw : ∀ l, l < B 3 0 → B 4 l < B 0 0 ∧ B 5 l < B 0 0) : wK B (pE p) = bKp B p := by
  unfold wK bKp
  congr 1
  refine propext (forall_congr' (fun l => ?_))
  constructor
  · intro h hl; rw [← pE_kp hw (hlw l hl).1 (hlw l hl).2]; exact h hl
  · intro h hl; rw [pE_kp hw (hlw l hl).1 (hlw l hl).2]; exact h hl
noncomputable def skP (B : Nat → Nat → Nat) (s p : Nat) : Bool := decide (∀ l, l < B 12 s → kp (B 1) (B 2) (pz p) (pq p) (B 13 (6 * s + l)) (B 14 (6 * s + l)) = true)
theorem sK_pE {B : Nat → Nat → Nat} {s p : Nat} (hw : wfT (B 1) (B 2) (B 0 0)) (hlw : ∀ l, l < B 12 s → B 13 (6 * s + l) < B 0 0 ∧ B 14 (6 * s + l) < B 0 0) : sK B s (pE p) = skP B s p := by
  unfold sK skP
  congr 1
  refine propext (forall_congr' (fun l => ?_))
  constructor
  · intro h hl; rw [← pE_kp hw (hlw l hl).1 (hlw l hl).2]; exact h hl
  · intro h hl; rw [pE_kp hw (hlw l hl).1 (hlw l hl).2]; exact h hl
theorem sp_Model_turned (M : zMem) (p : Nat) (hp : p < 19700) : zSp zd_Model_turned 2 [zr 9, zi p] M (fun r M' => zfr [9, 40] M M' ∧ (∀ i, i ≠ 8 → M' 9 i = M 9 i) ∧ r = (pt p : Nat)) := by
  refine zSp_in 2 [some (zr 9), some (zi p), none, none] rfl rfl (by decide +kernel) rfl ?_
  refine z_withR (fun hR => ?_)
  obtain ⟨n, hn⟩ : ∃ n, n = pz p := ⟨_, rfl⟩
  obtain ⟨k, hk⟩ : ∃ k, k = pq p := ⟨_, rfl⟩
  have hok : okn n := by rw [hn]; exact pz_ok p
  have hsq := sq_le hok
  have hn0 := hok.pos
  have hn3 := hok.le
  have hpb := pb_le hok
  have hpt : pt p = pb n + tau n k := by rw [hn, hk]; rfl
  rw [hpt]
  obtain ⟨post, hpost⟩ : ∃ post : Int → zMem → Prop, post = (fun (r : Int) M' => zfr [9, 40] M M' ∧ (∀ i, i ≠ 8 → M' 9 i = M 9 i) ∧ r = ((pb n + tau n k : Nat) : Int)) := ⟨_, rfl⟩
  rw [← hpost]
  have hEl : ∀ j, j ≤ n * n → encF n (tauF n k) j ≤ 19683 := by
    intro j hj
    have h1 := encF_lt (n := n) (f := tauF n k) hn0 j (fun i _ => dg_lt hn0)
    have h2 : n ^ j ≤ n ^ (n * n) := Nat.pow_le_pow_right hn0 hj
    have h3 : n ^ (n * n) ≤ 19683 := by rcases hok with rfl | rfl | rfl <;> decide
    omega
  have loop : ∀ (M1 : zMem), zfr [9, 40] M M1 → (∀ i, i ≠ 8 → M1 9 i = M 9 i) → tbR M1 n k → ∀ (c j : Nat), j + c = n * n → zV zd_Model_turned 2 9 [some (zr 9), some (zi p), some (zi (encF n (tauF n k) j : Nat)), some (zi j)] [] M1 post := by
    intro M1 f1 g1 t1 c
    have hs := t1.1
    induction c with
    | zero =>
      intro j hj
      have hE := hEl j (by omega)
      refine z_withR (fun hR => ?_)
      refine ziload_4_3 dX9_turned_9 ?_
      refine zaload_4_0 dX9_turned_10 ?_
      refine zg_Model_124 rfl dX9_turned_11 ?_
      refine z_top hs ?_
      refine zaload_4_0 dX9_turned_14 ?_
      refine zg_Model_124 rfl dX9_turned_15 ?_
      refine z_top hs ?_
      refine z_imul dX9_turned_18 ?_
      rw [← Int.natCast_mul]
      refine z_icmp_ge (tgt := 59) (by first | omega | exact hR.1 _ _ (by decide) | exact zrng_toInt _) (by first | omega | exact hR.1 _ _ (by decide) | exact zrng_toInt _) dX9_turned_19 (by decide) (fun h19 => ?_) (fun h19 => ?_)
      · refine zaload_4_0 dX9_turned_59 ?_
        refine zg_Model_124 rfl dX9_turned_60 ?_
        refine z_top hs ?_
        refine zc_Model_127 rfl dX9_turned_63 (by decide) (Nat.le_of_ble_eq_true rfl) (sp_Model_baseOf M1 n hok) (fun r63 M63 hq63 => ?_)
        refine z_withR (fun hR => ?_)
        have e63 := hq63.1.symm
        subst e63
        have q63 := hq63.2
        subst q63
        refine ziload_4_2 dX9_turned_66 ?_
        refine z_iadd dX9_turned_67 ?_
        refine z_iret rfl ?_ dX9_turned_68
        rw [hpost]
        refine ⟨f1, g1, ?_⟩
        rw [show tau n k = encF n (tauF n k) j by rw [show j = n * n by omega]; rfl]
        omega
      · omega
    | succ c ih =>
      intro j hj
      have hE := hEl j (by omega)
      have jd1 : j / n < n := Nat.div_lt_of_lt_mul (by omega)
      have jd2 : j % n < n := Nat.mod_lt _ hn0
      have eF : tauF n k j = dg n k (j % n * n + j / n) := rfl
      obtain ⟨x, hx⟩ : ∃ x, x = j / n := ⟨_, rfl⟩
      obtain ⟨y, hy⟩ : ∃ y, y = j % n := ⟨_, rfl⟩
      rw [← hx] at jd1
      rw [← hy] at jd2
      rw [← hx, ← hy] at eF
      have hidx : y * n + x < n * n := pair_lt jd2 jd1
      have tb := t1.2 (y * n + x) hidx
      have hdl := dg_lt (n := n) (k := k) (j := y * n + x) hn0
      have hS : encF n (tauF n k) (j + 1) = encF n (tauF n k) j * n + tauF n k j := rfl
      have k1 := ih (j + 1)
      rw [hS, eF] at k1
      generalize encF n (tauF n k) j = E at hE k1 ⊢
      have hEn : E * n ≤ 19683 * 3 := Nat.mul_le_mul hE hn3
      refine z_withR (fun hR => ?_)
      refine ziload_4_3 dX9_turned_9 ?_
      refine zaload_4_0 dX9_turned_10 ?_
      refine zg_Model_124 rfl dX9_turned_11 ?_
      refine z_top hs ?_
      refine zaload_4_0 dX9_turned_14 ?_
      refine zg_Model_124 rfl dX9_turned_15 ?_
      refine z_top hs ?_
      refine z_imul dX9_turned_18 ?_
      rw [← Int.natCast_mul]
      refine z_icmp_ge (tgt := 59) (by first | omega | exact hR.1 _ _ (by decide) | exact zrng_toInt _) (by first | omega | exact hR.1 _ _ (by decide) | exact zrng_toInt _) dX9_turned_19 (by decide) (fun h19 => ?_) (fun h19 => ?_)
      · omega
      · refine ziload_4_2 dX9_turned_22 ?_
        refine zaload_4_0 dX9_turned_23 ?_
        refine zg_Model_124 rfl dX9_turned_24 ?_
        refine z_top hs ?_
        refine z_imul dX9_turned_27 ?_
        rw [← Int.natCast_mul]
        refine zaload_4_0 dX9_turned_28 ?_
        refine zg_Model_29 rfl dX9_turned_29 ?_
        refine ziload_4_3 dX9_turned_32 ?_
        refine zaload_4_0 dX9_turned_33 ?_
        refine zg_Model_124 rfl dX9_turned_34 ?_
        refine z_top hs ?_
        refine z_irem (by omega) (by omega) dX9_turned_37 ?_
        refine z_top (y := (y : Int)) (by rw [hy]; rfl) ?_
        refine zaload_4_0 dX9_turned_38 ?_
        refine zg_Model_124 rfl dX9_turned_39 ?_
        refine z_top hs ?_
        refine z_imul dX9_turned_42 ?_
        rw [← Int.natCast_mul]
        refine ziload_4_3 dX9_turned_43 ?_
        refine zaload_4_0 dX9_turned_44 ?_
        refine zg_Model_124 rfl dX9_turned_45 ?_
        refine z_top hs ?_
        refine z_idiv (by omega) (by omega) dX9_turned_48 ?_
        refine z_top (y := (x : Int)) (by rw [hx]; rfl) ?_
        refine z_iadd dX9_turned_49 ?_
        rw [← Int.natCast_add]
        refine z_iald _ rfl (by decide) (by decide) rfl (by omega) dX9_turned_50 ?_
        refine z_top tb ?_
        refine z_iadd dX9_turned_51 ?_
        rw [← Int.natCast_add]
        refine zistore_4_2 dX9_turned_52 ?_
        refine ziinc_4_3 dX9_turned_53 ?_
        refine z_goto (tgt := 9) dX9_turned_56 (by decide) ?_
        exact k1 (by omega)
  refine zaload_4_0 dX9_turned_0 ?_
  refine ziload_4_1 dX9_turned_1 ?_
  refine zc_Model_138 rfl dX9_turned_2 (by decide) (Nat.le_of_ble_eq_true rfl) (sp_Model_layWorld M p hp) (fun r2 M2 hq2 => ?_)
  refine z_withR (fun hR => ?_)
  obtain ⟨f2, g2, t2⟩ := hq2
  rw [← hn, ← hk] at t2
  refine z_iconst dX9_turned_5 ?_
  refine zistore_4_2 dX9_turned_6 ?_
  refine z_iconst dX9_turned_7 ?_
  refine zistore_4_3 dX9_turned_8 ?_
  exact loop M2 f2 g2 t2 (n * n) 0 (by omega)
theorem sp_Model_even (M : zMem) (B : Nat → Nat → Nat) (h : abR M B) : zSp zd_Model_even 4 [zr 9] M (fun r M' => rOK M M' B r (fEven B)) := by
  refine zSp_in 1 [some (zr 9), none] rfl rfl (by decide +kernel) rfl ?_
  refine z_withR (fun hR => ?_)
  have hP6 := h.1.2.2.2.1.2.1
  have hw := h.1.1.2.2.2.1
  have hlw := h.lw
  obtain ⟨post, hpost⟩ : ∃ post : Int → zMem → Prop, post = (fun (r : Int) M' => rOK M M' B r (fEven B)) := ⟨_, rfl⟩
  rw [← hpost]
  have hbl : ∀ k, brN B k < 2 ^ 6 := fun k => Nat.lt_of_lt_of_le (bm_lt _ _) (Nat.pow_le_pow_right (by decide) hP6)
  have lp : ∀ (M0 : zMem), zfr [9, 40, 41, 42, 43, 45, 46] M M0 → abR M0 B → laid M0 B → ∀ (c k : Nat) (M1 : zMem), k + c = 19700 → zfr [9, 40] M0 M1 → (∀ i, i ≠ 8 → M1 9 i = M0 9 i) → (∀ p, p < k → bKp B p = true → bKp B (pt p) = true) → zV zd_Model_even 4 6 [some (zr 9), some (zi k)] [] M1 post := by
    intro M0 f0 a0 l0 c
    have fin : ∀ (M1 : zMem) (r : Int), zfr [9, 40] M0 M1 → (∀ i, i ≠ 8 → M1 9 i = M0 9 i) → r = fEven B → post r M1 := by
      intro M1 r f1 g1 hr
      rw [hpost]
      exact ⟨hr, f0.tr f1 (by decide) (by decide), a0.1.fr f1 (by decide) (g1 _ (by decide)) (g1 _ (by decide)) (g1 _ (by decide)), a0.2.fr f1 (by decide) (g1 _ (by decide)) (g1 _ (by decide)) (g1 _ (by decide))⟩
    induction c with
    | zero =>
      intro k M1 hk f1 g1 hy
      refine z_withR (fun hR => ?_)
      refine ziload_2_1 dX9_even_6 ?_
      refine z_sipush dX9_even_7 (by decide) ?_
      refine z_icmp_ge (tgt := 43) (by first | omega | exact hR.1 _ _ (by decide) | exact zrng_toInt _) (by first | omega | exact hR.1 _ _ (by decide) | exact zrng_toInt _) dX9_even_10 (by decide) (fun h10 => ?_) (fun h10 => ?_)
      · refine z_iconst dX9_even_43 ?_
        refine z_iret rfl ?_ dX9_even_44
        refine fin M1 _ f1 g1 ?_
        unfold fEven
        rw [if_pos]
        intro e he hwe
        have h1 := hy (pe e) (by have := (pe_ok he).1; omega)
        rw [← wK_pE hw hlw, ← wK_pE hw hlw, pE_pe he, pE_pt_pe he] at h1
        exact h1 hwe
      · omega
    | succ c ih =>
      intro k M1 hk f1 g1 hy
      have hb1 : M1 43 k = (brN B k : Nat) := by rw [f1 43 (by decide)]; exact l0.1 k (by omega)
      have hl1 := hbl k
      have hl2 := hbl (pt k)
      have hpt := (pt_ok k).2.2
      refine z_withR (fun hR => ?_)
      refine ziload_2_1 dX9_even_6 ?_
      refine z_sipush dX9_even_7 (by decide) ?_
      refine z_icmp_ge (tgt := 43) (by first | omega | exact hR.1 _ _ (by decide) | exact zrng_toInt _) (by first | omega | exact hR.1 _ _ (by decide) | exact zrng_toInt _) dX9_even_10 (by decide) (fun h10 => ?_) (fun h10 => ?_)
      · omega
      · refine zaload_2_0 dX9_even_13 ?_
        refine zg_Model_39 rfl dX9_even_14 ?_
        refine ziload_2_1 dX9_even_17 ?_
        refine z_iald _ rfl (by decide) (by decide) rfl (by omega) dX9_even_18 ?_
        refine z_top hb1 ?_
        refine z_if_ne (tgt := 37) (by first | omega | exact hR.1 _ _ (by decide) | exact zrng_toInt _) dX9_even_19 (by decide) (fun h19 => ?_) (fun h19 => ?_)
        · have hno : ¬ bKp B k = true := fun z => h19 (by rw [brN_zero.mpr z]; rfl)
          refine ziinc_2_1 dX9_even_37 ?_
          refine z_goto (tgt := 6) dX9_even_40 (by decide) ?_
          first
            | exact ih (k + 1) M1 (by omega) f1 g1 (fun p hp hz => by
                by_cases e : p = k
                · rw [e] at hz; exact absurd hz hno
                · exact hy p (by omega) hz)
            | exact ih (k + 1) M28 (by omega) ff gg (fun p hp hz => by
                by_cases e : p = k
                · rw [e]; exact hyes2
                · exact hy p (by omega) hz)
        · have hyes : bKp B k = true := brN_zero.mp (by omega)
          refine zaload_2_0 dX9_even_22 ?_
          refine zg_Model_39 rfl dX9_even_23 ?_
          refine zaload_2_0 dX9_even_26 ?_
          refine ziload_2_1 dX9_even_27 ?_
          refine zc_Model_249 rfl dX9_even_28 (by decide) (Nat.le_of_ble_eq_true rfl) (sp_Model_turned M1 k (by omega)) (fun r28 M28 hq28 => ?_)
          refine z_withR (fun hR => ?_)
          obtain ⟨f28, g28, q28⟩ := hq28
          subst q28
          have ff : zfr [9, 40] M0 M28 := f1.tr f28 (by decide) (by decide)
          have gg : ∀ i, i ≠ 8 → M28 9 i = M0 9 i := fun i hi => by rw [g28 i hi]; exact g1 i hi
          have hb2 : M28 43 (pt k) = (brN B (pt k) : Nat) := by rw [ff 43 (by decide)]; exact l0.1 _ hpt
          refine z_iald _ rfl (by decide) (by decide) rfl (by omega) dX9_even_31 ?_
          refine z_top hb2 ?_
          refine z_if_eq (tgt := 37) (by first | omega | exact hR.1 _ _ (by decide) | exact zrng_toInt _) dX9_even_32 (by decide) (fun h32 => ?_) (fun h32 => ?_)
          · have hyes2 : bKp B (pt k) = true := brN_zero.mp (by omega)
            refine ziinc_2_1 dX9_even_37 ?_
            refine z_goto (tgt := 6) dX9_even_40 (by decide) ?_
            first
              | exact ih (k + 1) M1 (by omega) f1 g1 (fun p hp hz => by
                  by_cases e : p = k
                  · rw [e] at hz; exact absurd hz hno
                  · exact hy p (by omega) hz)
              | exact ih (k + 1) M28 (by omega) ff gg (fun p hp hz => by
                  by_cases e : p = k
                  · rw [e]; exact hyes2
                  · exact hy p (by omega) hz)
          · have hno2 : ¬ bKp B (pt k) = true := fun z => h32 (by rw [brN_zero.mpr z]; rfl)
            refine z_iconst dX9_even_35 ?_
            refine z_iret rfl ?_ dX9_even_36
            refine fin M28 _ ff gg ?_
            unfold fEven
            rw [if_neg]
            intro hz
            have h1 := hz (pE k) (pE_ok k).1
            rw [← pE_pt, wK_pE hw hlw, wK_pE hw hlw] at h1
            exact hno2 (h1 hyes)
  refine zaload_2_0 dX9_even_0 ?_
  refine zc_Model_175 rfl dX9_even_1 (by decide) (Nat.le_of_ble_eq_true rfl) (sp_Model_layAll M B h.1.1 h.1.2.2.2.1 h.cache) (fun r1 M1 hq1 => ?_)
  refine z_withR (fun hR => ?_)
  obtain ⟨f12, g12, i12, l12, c12⟩ := hq1
  have hab := h.after f12 g12 i12 l12 c12
  refine z_iconst dX9_even_4 ?_
  refine zistore_2_1 dX9_even_5 ?_
  exact lp M1 f12 hab l12 19700 0 M1 (by omega) zfr.rf (fun _ _ => rfl) (fun p h => absurd h (Nat.not_lt_zero _))
theorem abR.keep {M M' : zMem} {B : Nat → Nat → Nat} {s : Nat} (h : abR M B) (hs : s < 2) (hf : zfr [56, 57, 58] M M') (h56 : ∀ i, M' 56 i = if i = s then (B 3 0 : Int) else M 56 i) (h57 : ∀ i, M' 57 i = if 6 * s ≤ i ∧ i < 6 * s + B 3 0 then (B 4 (i - 6 * s) : Int) else M 57 i) (h58 : ∀ i, M' 58 i = if 6 * s ≤ i ∧ i < 6 * s + B 3 0 then (B 5 (i - 6 * s) : Int) else M 58 i) : abR M' (bKeep B s) := by
  obtain ⟨⟨h1, h2, h3, h4, h5, h6, h7⟩, hc⟩ := h
  have g9 : M' 9 = M 9 := hf 9 (by decide)
  have bo : ∀ c, c ≠ 12 → c ≠ 13 → c ≠ 14 → bKeep B s c = B c := fun c a b d => by unfold bKeep; rw [if_neg a, if_neg b, if_neg d]
  have b0 := bo 0 (by decide) (by decide) (by decide)
  have b1 := bo 1 (by decide) (by decide) (by decide)
  have b2 := bo 2 (by decide) (by decide) (by decide)
  have b3 := bo 3 (by decide) (by decide) (by decide)
  have b4 := bo 4 (by decide) (by decide) (by decide)
  have b5 := bo 5 (by decide) (by decide) (by decide)
  have b6 := bo 6 (by decide) (by decide) (by decide)
  have b7 := bo 7 (by decide) (by decide) (by decide)
  have b8 := bo 8 (by decide) (by decide) (by decide)
  have b9 := bo 9 (by decide) (by decide) (by decide)
  have b10 := bo 10 (by decide) (by decide) (by decide)
  have b11 := bo 11 (by decide) (by decide) (by decide)
  have hP6 := h4.2.1
  refine ⟨⟨?_, ?_, ?_, ?_, ?_, ?_, ?_⟩, (hc.fr hf (by decide) (by rw [g9]) (by rw [g9]) (by rw [g9])).re (by rw [b3]) (by rw [b6]; exact Nat.le_refl _) (fun n k l hl => by rw [b1, b2, b4, b5]) (fun e i hi => by unfold bS; rw [b1, b2, b7, b8, b9])⟩
  · rw [b0, b1, b2]; exact h1.fr hf (by rw [g9]) (by decide) (by decide)
  · rw [b0, b1, b2]; exact h2
  · rw [b0, b1, b2, hf 37 (by decide)]; exact h3
  · rw [b0, b3, b4, b5]; exact h4.fr hf (by rw [g9]) (by decide) (by decide)
  · unfold ntR bAw
    rw [b0, b6, b7, b8, b9, b10, g9, hf 48 (by decide), hf 49 (by decide), hf 50 (by decide), hf 51 (by decide)]
    exact h5
  · rw [b11, hf 54 (by decide)]; exact h6
  · intro s' hs'
    rw [b0]
    by_cases e : s' = s
    · subst e
      have e12 : bKeep B s' 12 s' = B 3 0 := fup_s
      rw [e12]
      refine ⟨by rw [h56, if_pos rfl], hP6, fun l hl => ?_⟩
      have e13 : bKeep B s' 13 (6 * s' + l) = B 4 l := by
        show (if 6 * s' ≤ 6 * s' + l ∧ 6 * s' + l < 6 * s' + B 3 0 then B 4 (6 * s' + l - 6 * s') else B 13 (6 * s' + l)) = _
        rw [if_pos (by omega), Nat.add_sub_cancel_left]
      have e14 : bKeep B s' 14 (6 * s' + l) = B 5 l := by
        show (if 6 * s' ≤ 6 * s' + l ∧ 6 * s' + l < 6 * s' + B 3 0 then B 5 (6 * s' + l - 6 * s') else B 14 (6 * s' + l)) = _
        rw [if_pos (by omega), Nat.add_sub_cancel_left]
      rw [e13, e14, h57, h58, if_pos (by omega), if_pos (by omega), Nat.add_sub_cancel_left]
      exact ⟨⟨rfl, rfl⟩, (h4.2.2 l hl).2⟩
    · obtain ⟨k1, k2, k3⟩ := h7 s' hs'
      obtain ⟨e1, e2⟩ := bKeep_other (B := B) e k2 hP6
      rw [e1]
      refine ⟨by rw [h56, if_neg e]; exact k1, k2, fun l hl => ?_⟩
      rw [(e2 l hl).1, (e2 l hl).2, h57, h58, if_neg (by omega), if_neg (by omega)]
      exact k3 l hl
theorem sp_Model_keep (M : zMem) (B : Nat → Nat → Nat) (s : Int) (hsr : zrng s) (h : abR M B) : zSp zd_Model_keep 2 [zr 9, zi s] M (fun r M' => rOK M M' (gKeep B s) r (fKeep B s)) := by
  refine zSp_in 1 [some (zr 9), some (zi s), none] rfl rfl (by decide +kernel) rfl ?_
  refine z_withR (fun hR => ?_)
  obtain ⟨p1, p2, p3⟩ := id h.1.2.2.2.1
  obtain ⟨post, hpost⟩ : ∃ post : Int → zMem → Prop, post = (fun (r : Int) M' => rOK M M' (gKeep B s) r (fKeep B s)) := ⟨_, rfl⟩
  rw [← hpost]
  have lp : ∀ (s' : Nat), s = s' → s' < 2 → ∀ (c l : Nat) (M1 : zMem), l + c = B 3 0 → zfr [56, 57, 58] M M1 → (∀ i, M1 56 i = if i = s' then (B 3 0 : Int) else M 56 i) → (∀ i, M1 57 i = if 6 * s' ≤ i ∧ i < 6 * s' + l then (B 4 (i - 6 * s') : Int) else M 57 i) → (∀ i, M1 58 i = if 6 * s' ≤ i ∧ i < 6 * s' + l then (B 5 (i - 6 * s') : Int) else M 58 i) → zV zd_Model_keep 2 24 [some (zr 9), some (zi s'), some (zi l)] [] M1 post := by
    intro s' es hs' c
    subst es
    induction c with
    | zero =>
      intro l M1 hl f1 h56 h57 h58
      have hL : M1 9 4 = (B 3 0 : Nat) := by rw [f1 9 (by decide)]; exact p1
      refine z_withR (fun hR => ?_)
      refine ziload_3_2 dX9_keep_24 ?_
      refine zaload_3_0 dX9_keep_25 ?_
      refine zg_Model_113 rfl dX9_keep_26 ?_
      refine z_top hL ?_
      refine z_icmp_ge (tgt := 72) (by first | omega | exact hR.1 _ _ (by decide) | exact zrng_toInt _) (by first | omega | exact hR.1 _ _ (by decide) | exact zrng_toInt _) dX9_keep_29 (by decide) (fun h29 => ?_) (fun h29 => ?_)
      · refine zaload_3_0 dX9_keep_72 ?_
        refine zg_Model_113 rfl dX9_keep_73 ?_
        refine z_top hL ?_
        refine z_iret rfl ?_ dX9_keep_76
        rw [hpost]
        unfold fKeep gKeep
        rw [if_pos (show inR (s' : Int) 2 from ⟨by omega, by omega⟩), if_pos (show inR (s' : Int) 2 from ⟨by omega, by omega⟩), Int.toNat_natCast]
        rw [show l = B 3 0 by omega] at h57 h58
        exact ⟨rfl, f1.up (by decide), h.keep hs' f1 h56 h57 h58⟩
      · omega
    | succ c ih =>
      intro l M1 hl f1 h56 h57 h58
      have hL : M1 9 4 = (B 3 0 : Nat) := by rw [f1 9 (by decide)]; exact p1
      have eA : M1 38 l = (B 4 l : Nat) := by rw [f1 38 (by decide)]; exact (p3 l (by omega)).1.1
      have eB : M1 39 l = (B 5 l : Nat) := by rw [f1 39 (by decide)]; exact (p3 l (by omega)).1.2
      have t20 := h.1.1.2.2.1
      have hAB := (p3 l (by omega)).2
      refine z_withR (fun hR => ?_)
      refine ziload_3_2 dX9_keep_24 ?_
      refine zaload_3_0 dX9_keep_25 ?_
      refine zg_Model_113 rfl dX9_keep_26 ?_
      refine z_top hL ?_
      refine z_icmp_ge (tgt := 72) (by first | omega | exact hR.1 _ _ (by decide) | exact zrng_toInt _) (by first | omega | exact hR.1 _ _ (by decide) | exact zrng_toInt _) dX9_keep_29 (by decide) (fun h29 => ?_) (fun h29 => ?_)
      · omega
      · refine zaload_3_0 dX9_keep_32 ?_
        refine zg_Model_81 rfl dX9_keep_33 ?_
        refine z_bipush dX9_keep_36 (by decide) ?_
        refine ziload_3_1 dX9_keep_38 ?_
        refine z_imul dX9_keep_39 ?_
        refine ziload_3_2 dX9_keep_40 ?_
        refine z_iadd dX9_keep_41 ?_
        refine zaload_3_0 dX9_keep_42 ?_
        refine zg_Model_23 rfl dX9_keep_43 ?_
        refine ziload_3_2 dX9_keep_46 ?_
        refine z_iald _ rfl (by decide) (by decide) rfl (by omega) dX9_keep_47 ?_
        refine z_top eA ?_
        refine z_iast (6 * s' + l) (by decide) rfl (by decide) (by decide) (by omega) (by omega) (by first | omega | exact hR.1 _ _ (by decide) | exact zrng_toInt _) dX9_keep_48 ?_
        refine z_withR (fun hR => ?_)
        refine zaload_3_0 dX9_keep_49 ?_
        refine zg_Model_84 rfl dX9_keep_50 ?_
        refine z_bipush dX9_keep_53 (by decide) ?_
        refine ziload_3_1 dX9_keep_55 ?_
        refine z_imul dX9_keep_56 ?_
        refine ziload_3_2 dX9_keep_57 ?_
        refine z_iadd dX9_keep_58 ?_
        refine zaload_3_0 dX9_keep_59 ?_
        refine zg_Model_26 rfl dX9_keep_60 ?_
        refine ziload_3_2 dX9_keep_63 ?_
        refine z_iald _ rfl (by decide) (by decide) rfl (by omega) dX9_keep_64 ?_
        refine z_top (y := (B 5 l : Int)) (by rw [zmu_other _ _ _ _ (by decide)]; exact eB) ?_
        refine z_iast (6 * s' + l) (by decide) rfl (by decide) (by decide) (by omega) (by omega) (by first | omega | exact hR.1 _ _ (by decide) | exact zrng_toInt _) dX9_keep_65 ?_
        refine z_withR (fun hR => ?_)
        refine ziinc_3_2 dX9_keep_66 ?_
        refine z_goto (tgt := 24) dX9_keep_69 (by decide) ?_
        refine ih (l + 1) _ (by omega) ((f1.mu (by decide)).mu (by decide)) (fun i => ?_) (fun i => ?_) (fun i => ?_)
        · rw [zmu_other _ _ _ _ (by decide), zmu_other _ _ _ _ (by decide)]; exact h56 i
        · rw [zmu_other _ _ _ _ (by decide)]
          by_cases e : i = 6 * s' + l
          · rw [e, zmu_same, if_pos (by omega), Nat.add_sub_cancel_left]
          · rw [zmu_ne _ _ _ _ e, h57]
            by_cases e2 : 6 * s' ≤ i ∧ i < 6 * s' + l
            · rw [if_pos e2, if_pos (by omega)]
            · rw [if_neg e2, if_neg (by omega)]
        · by_cases e : i = 6 * s' + l
          · rw [e, zmu_same, if_pos (by omega), Nat.add_sub_cancel_left]
          · rw [zmu_ne _ _ _ _ e, zmu_other _ _ _ _ (by decide), h58]
            by_cases e2 : 6 * s' ≤ i ∧ i < 6 * s' + l
            · rw [if_pos e2, if_pos (by omega)]
            · rw [if_neg e2, if_neg (by omega)]
  refine ziload_3_1 dX9_keep_0 ?_
  refine z_i2l (by first | omega | exact hR.1 _ _ (by decide) | exact zrng_toInt _) dX9_keep_1 ?_
  refine z_lconst 0 dX9_keep_2 rfl ?_
  refine z_lconst 1 dX9_keep_3 rfl ?_
  refine zc_Model_105 rfl dX9_keep_4 (by decide) (Nat.le_of_ble_eq_true rfl) (sp_Model_in M s 0 1 hsr (by decide) (by decide)) (fun r4 M4 hq4 => ?_)
  refine z_withR (fun hR => ?_)
  have e4 := hq4.1.symm
  subst e4
  have q4 := hq4.2
  have q4 := or_if q4
  refine z_if_ne (tgt := 12) (or_rng q4) dX9_keep_7 (by decide) (fun h7 => ?_) (fun h7 => ?_)
  · have y0 := or_yes q4 h7
    obtain ⟨s', hs'⟩ : ∃ s' : Nat, s = s' := ⟨s.toNat, by omega⟩
    refine zaload_3_0 dX9_keep_12 ?_
    refine zg_Model_78 rfl dX9_keep_13 ?_
    refine ziload_3_1 dX9_keep_16 ?_
    refine zaload_3_0 dX9_keep_17 ?_
    refine zg_Model_113 rfl dX9_keep_18 ?_
    refine z_top p1 ?_
    refine z_iast (s') (by decide) rfl (by decide) (by decide) (by omega) (by omega) (by first | omega | exact hR.1 _ _ (by decide) | exact zrng_toInt _) dX9_keep_21 ?_
    refine z_withR (fun hR => ?_)
    refine z_iconst dX9_keep_22 ?_
    refine zistore_3_2 dX9_keep_23 ?_
    have k := lp s' hs' (by omega) (B 3 0) 0 (zmu M 56 s' (B 3 0 : Int)) (by omega) (zfr.rf.mu (by decide)) (fun i => ?_) (fun i => ?_) (fun i => ?_)
    · rw [← hs'] at k
      exact k
    · by_cases e : i = s'
      · rw [e, zmu_same, if_pos rfl]
      · rw [zmu_ne _ _ _ _ e, if_neg e]
    · rw [zmu_other _ _ _ _ (by decide), if_neg (by omega)]
    · rw [zmu_other _ _ _ _ (by decide), if_neg (by omega)]
  · have y0 := or_no q4 h7
    refine z_iconst dX9_keep_10 ?_
    refine z_iret rfl ?_ dX9_keep_11
    rw [hpost]
    unfold fKeep gKeep
    rw [if_neg (fun z => y0 ⟨z.1, by have := z.2; omega⟩), if_neg (fun z => y0 ⟨z.1, by have := z.2; omega⟩)]
    exact ⟨rfl, zfr.rf, h⟩
