theorem z_top {μ : zD} {d pc : Nat} {ls : List (Option zAV)} {st : List zAV} {M : zMem} {post : Int → zMem → Prop} {x y : Int} (h : x = y) (k : zV μ d pc ls (zi y :: st) M post) : zV μ d pc ls (zi x :: st) M post := by rw [h]; exact k
/-- only the cells S have changed -/
def zfr (S : List Nat) (M M' : zMem) : Prop := ∀ c, c ∉ S → M' c = M c
theorem zfr.rf {S : List Nat} {M : zMem} : zfr S M M := fun _ _ => rfl
theorem zfr.tr {S T U : List Nat} {M M1 M2 : zMem} (h1 : zfr S M M1) (h2 : zfr T M1 M2) (hS : ∀ c ∈ S, c ∈ U) (hT : ∀ c ∈ T, c ∈ U) : zfr U M M2 := fun c hc => (h2 c (fun h => hc (hT c h))).trans (h1 c (fun h => hc (hS c h)))
theorem zfr.mu {S : List Nat} {M M1 : zMem} {c i : Nat} {v : Int} (h : zfr S M M1) (hc : c ∈ S) : zfr S M (zmu M1 c i v) := fun c' h' => by
  rw [zmu_other _ _ _ _ (fun e => h' (by rw [e]; exact hc))]
  exact h c' h'
theorem zfr.up {S T : List Nat} {M M1 : zMem} (h : zfr S M M1) (hS : ∀ c ∈ S, c ∈ T) : zfr T M M1 := fun c hc => h c (fun z => hc (hS c z))
/-- the table holds the world of size n and number k -/
def tbl (M : zMem) (n k : Nat) : Prop := M 3 2 = n ∧ ∀ j, j < n * n → M 15 j = dg n k j
theorem sq_le {n : Nat} (hn : okn n) : n * n ≤ 9 ∧ 1 ≤ n * n := by rcases hn with rfl | rfl | rfl <;> decide
theorem sp_Table_load (M : zMem) (n k : Nat) (hn : okn n) (hk : k < 2147483648) : zSp zd_Table_load 1 [zr 3, zi n, zi k] M (fun _ M' => zfr [3, 15] M M' ∧ tbl M' n k) := by
  refine zSp_in 2 [some (zr 3), some (zi n), some (zi k), none, none] rfl rfl (by decide +kernel) rfl ?_
  refine z_withR (fun hR => ?_)
  have hn3 := hn.le
  have hn0 := hn.pos
  have hq := sq_le hn
  have loop : ∀ (m : Nat) (M1 : zMem), m ≤ n * n → zfr [3, 15] M M1 → M1 3 2 = n → (∀ j, m ≤ j → j < n * n → M1 15 j = dg n k j) → zV zd_Table_load 1 22 [some (zr 3), some (zi n), some (zi k), some (zi ((k / n ^ (n * n - m) : Nat) : Int)), some (zi ((m : Int) - 1))] [] M1 (fun _ M' => zfr [3, 15] M M' ∧ tbl M' n k) := by
    intro m
    induction m with
    | zero =>
      intro M1 hm hf hs hc
      refine z_withR (fun hR => ?_)
      refine ziload_5_4 dX6_load_22 ?_
      refine z_if_lt (tgt := 47) (by first | omega | exact hR.1 _ _ (by decide) | exact zrng_toInt _) dX6_load_24 (by decide) (fun h24 => ?_) (fun h24 => ?_)
      · refine z_vret rfl ?_ dX6_load_47
        exact ⟨hf, hs, fun j hj => hc j (Nat.zero_le _) hj⟩
      · omega
    | succ m ih =>
      intro M1 hm hf hs hc
      refine z_withR (fun hR => ?_)
      have hb : k / n ^ (n * n - (m + 1)) < 2147483648 := Nat.lt_of_le_of_lt (Nat.div_le_self _ _) hk
      have e1 : k / n ^ (n * n - (m + 1)) / n = k / n ^ (n * n - m) := by
        rw [Nat.div_div_eq_div_mul, ← Nat.pow_succ, show (n * n - (m + 1)).succ = n * n - m by omega]
      have e2 : k / n ^ (n * n - (m + 1)) % n = dg n k m := by unfold dg; rw [show n * n - 1 - m = n * n - (m + 1) by omega]
      have hd := dg_lt (n := n) (k := k) (j := m) hn0
      rw [show ((m + 1 : Nat) : Int) - 1 = (m : Int) by omega]
      generalize k / n ^ (n * n - (m + 1)) = Q at hb e1 e2 ⊢
      refine ziload_5_4 dX6_load_22 ?_
      refine z_if_lt (tgt := 47) (by first | omega | exact hR.1 _ _ (by decide) | exact zrng_toInt _) dX6_load_24 (by decide) (fun h24 => ?_) (fun h24 => ?_)
      · omega
      · refine zaload_5_0 dX6_load_27 ?_
        refine zg_Table_9 rfl dX6_load_28 ?_
        refine ziload_5_4 dX6_load_31 ?_
        refine ziload_5_3 dX6_load_33 ?_
        refine ziload_5_1 dX6_load_34 ?_
        refine z_irem (by omega) (by omega) dX6_load_35 ?_
        refine z_top (y := ((dg n k m : Nat) : Int)) (by rw [← e2]; rfl) ?_
        refine z_iast (m) (by decide) rfl (by decide) (by decide) (by omega) (by omega) (by first | omega | exact hR.1 _ _ (by decide) | exact zrng_toInt _) dX6_load_36 ?_
        refine z_withR (fun hR => ?_)
        refine ziload_5_3 dX6_load_37 ?_
        refine ziload_5_1 dX6_load_38 ?_
        refine z_idiv (by omega) (by omega) dX6_load_39 ?_
        refine z_top (y := ((k / n ^ (n * n - m) : Nat) : Int)) (by rw [← e1]; rfl) ?_
        refine zistore_5_3 dX6_load_40 ?_
        refine ziinc_5_4 dX6_load_41 ?_
        refine z_goto (tgt := 22) dX6_load_44 (by decide) ?_
        refine ih _ (by omega) (hf.mu (by decide)) hs (fun j h1 h2 => ?_)
        rcases Nat.lt_or_ge m j with q | q
        · rw [zmu_ne _ _ _ _ (by omega)]; exact hc j (by omega) h2
        · rw [show j = m by omega, zmu_same]
  refine ziload_5_1 dX6_load_0 ?_
  refine zc_Table_24 rfl dX6_load_1 (by decide) (Nat.le_of_ble_eq_true rfl) (sp_S_isSize M n (by omega)) (fun r1 M1 hq1 => ?_)
  refine z_withR (fun hR => ?_)
  obtain ⟨rfl, rfl⟩ := hq1
  refine z_if_ne (tgt := 8) (by split <;> omega) dX6_load_4 (by decide) (fun h4 => ?_) (fun h4 => ?_)
  · refine zaload_5_0 dX6_load_8 ?_
    refine ziload_5_1 dX6_load_9 ?_
    refine zp_Table_20 rfl (by first | omega | exact hR.1 _ _ (by decide) | exact zrng_toInt _) dX6_load_10 ?_
    refine z_withR (fun hR => ?_)
    refine ziload_5_2 dX6_load_13 ?_
    refine zistore_5_3 dX6_load_14 ?_
    refine ziload_5_1 dX6_load_15 ?_
    refine ziload_5_1 dX6_load_16 ?_
    refine z_imul dX6_load_17 ?_
    refine z_iconst dX6_load_18 ?_
    refine z_isub dX6_load_19 ?_
    refine zistore_5_4 dX6_load_20 ?_
    have e0 : k = k / n ^ (n * n - n * n) := by simp
    have := loop (n * n) (zmu M1 3 2 n) (Nat.le_refl _) (zfr.rf.mu (by decide)) rfl (fun j h1 h2 => by omega)
    rw [← e0] at this
    exact this
  · exact absurd h4 (by rw [if_pos (by omega)]; decide)
