theorem z_iald {μ : zD} {d pc : Nat} {ls : List (Option zAV)} {st : List zAV} {M : zMem} {post : Int → zMem → Prop} {x : Int} {q n : Nat} (j : Nat) (hsh : zsh q = .inl (0, n)) (hc : q < 65) (hn : n < 2147483648) (hx : x = (j : Int)) (hj : j < n) (hd : decode μ.2.1 pc = .ok (.iaload, 1)) (k : zV μ d (pc + 1) ls (zi (M q j) :: st) M post) : zV μ d pc ls (zi x :: zr q :: st) M post := by
  intro hR l dC dI as cA p e s m args below meth c H locs lsA hC hP hD hS hL
  obtain ⟨h1, h2⟩ := z_in hx hj hn
  have k := k hR l dC dI as cA p e s m args below meth c H locs lsA hC hP hD hS hL
  simp only [List.map, zcv] at k ⊢
  refine va_iald hC.1 hC.2.1 hC.2.2.2.2.2.2.2.1 hP q 0 (by rw [zw_at as cA M hc, zE_i as cA M hsh]) rfl h1 hd ?_
  simp only [h2]
  exact k
theorem z_zald {μ : zD} {d pc : Nat} {ls : List (Option zAV)} {st : List zAV} {M : zMem} {post : Int → zMem → Prop} {x : Int} {q n : Nat} (j : Nat) (hsh : zsh q = .inl (2, n)) (hc : q < 65) (hn : n < 2147483648) (hx : x = (j : Int)) (hj : j < n) (hd : decode μ.2.1 pc = .ok (.baload, 1)) (k : zV μ d (pc + 1) ls (zi (M q j) :: st) M post) : zV μ d pc ls (zi x :: zr q :: st) M post := by
  intro hR l dC dI as cA p e s m args below meth c H locs lsA hC hP hD hS hL
  obtain ⟨h1, h2⟩ := z_in hx hj hn
  have k := k hR l dC dI as cA p e s m args below meth c H locs lsA hC hP hD hS hL
  simp only [List.map, zcv] at k ⊢
  refine va_zald hC.1 hC.2.1 hC.2.2.2.2.2.2.2.1 hP q 2 (by rw [zw_at as cA M hc, zE_z as cA M hsh]) rfl h1 hd ?_
  simp only [h2]
  exact k
theorem z_lald {μ : zD} {d pc : Nat} {ls : List (Option zAV)} {st : List zAV} {M : zMem} {post : Int → zMem → Prop} {x : Int} {q n : Nat} (j : Nat) (hsh : zsh q = .inl (1, n)) (hc : q < 65) (hn : n < 2147483648) (hx : x = (j : Int)) (hj : j < n) (hd : decode μ.2.1 pc = .ok (.laload, 1)) (k : zV μ d (pc + 1) ls (zl (M q j) :: st) M post) : zV μ d pc ls (zi x :: zr q :: st) M post := by
  intro hR l dC dI as cA p e s m args below meth c H locs lsA hC hP hD hS hL
  obtain ⟨h1, h2⟩ := z_in hx hj hn
  have k := k hR l dC dI as cA p e s m args below meth c H locs lsA hC hP hD hS hL
  simp only [List.map, zcv] at k ⊢
  refine va_lald hC.1 hC.2.1 hC.2.2.2.2.2.2.2.1 hP q 1 (by rw [zw_at as cA M hc, zE_l as cA M hsh]) rfl h1 hd ?_
  simp only [h2]
  exact k
theorem z_iast {μ : zD} {d pc : Nat} {ls : List (Option zAV)} {st : List zAV} {M : zMem} {post : Int → zMem → Prop} {x v : Int} {q n : Nat} (j : Nat) (h29 : q ≠ 29) (hsh : zsh q = .inl (0, n)) (hc : q < 65) (hn : n < 2147483648) (hx : x = (j : Int)) (hj : j < n) (hv : zrng v) (hd : decode μ.2.1 pc = .ok (.iastore, 1)) (k : zV μ d (pc + 1) ls st (zmu M q j v) post) : zV μ d pc ls (zi v :: zi x :: zr q :: st) M post := by
  intro hR l dC dI as cA p e s m args below meth c H locs lsA hC hP hD hS hL
  obtain ⟨h1, h2⟩ := z_in hx hj hn
  simp only [List.map, zcv]
  refine va_iast hC.1 hC.2.1 hC.2.2.2.2.2.2.2.1 hP hD hS q 0 (by rw [zw_at as cA M hc, zE_i as cA M hsh]) rfl h1 hd (fun H1 locs1 hP1 hD1 hS1 => ?_)
  rw [h2, zupd] at hP1 hD1
  have hze := zw_set as cA M (zmu M q j v) _ hc (zE_i as cA (zmu M q j v) hsh).symm (fun c' h => zmu_other M q j v h)
  rw [hze] at hP1 hD1
  exact k (hR.mu h29 hv) l dC dI as cA p e s m args below meth c H1 locs1 lsA hC hP1 hD1 hS1 hL
theorem z_zast {μ : zD} {d pc : Nat} {ls : List (Option zAV)} {st : List zAV} {M : zMem} {post : Int → zMem → Prop} {x v : Int} {q n : Nat} (j : Nat) (h29 : q ≠ 29) (hsh : zsh q = .inl (2, n)) (hc : q < 65) (hn : n < 2147483648) (hx : x = (j : Int)) (hj : j < n) (hv : v = 0 ∨ v = 1) (hd : decode μ.2.1 pc = .ok (.bastore, 1)) (k : zV μ d (pc + 1) ls st (zmu M q j v) post) : zV μ d pc ls (zi v :: zi x :: zr q :: st) M post := by
  intro hR l dC dI as cA p e s m args below meth c H locs lsA hC hP hD hS hL
  obtain ⟨h1, h2⟩ := z_in hx hj hn
  simp only [List.map, zcv]
  refine va_zast hC.1 hC.2.1 hC.2.2.2.2.2.2.2.1 hP hD hS q 2 (by rw [zw_at as cA M hc, zE_z as cA M hsh]) rfl h1 hd (fun H1 locs1 hP1 hD1 hS1 => ?_)
  have hnar : vp_nar .boolean (Int32.ofInt v) = Int32.ofInt v := by rcases hv with rfl | rfl <;> rfl
  rw [hnar] at hP1 hD1
  rw [h2, zupd] at hP1 hD1
  have hze := zw_set as cA M (zmu M q j v) _ hc (zE_z as cA (zmu M q j v) hsh).symm (fun c' h => zmu_other M q j v h)
  rw [hze] at hP1 hD1
  exact k (hR.mu h29 (by omega)) l dC dI as cA p e s m args below meth c H1 locs1 lsA hC hP1 hD1 hS1 hL
theorem z_last {μ : zD} {d pc : Nat} {ls : List (Option zAV)} {st : List zAV} {M : zMem} {post : Int → zMem → Prop} {x v : Int} {n : Nat} (j : Nat) (hsh : zsh 29 = .inl (1, n)) (hc : 29 < 65) (hn : n < 2147483648) (hx : x = (j : Int)) (hj : j < n) (hv : zrngL v) (hd : decode μ.2.1 pc = .ok (.lastore, 1)) (k : zV μ d (pc + 1) ls st (zmu M 29 j v) post) : zV μ d pc ls (zl v :: zi x :: zr 29 :: st) M post := by
  intro hR l dC dI as cA p e s m args below meth c H locs lsA hC hP hD hS hL
  obtain ⟨h1, h2⟩ := z_in hx hj hn
  simp only [List.map, zcv]
  refine va_last hC.1 hC.2.1 hC.2.2.2.2.2.2.2.1 hP hD hS 29 1 (by rw [zw_at as cA M hc, zE_l as cA M hsh]) rfl h1 hd (fun H1 locs1 hP1 hD1 hS1 => ?_)
  rw [h2, zupdL] at hP1 hD1
  have hze := zw_set as cA M (zmu M 29 j v) _ hc (zE_l as cA (zmu M 29 j v) hsh).symm (fun c' h => zmu_other M 29 j v h)
  rw [hze] at hP1 hD1
  exact k (hR.muL hv) l dC dI as cA p e s m args below meth c H1 locs1 lsA hC hP1 hD1 hS1 hL
theorem z_alen {μ : zD} {d pc : Nat} {ls : List (Option zAV)} {st : List zAV} {M : zMem} {post : Int → zMem → Prop} {q n : Nat} (hsh : zsh q = .inl (0, n)) (hc : q < 65) (hd : decode μ.2.1 pc = .ok (.arraylength, 1)) (k : zV μ d (pc + 1) ls (zi n :: st) M post) : zV μ d pc ls (zr q :: st) M post := by
  intro hR l dC dI as cA p e s m args below meth c H locs lsA hC hP hD hS hL
  have k := k hR l dC dI as cA p e s m args below meth c H locs lsA hC hP hD hS hL
  simp only [List.map, zcv] at k ⊢
  exact va_alen hC.1 hC.2.1 hC.2.2.2.2.2.2.2.1 hP q 0 (x := (n, .inl (fun i => Int32.ofInt (M q i)))) (by rw [zw_at as cA M hc, zE_i as cA M hsh]) rfl (v := Int32.ofInt n) rfl hd k
theorem z_gets70 {μ : zD} {d pc : Nat} {ls : List (Option zAV)} {st : List zAV} {M : zMem} {post : Int → zMem → Prop} {idx : Nat} (hw : Cond.fieldLink μ.1 idx "SmallWorlds" "TABLES" "[I" ∈ zAll) (hd : decode μ.2.1 pc = .ok (.getstatic idx, 3)) (k : zV μ d (pc + 3) ls (zr 70 :: st) M post) : zV μ d pc ls (st) M post := by
  intro hR l dC dI as cA p e s m args below meth c H locs lsA hC hP hD hS hL
  have k := k hR l dC dI as cA p e s m args below meth c H locs lsA hC hP hD hS hL
  exact va_gets hC.1 hC.2.1 hC.2.2.2.2.2.2.2.2.1.1.1 hS hC.2.2.2.1 (hC.2.2.2.2.1 _ hw) (fun _ h9 => h9) hd k
theorem z_tald70 {μ : zD} {d pc : Nat} {ls : List (Option zAV)} {st : List zAV} {M : zMem} {post : Int → zMem → Prop} {x : Int} (j : Nat) (hx : x = (j : Int)) (hj : j < 4) (hd : decode μ.2.1 pc = .ok (.iaload, 1)) (k : zV μ d (pc + 1) ls (zi (zro 70 j) :: st) M post) : zV μ d pc ls (zi x :: zr 70 :: st) M post := by
  intro hR l dC dI as cA p e s m args below meth c H locs lsA hC hP hD hS hL
  obtain ⟨h1, h2⟩ := z_in hx hj (by omega)
  have k := k hR l dC dI as cA p e s m args below meth c H locs lsA hC hP hD hS hL
  simp only [List.map, zcv] at k ⊢
  refine va_ti hC.1 hC.2.1 hC.2.2.2.2.2.2.2.2.1.1.2 hS h1 rfl hd ?_
  simp only [h2]
  exact k
theorem z_gets71 {μ : zD} {d pc : Nat} {ls : List (Option zAV)} {st : List zAV} {M : zMem} {post : Int → zMem → Prop} {idx : Nat} (hw : Cond.fieldLink μ.1 idx "SmallWorlds$Table" "NEW_NAME" "[I" ∈ zAll) (hd : decode μ.2.1 pc = .ok (.getstatic idx, 3)) (k : zV μ d (pc + 3) ls (zr 71 :: st) M post) : zV μ d pc ls (st) M post := by
  intro hR l dC dI as cA p e s m args below meth c H locs lsA hC hP hD hS hL
  have k := k hR l dC dI as cA p e s m args below meth c H locs lsA hC hP hD hS hL
  exact va_gets hC.1 hC.2.1 hC.2.2.2.2.2.2.2.2.1.2.1.1 hS hC.2.2.2.1 (hC.2.2.2.2.1 _ hw) (fun _ h9 => h9) hd k
theorem z_tald71 {μ : zD} {d pc : Nat} {ls : List (Option zAV)} {st : List zAV} {M : zMem} {post : Int → zMem → Prop} {x : Int} (j : Nat) (hx : x = (j : Int)) (hj : j < 18) (hd : decode μ.2.1 pc = .ok (.iaload, 1)) (k : zV μ d (pc + 1) ls (zi (zro 71 j) :: st) M post) : zV μ d pc ls (zi x :: zr 71 :: st) M post := by
  intro hR l dC dI as cA p e s m args below meth c H locs lsA hC hP hD hS hL
  obtain ⟨h1, h2⟩ := z_in hx hj (by omega)
  have k := k hR l dC dI as cA p e s m args below meth c H locs lsA hC hP hD hS hL
  simp only [List.map, zcv] at k ⊢
  refine va_ti hC.1 hC.2.1 hC.2.2.2.2.2.2.2.2.1.2.1.2 hS h1 rfl hd ?_
  simp only [h2]
  exact k
theorem z_gets72 {μ : zD} {d pc : Nat} {ls : List (Option zAV)} {st : List zAV} {M : zMem} {post : Int → zMem → Prop} {idx : Nat} (hw : Cond.fieldLink μ.1 idx "SmallWorlds$Table" "OLD_NAME" "[I" ∈ zAll) (hd : decode μ.2.1 pc = .ok (.getstatic idx, 3)) (k : zV μ d (pc + 3) ls (zr 72 :: st) M post) : zV μ d pc ls (st) M post := by
  intro hR l dC dI as cA p e s m args below meth c H locs lsA hC hP hD hS hL
  have k := k hR l dC dI as cA p e s m args below meth c H locs lsA hC hP hD hS hL
  exact va_gets hC.1 hC.2.1 hC.2.2.2.2.2.2.2.2.1.2.2.1.1 hS hC.2.2.2.1 (hC.2.2.2.2.1 _ hw) (fun _ h9 => h9) hd k
theorem z_tald72 {μ : zD} {d pc : Nat} {ls : List (Option zAV)} {st : List zAV} {M : zMem} {post : Int → zMem → Prop} {x : Int} (j : Nat) (hx : x = (j : Int)) (hj : j < 18) (hd : decode μ.2.1 pc = .ok (.iaload, 1)) (k : zV μ d (pc + 1) ls (zi (zro 72 j) :: st) M post) : zV μ d pc ls (zi x :: zr 72 :: st) M post := by
  intro hR l dC dI as cA p e s m args below meth c H locs lsA hC hP hD hS hL
  obtain ⟨h1, h2⟩ := z_in hx hj (by omega)
  have k := k hR l dC dI as cA p e s m args below meth c H locs lsA hC hP hD hS hL
  simp only [List.map, zcv] at k ⊢
  refine va_ti hC.1 hC.2.1 hC.2.2.2.2.2.2.2.2.1.2.2.1.2 hS h1 rfl hd ?_
  simp only [h2]
  exact k
theorem z_gets73 {μ : zD} {d pc : Nat} {ls : List (Option zAV)} {st : List zAV} {M : zMem} {post : Int → zMem → Prop} {idx : Nat} (hw : Cond.fieldLink μ.1 idx "SmallWorlds$Table" "RENAMINGS" "[I" ∈ zAll) (hd : decode μ.2.1 pc = .ok (.getstatic idx, 3)) (k : zV μ d (pc + 3) ls (zr 73 :: st) M post) : zV μ d pc ls (st) M post := by
  intro hR l dC dI as cA p e s m args below meth c H locs lsA hC hP hD hS hL
  have k := k hR l dC dI as cA p e s m args below meth c H locs lsA hC hP hD hS hL
  exact va_gets hC.1 hC.2.1 hC.2.2.2.2.2.2.2.2.1.2.2.2.1.1 hS hC.2.2.2.1 (hC.2.2.2.2.1 _ hw) (fun _ h9 => h9) hd k
theorem z_tald73 {μ : zD} {d pc : Nat} {ls : List (Option zAV)} {st : List zAV} {M : zMem} {post : Int → zMem → Prop} {x : Int} (j : Nat) (hx : x = (j : Int)) (hj : j < 4) (hd : decode μ.2.1 pc = .ok (.iaload, 1)) (k : zV μ d (pc + 1) ls (zi (zro 73 j) :: st) M post) : zV μ d pc ls (zi x :: zr 73 :: st) M post := by
  intro hR l dC dI as cA p e s m args below meth c H locs lsA hC hP hD hS hL
  obtain ⟨h1, h2⟩ := z_in hx hj (by omega)
  have k := k hR l dC dI as cA p e s m args below meth c H locs lsA hC hP hD hS hL
  simp only [List.map, zcv] at k ⊢
  refine va_ti hC.1 hC.2.1 hC.2.2.2.2.2.2.2.2.1.2.2.2.1.2 hS h1 rfl hd ?_
  simp only [h2]
  exact k
theorem z_gets74 {μ : zD} {d pc : Nat} {ls : List (Option zAV)} {st : List zAV} {M : zMem} {post : Int → zMem → Prop} {idx : Nat} (hw : Cond.fieldLink μ.1 idx "SmallWorlds$Catalog" "START" "[I" ∈ zAll) (hd : decode μ.2.1 pc = .ok (.getstatic idx, 3)) (k : zV μ d (pc + 3) ls (zr 74 :: st) M post) : zV μ d pc ls (st) M post := by
  intro hR l dC dI as cA p e s m args below meth c H locs lsA hC hP hD hS hL
  have k := k hR l dC dI as cA p e s m args below meth c H locs lsA hC hP hD hS hL
  exact va_gets hC.1 hC.2.1 hC.2.2.2.2.2.2.2.2.1.2.2.2.2.1 hS hC.2.2.2.1 (hC.2.2.2.2.1 _ hw) (fun _ h9 => h9) hd k
theorem z_tald74 {μ : zD} {d pc : Nat} {ls : List (Option zAV)} {st : List zAV} {M : zMem} {post : Int → zMem → Prop} {x : Int} (j : Nat) (hx : x = (j : Int)) (hj : j < 5) (hd : decode μ.2.1 pc = .ok (.iaload, 1)) (k : zV μ d (pc + 1) ls (zi (zro 74 j) :: st) M post) : zV μ d pc ls (zi x :: zr 74 :: st) M post := by
  intro hR l dC dI as cA p e s m args below meth c H locs lsA hC hP hD hS hL
  obtain ⟨h1, h2⟩ := z_in hx hj (by omega)
  have k := k hR l dC dI as cA p e s m args below meth c H locs lsA hC hP hD hS hL
  simp only [List.map, zcv] at k ⊢
  refine va_ti hC.1 hC.2.1 hC.2.2.2.2.2.2.2.2.1.2.2.2.2.2 hS h1 rfl hd ?_
  simp only [h2]
  exact k
theorem z_gets70N {μ : zD} {d pc : Nat} {ls : List (Option zAV)} {st : List zAV} {M : zMem} {post : Int → zMem → Prop}  (ho : μ.1 = "SmallWorlds$Catalog") (hd : decode μ.2.1 pc = .ok (.getstatic 60, 3)) (k : zV μ d (pc + 3) ls (zr 70 :: st) M post) : zV μ d pc ls (st) M post := by
  intro hR l dC dI as cA p e s m args below meth c H locs lsA hC hP hD hS hL
  have k := k hR l dC dI as cA p e s m args below meth c H locs lsA hC hP hD hS hL
  have ho2 := hC.2.2.2.1
  rw [ho] at ho2
  exact va_getsN hC.1 hC.2.1 hC.2.2.2.2.2.2.2.2.1.1.1 hS ho2 (va_Nw.use rfl hC.2.2.2.2.2.2.2.2.2.2.2.2.2.2) (fun _ h9 => h9) hd k
theorem z_get {μ : zD} {d pc : Nat} {ls : List (Option zAV)} {st : List zAV} {M : zMem} {post : Int → zMem → Prop} {q ci k N idx : Nat} {rs : List (Option Nat)} {C : String} {Tt : u_T} {v : zAV} (hsh : zsh q = .inr (ci, rs)) (hc : q < 65) (hcl : vwCl[ci]? = some (C, Tt, N)) (hin : ∀ w ∈ u_ws C Tt N, w ∈ zAll) (hk : k < N) (hw : Cond.fieldLink μ.1 idx (Tt k).1 (Tt k).2.1 (Tt k).2.2.1 ∈ zAll) (hv : ∀ as, (zfs as M q rs)[k]? = some (zcv as v)) (hd : decode μ.2.1 pc = .ok (.getfield idx, 3)) (kk : zV μ d (pc + 3) ls (v :: st) M post) : zV μ d pc ls (zr q :: st) M post := by
  intro hR l dC dI as cA p e s m args below meth c H locs lsA hC hP hD hS hL
  have kk := kk hR l dC dI as cA p e s m args below meth c H locs lsA hC hP hD hS hL
  exact va_get hC.1 hC.2.1 hC.2.2.2.2.1 hin hC.2.2.2.1 hC.2.2.2.2.2.2.2.1 hP q (by rw [zw_at as cA M hc, zE_o as cA M hsh]) hcl k hk (hC.2.2.2.2.1 _ hw) (fun _ h9 => h9) (hv as) hd kk
theorem z_put {μ : zD} {d pc : Nat} {ls : List (Option zAV)} {st : List zAV} {M : zMem} {post : Int → zMem → Prop} {q ci k N idx : Nat} {rs : List (Option Nat)} {C : String} {Tt : u_T} {v : Int} {ty : FieldType} (hsh : zsh q = .inr (ci, rs)) (hc : q < 65) (h29 : q ≠ 29) (hcl : vwCl[ci]? = some (C, Tt, N)) (hin : ∀ w ∈ u_ws C Tt N, w ∈ zAll) (ty0 : Nat → FieldType) (hty : ∀ k, k < N → parseFieldDescriptor (Tt k).2.2.1 = some (ty0 k)) (hnm : ∀ a, a < N → ∀ b, b < N → a ≠ b → (Tt a).2.1 ≠ (Tt b).2.1) (hk : k < N) (hw : Cond.fieldLink μ.1 idx (Tt k).1 (Tt k).2.1 (Tt k).2.2.1 ∈ zAll) (hfin : (Tt k).2.2.2 = false) (hpt : parseFieldDescriptor (Tt k).2.2.1 = some ty) (hr : rs[k]? = some none) (hl : k < rs.length) (hv : zrng v) (hn : narrow ty (.int (Int32.ofInt v)) = .int (Int32.ofInt v)) (hfit : fits ty (.int (Int32.ofInt v)) = true) (hd : decode μ.2.1 pc = .ok (.putfield idx, 3)) (kk : zV μ d (pc + 3) ls st (zmu M q k v) post) : zV μ d pc ls (zi v :: zr q :: st) M post := by
  intro hR l dC dI as cA p e s m args below meth c H locs lsA hC hP hD hS hL
  refine va_put hC.1 hC.2.1 hC.2.2.2.2.1 hin ty0 hty hnm hC.2.2.2.1 hC.2.2.2.2.2.2.2.1 hP hD hS q (by rw [zw_at as cA M hc, zE_o as cA M hsh]) hcl k hk (hC.2.2.2.2.1 _ hw) (fun _ h9 => h9) hfin hpt hn hfit (by simpa [zfs] using hl) hd (fun H1 locs1 hP1 hD1 hS1 => ?_)
  rw [show zcv as (zi v) = Value.int (Int32.ofInt v) from rfl, zfs_set v hr] at hP1 hD1
  have hze := zw_set as cA M (zmu M q k v) _ hc (zE_o as cA (zmu M q k v) hsh).symm (fun c' h => zmu_other M q k v h)
  rw [hze] at hP1 hD1
  exact kk (hR.mu h29 hv) l dC dI as cA p e s m args below meth c H1 locs1 lsA hC hP1 hD1 hS1 hL
theorem z_iret {μ : zD} {d pc : Nat} {ls : List (Option zAV)} {M : zMem} {post : Int → zMem → Prop} {x : Int} (hret : μ.2.2.2.1 = some .int) (hp : post x M) (hd : decode μ.2.1 pc = .ok (.ireturn, 1)) : zV μ d pc ls [zi x] M post := by
  intro hR l dC dI as cA p e s m args below meth c H locs lsA hC hP hD hS hL
  have hr := hC.2.2.2.2.2.1
  have hlocks := hC.2.2.2.2.2.2.1
  rw [hret] at hr ⊢
  exact W.iret hC.1 hC.2.1 hr (fun t ht _ => ⟨⟨Int32.ofInt x, (x, M), rfl, ⟨rfl, hp, hR⟩, by rw [ht]; exact hP, hD⟩, hS.F ht⟩) hS.2.2 hd hlocks
theorem z_zret {μ : zD} {d pc : Nat} {ls : List (Option zAV)} {M : zMem} {post : Int → zMem → Prop} {x : Int} (hret : μ.2.2.2.1 = some .boolean) (hx : x = 0 ∨ x = 1) (hp : post x M) (hd : decode μ.2.1 pc = .ok (.ireturn, 1)) : zV μ d pc ls [zi x] M post := by
  intro hR l dC dI as cA p e s m args below meth c H locs lsA hC hP hD hS hL
  have hr := hC.2.2.2.2.2.1
  have hlocks := hC.2.2.2.2.2.2.1
  rw [hret] at hr ⊢
  exact W.zret hC.1 hC.2.1 hr (by rcases hx with rfl | rfl <;> rfl) (fun t ht _ => ⟨⟨Int32.ofInt x, (x, M), rfl, ⟨rfl, hp, hR⟩, by rw [ht]; exact hP, hD⟩, hS.F ht⟩) hS.2.2 hd hlocks
theorem z_vret {μ : zD} {d pc : Nat} {ls : List (Option zAV)} {M : zMem} {post : Int → zMem → Prop} (hret : μ.2.2.2.1 = none) (hp : post 0 M) (hd : decode μ.2.1 pc = .ok (.return_, 1)) : zV μ d pc ls [] M post := by
  intro hR l dC dI as cA p e s m args below meth c H locs lsA hC hP hD hS hL
  have hr := hC.2.2.2.2.2.1
  have hlocks := hC.2.2.2.2.2.2.1
  rw [hret] at hr ⊢
  exact W.vret hC.1 hC.2.1 hr (fun t ht _ => ⟨⟨M, rfl, ⟨hp, hR⟩, by rw [ht]; exact hP, hD⟩, hS.F ht⟩) hS.2.2 hd hlocks
