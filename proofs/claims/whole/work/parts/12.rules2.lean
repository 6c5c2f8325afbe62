theorem z_toInt {x : Int} (h : zrng x) : (Int32.ofInt x).toInt = x := Int32.toInt_ofInt_of_le (by omega) (by omega)
theorem z_toIntL {x : Int} (h : zrngL x) : (Int64.ofInt x).toInt = x := Int64.toInt_ofInt_of_le (by omega) (by omega)
theorem z_eq {x y : Int} (hx : zrng x) (hy : zrng y) : Int32.ofInt x = Int32.ofInt y ↔ x = y := by rw [← Int32.toInt_inj, z_toInt hx, z_toInt hy]
theorem z_lt {x y : Int} (hx : zrng x) (hy : zrng y) : Int32.ofInt x < Int32.ofInt y ↔ x < y := by rw [Int32.lt_iff_toInt_lt, z_toInt hx, z_toInt hy]
theorem z_le {x y : Int} (hx : zrng x) (hy : zrng y) : Int32.ofInt x ≤ Int32.ofInt y ↔ x ≤ y := by rw [Int32.le_iff_toInt_le, z_toInt hx, z_toInt hy]
theorem z_rng0 : zrng 0 := by omega
theorem z_in {x : Int} {j n : Nat} (hx : x = (j : Int)) (hj : j < n) (hn : n < 2147483648) : vp_in (Int32.ofInt x) n ∧ (Int32.ofInt x).toNatClampNeg = j := by
  subst hx
  have e : Int32.ofInt (j : Int) = nI j := rfl
  rw [e]
  exact ⟨vp_in_nI hj (by omega), nI_clamp (by omega)⟩
theorem z_div {x y : Int} (hx : 0 ≤ x ∧ x ≤ 2147483647) (hy : 0 < y ∧ y ≤ 2147483647) : Int32.ofInt x / Int32.ofInt y = Int32.ofInt (x / y) := by
  obtain ⟨a, rfl⟩ := Int.eq_ofNat_of_zero_le hx.1
  obtain ⟨b, rfl⟩ := Int.eq_ofNat_of_zero_le (Int.le_of_lt hy.1)
  exact pk_div (a := a) (d := b) (by omega) (by omega) (by omega)
theorem z_rem {x y : Int} (hx : 0 ≤ x ∧ x ≤ 2147483647) (hy : 0 < y ∧ y ≤ 2147483647) : Int32.ofInt x - Int32.ofInt x / Int32.ofInt y * Int32.ofInt y = Int32.ofInt (x % y) := by
  obtain ⟨a, rfl⟩ := Int.eq_ofNat_of_zero_le hx.1
  obtain ⟨b, rfl⟩ := Int.eq_ofNat_of_zero_le (Int.le_of_lt hy.1)
  exact pk_rem (a := a) (d := b) (by omega) (by omega) (by omega)
def zAnd (x y : Int) : Int := (Int32.ofInt x &&& Int32.ofInt y).toInt
def zOr (x y : Int) : Int := (Int32.ofInt x ||| Int32.ofInt y).toInt
def zXor (x y : Int) : Int := (Int32.ofInt x ^^^ Int32.ofInt y).toInt
def zShl (x y : Int) : Int := (Int32.ofInt x <<< (Int32.ofInt y &&& 31)).toInt
def zShr (x y : Int) : Int := (Int32.ofInt x >>> (Int32.ofInt y &&& 31)).toInt
def zUshr (x y : Int) : Int := ((Int32.ofInt x).toUInt32 >>> ((Int32.ofInt y).toUInt32 &&& Int32.toUInt32 31)).toInt32.toInt
def zAndL (x y : Int) : Int := (Int64.ofInt x &&& Int64.ofInt y).toInt
def zOrL (x y : Int) : Int := (Int64.ofInt x ||| Int64.ofInt y).toInt
def zShlL (x y : Int) : Int := (Int64.ofInt x <<< ((Int32.ofInt y).toInt64 &&& 63)).toInt
def zShrL (x y : Int) : Int := (Int64.ofInt x >>> ((Int32.ofInt y).toInt64 &&& 63)).toInt
theorem z_iconst {μ : zD} {d pc : Nat} {ls : List (Option zAV)} {st : List zAV} {M : zMem} {post : Int → zMem → Prop} {n : Int} (hd : decode μ.2.1 pc = .ok (.iconst n, 1)) (k : zV μ d (pc + 1) ls (zi n :: st) M post) : zV μ d pc ls (st) M post := by
  intro hR l dC dI as cA p e s m args below meth c H locs lsA hC hP hD hS hL
  exact lv_iconst hC.1 hC.2.1 hd rfl (k hR l dC dI as cA p e s m args below meth c H locs lsA hC hP hD hS hL)
theorem z_bipush {μ : zD} {d pc : Nat} {ls : List (Option zAV)} {st : List zAV} {M : zMem} {post : Int → zMem → Prop} {n : Int} (hd : decode μ.2.1 pc = .ok (.bipush n, 2)) (hn : (Int8.ofInt n).toInt32 = Int32.ofInt n) (k : zV μ d (pc + 2) ls (zi n :: st) M post) : zV μ d pc ls (st) M post := by
  intro hR l dC dI as cA p e s m args below meth c H locs lsA hC hP hD hS hL
  exact lv_bipush hC.1 hC.2.1 hd hn (k hR l dC dI as cA p e s m args below meth c H locs lsA hC hP hD hS hL)
theorem z_sipush {μ : zD} {d pc : Nat} {ls : List (Option zAV)} {st : List zAV} {M : zMem} {post : Int → zMem → Prop} {n : Int} (hd : decode μ.2.1 pc = .ok (.sipush n, 3)) (hn : (Int16.ofInt n).toInt32 = Int32.ofInt n) (k : zV μ d (pc + 3) ls (zi n :: st) M post) : zV μ d pc ls (st) M post := by
  intro hR l dC dI as cA p e s m args below meth c H locs lsA hC hP hD hS hL
  exact lv_sipush hC.1 hC.2.1 hd hn (k hR l dC dI as cA p e s m args below meth c H locs lsA hC hP hD hS hL)
theorem z_lconst {μ : zD} {d pc : Nat} {ls : List (Option zAV)} {st : List zAV} {M : zMem} {post : Int → zMem → Prop} {n : Fin 2} (x : Int) (hd : decode μ.2.1 pc = .ok (.lconst n, 1)) (hn : Int64.ofNat (n : Nat) = Int64.ofInt x) (k : zV μ d (pc + 1) ls (zl x :: st) M post) : zV μ d pc ls (st) M post := by
  intro hR l dC dI as cA p e s m args below meth c H locs lsA hC hP hD hS hL
  exact lv_lconst hC.1 hC.2.1 hd hn (k hR l dC dI as cA p e s m args below meth c H locs lsA hC hP hD hS hL)
theorem z_ldc {μ : zD} {d pc : Nat} {ls : List (Option zAV)} {st : List zAV} {M : zMem} {post : Int → zMem → Prop} {n : Nat} {v : Int32} (x : Int) (hw : Cond.constant μ.1 n v ∈ zAll) (hv : v = Int32.ofInt x) (hd : decode μ.2.1 pc = .ok (.ldc n, 2)) (k : zV μ d (pc + 2) ls (zi x :: st) M post) : zV μ d pc ls (st) M post := by
  intro hR l dC dI as cA p e s m args below meth c H locs lsA hC hP hD hS hL
  subst hv
  exact lv_ldc hC.1 hC.2.1 hC.2.2.2.1 (hC.2.2.2.2.1 _ hw) hd (k hR l dC dI as cA p e s m args below meth c H locs lsA hC hP hD hS hL)
theorem z_ldcw {μ : zD} {d pc : Nat} {ls : List (Option zAV)} {st : List zAV} {M : zMem} {post : Int → zMem → Prop} {n : Nat} {v : Int32} (x : Int) (hw : Cond.constant μ.1 n v ∈ zAll) (hv : v = Int32.ofInt x) (hd : decode μ.2.1 pc = .ok (.ldc_w n, 3)) (k : zV μ d (pc + 3) ls (zi x :: st) M post) : zV μ d pc ls (st) M post := by
  intro hR l dC dI as cA p e s m args below meth c H locs lsA hC hP hD hS hL
  subst hv
  exact lv_ldcw hC.1 hC.2.1 hC.2.2.2.1 (hC.2.2.2.2.1 _ hw) hd (k hR l dC dI as cA p e s m args below meth c H locs lsA hC hP hD hS hL)
theorem z_ldc2 {μ : zD} {d pc : Nat} {ls : List (Option zAV)} {st : List zAV} {M : zMem} {post : Int → zMem → Prop} {n : Nat} {v : Int64} (x : Int) (hw : Cond.constantLong μ.1 n v ∈ zAll) (hv : v = Int64.ofInt x) (hd : decode μ.2.1 pc = .ok (.ldc2_w n, 3)) (k : zV μ d (pc + 3) ls (zl x :: st) M post) : zV μ d pc ls (st) M post := by
  intro hR l dC dI as cA p e s m args below meth c H locs lsA hC hP hD hS hL
  subst hv
  exact lv_ldc2 hC.1 hC.2.1 hC.2.2.2.1 (hC.2.2.2.2.1 _ hw) hd (k hR l dC dI as cA p e s m args below meth c H locs lsA hC hP hD hS hL)
theorem z_iload_n {μ : zD} {d pc : Nat} {ls : List (Option zAV)} {st : List zAV} {M : zMem} {post : Int → zMem → Prop} {n : Fin 4} {i : Nat} {x : Int} (hi : (n : Nat) = i) (hd : decode μ.2.1 pc = .ok (.iload_n n, 1)) (hl : ls[i]? = some (some (zi x))) (k : zV μ d (pc + 1) ls (zi x :: st) M post) : zV μ d pc ls (st) M post := by
  intro hR l dC dI as cA p e s m args below meth c H locs lsA hC hP hD hS hL
  exact lv_iload_n hC.1 hC.2.1 hd hi (hL.2.2.2 _ _ hl (Or.inl rfl)) (k hR l dC dI as cA p e s m args below meth c H locs lsA hC hP hD hS hL)
theorem z_iload {μ : zD} {d pc : Nat} {ls : List (Option zAV)} {st : List zAV} {M : zMem} {post : Int → zMem → Prop} {i : Nat} {x : Int} (hd : decode μ.2.1 pc = .ok (.iload i, 2)) (hl : ls[i]? = some (some (zi x))) (k : zV μ d (pc + 2) ls (zi x :: st) M post) : zV μ d pc ls (st) M post := by
  intro hR l dC dI as cA p e s m args below meth c H locs lsA hC hP hD hS hL
  exact lv_iload hC.1 hC.2.1 hd (hL.2.2.2 _ _ hl (Or.inl rfl)) (k hR l dC dI as cA p e s m args below meth c H locs lsA hC hP hD hS hL)
theorem z_aload_n {μ : zD} {d pc : Nat} {ls : List (Option zAV)} {st : List zAV} {M : zMem} {post : Int → zMem → Prop} {n : Fin 4} {i : Nat} {x : Nat} (hi : (n : Nat) = i) (hd : decode μ.2.1 pc = .ok (.aload_n n, 1)) (hl : ls[i]? = some (some (zr x))) (k : zV μ d (pc + 1) ls (zr x :: st) M post) : zV μ d pc ls (st) M post := by
  intro hR l dC dI as cA p e s m args below meth c H locs lsA hC hP hD hS hL
  exact lv_aload_n hC.1 hC.2.1 hd hi (hL.2.2.2 _ _ hl (Or.inr (Or.inl ⟨x, rfl⟩))) (k hR l dC dI as cA p e s m args below meth c H locs lsA hC hP hD hS hL)
theorem z_aload {μ : zD} {d pc : Nat} {ls : List (Option zAV)} {st : List zAV} {M : zMem} {post : Int → zMem → Prop} {i : Nat} {x : Nat} (hd : decode μ.2.1 pc = .ok (.aload i, 2)) (hl : ls[i]? = some (some (zr x))) (k : zV μ d (pc + 2) ls (zr x :: st) M post) : zV μ d pc ls (st) M post := by
  intro hR l dC dI as cA p e s m args below meth c H locs lsA hC hP hD hS hL
  exact lv_aload hC.1 hC.2.1 hd (hL.2.2.2 _ _ hl (Or.inr (Or.inl ⟨x, rfl⟩))) (k hR l dC dI as cA p e s m args below meth c H locs lsA hC hP hD hS hL)
theorem z_lload_n {μ : zD} {d pc : Nat} {ls : List (Option zAV)} {st : List zAV} {M : zMem} {post : Int → zMem → Prop} {n : Fin 4} {i : Nat} {x : Int} (hi : (n : Nat) = i) (hd : decode μ.2.1 pc = .ok (.lload_n n, 1)) (hl : ls[i]? = some (some (zl x))) (hl2 : ls[i + 1]? = some none) (k : zV μ d (pc + 1) ls (zl x :: st) M post) : zV μ d pc ls (st) M post := by
  intro hR l dC dI as cA p e s m args below meth c H locs lsA hC hP hD hS hL
  exact lv_lload_n hC.1 hC.2.1 hd hi (hL.2.2.2 _ _ hl (Or.inr (Or.inr hl2))) (k hR l dC dI as cA p e s m args below meth c H locs lsA hC hP hD hS hL)
theorem z_lload {μ : zD} {d pc : Nat} {ls : List (Option zAV)} {st : List zAV} {M : zMem} {post : Int → zMem → Prop} {i : Nat} {x : Int} (hd : decode μ.2.1 pc = .ok (.lload i, 2)) (hl : ls[i]? = some (some (zl x))) (hl2 : ls[i + 1]? = some none) (k : zV μ d (pc + 2) ls (zl x :: st) M post) : zV μ d pc ls (st) M post := by
  intro hR l dC dI as cA p e s m args below meth c H locs lsA hC hP hD hS hL
  exact lv_lload hC.1 hC.2.1 hd (hL.2.2.2 _ _ hl (Or.inr (Or.inr hl2))) (k hR l dC dI as cA p e s m args below meth c H locs lsA hC hP hD hS hL)
theorem z_istore_n {μ : zD} {d pc : Nat} {ls : List (Option zAV)} {st : List zAV} {M : zMem} {post : Int → zMem → Prop} {n : Fin 4} {i : Nat} {x : Int} (hi : (n : Nat) = i) (hd : decode μ.2.1 pc = .ok (.istore_n n, 1)) (hn : i < ls.length) (k : zV μ d (pc + 1) (ls.set i (some (zi x))) st M post) : zV μ d pc ls (zi x :: st) M post := by
  intro hR l dC dI as cA p e s m args below meth c H locs lsA hC hP hD hS hL
  subst hi
  obtain ⟨lsA', e', hz'⟩ := hL.set (v := zi x) (by rw [← hL.2.2.1]; exact hn) rfl
  have k := k hR l dC dI as cA p e s m args below meth c H locs lsA' hC hP hD hS hz'
  intro T hT X
  obtain ⟨t, a, b⟩ := k T hT X
  refine ⟨t, ?_, b⟩
  simp only [zcv] at e'
  simp only [List.map, zcv]
  jvm_step X.here [X.here.top, ↓top_set X.here.top, hC.1, hC.2.1, hd, e', Value.isRef]
  exact a
theorem z_istore {μ : zD} {d pc : Nat} {ls : List (Option zAV)} {st : List zAV} {M : zMem} {post : Int → zMem → Prop} {i : Nat} {x : Int} (hd : decode μ.2.1 pc = .ok (.istore i, 2)) (hn : i < ls.length) (k : zV μ d (pc + 2) (ls.set i (some (zi x))) st M post) : zV μ d pc ls (zi x :: st) M post := by
  intro hR l dC dI as cA p e s m args below meth c H locs lsA hC hP hD hS hL
  obtain ⟨lsA', e', hz'⟩ := hL.set (v := zi x) (by rw [← hL.2.2.1]; exact hn) rfl
  have k := k hR l dC dI as cA p e s m args below meth c H locs lsA' hC hP hD hS hz'
  intro T hT X
  obtain ⟨t, a, b⟩ := k T hT X
  refine ⟨t, ?_, b⟩
  simp only [zcv] at e'
  simp only [List.map, zcv]
  jvm_step X.here [X.here.top, ↓top_set X.here.top, hC.1, hC.2.1, hd, e', Value.isRef]
  exact a
theorem z_astore_n {μ : zD} {d pc : Nat} {ls : List (Option zAV)} {st : List zAV} {M : zMem} {post : Int → zMem → Prop} {n : Fin 4} {i : Nat} {x : Nat} (hi : (n : Nat) = i) (hd : decode μ.2.1 pc = .ok (.astore_n n, 1)) (hn : i < ls.length) (k : zV μ d (pc + 1) (ls.set i (some (zr x))) st M post) : zV μ d pc ls (zr x :: st) M post := by
  intro hR l dC dI as cA p e s m args below meth c H locs lsA hC hP hD hS hL
  subst hi
  obtain ⟨lsA', e', hz'⟩ := hL.set (v := zr x) (by rw [← hL.2.2.1]; exact hn) rfl
  have k := k hR l dC dI as cA p e s m args below meth c H locs lsA' hC hP hD hS hz'
  intro T hT X
  obtain ⟨t, a, b⟩ := k T hT X
  refine ⟨t, ?_, b⟩
  simp only [zcv] at e'
  simp only [List.map, zcv]
  jvm_step X.here [X.here.top, ↓top_set X.here.top, hC.1, hC.2.1, hd, e', Value.isRef]
  exact a
theorem z_astore {μ : zD} {d pc : Nat} {ls : List (Option zAV)} {st : List zAV} {M : zMem} {post : Int → zMem → Prop} {i : Nat} {x : Nat} (hd : decode μ.2.1 pc = .ok (.astore i, 2)) (hn : i < ls.length) (k : zV μ d (pc + 2) (ls.set i (some (zr x))) st M post) : zV μ d pc ls (zr x :: st) M post := by
  intro hR l dC dI as cA p e s m args below meth c H locs lsA hC hP hD hS hL
  obtain ⟨lsA', e', hz'⟩ := hL.set (v := zr x) (by rw [← hL.2.2.1]; exact hn) rfl
  have k := k hR l dC dI as cA p e s m args below meth c H locs lsA' hC hP hD hS hz'
  intro T hT X
  obtain ⟨t, a, b⟩ := k T hT X
  refine ⟨t, ?_, b⟩
  simp only [zcv] at e'
  simp only [List.map, zcv]
  jvm_step X.here [X.here.top, ↓top_set X.here.top, hC.1, hC.2.1, hd, e', Value.isRef]
  exact a
theorem z_lstore_n {μ : zD} {d pc : Nat} {ls : List (Option zAV)} {st : List zAV} {M : zMem} {post : Int → zMem → Prop} {n : Fin 4} {i : Nat} {x : Int} (hi : (n : Nat) = i) (hd : decode μ.2.1 pc = .ok (.lstore_n n, 1)) (hn : i + 1 < ls.length) (k : zV μ d (pc + 1) ((ls.set i (some (zl x))).set (i + 1) none) st M post) : zV μ d pc ls (zl x :: st) M post := by
  intro hR l dC dI as cA p e s m args below meth c H locs lsA hC hP hD hS hL
  subst hi
  obtain ⟨lsA', e', hz'⟩ := hL.set2 (x := x) (by rw [← hL.2.2.1]; exact hn)
  have k := k hR l dC dI as cA p e s m args below meth c H locs lsA' hC hP hD hS hz'
  intro T hT X
  obtain ⟨t, a, b⟩ := k T hT X
  refine ⟨t, ?_, b⟩
  simp only [zcv] at e'
  simp only [List.map, zcv]
  jvm_step X.here [X.here.top, ↓top_set X.here.top, hC.1, hC.2.1, hd, e', Value.isRef]
  exact a
theorem z_lstore {μ : zD} {d pc : Nat} {ls : List (Option zAV)} {st : List zAV} {M : zMem} {post : Int → zMem → Prop} {i : Nat} {x : Int} (hd : decode μ.2.1 pc = .ok (.lstore i, 2)) (hn : i + 1 < ls.length) (k : zV μ d (pc + 2) ((ls.set i (some (zl x))).set (i + 1) none) st M post) : zV μ d pc ls (zl x :: st) M post := by
  intro hR l dC dI as cA p e s m args below meth c H locs lsA hC hP hD hS hL
  obtain ⟨lsA', e', hz'⟩ := hL.set2 (x := x) (by rw [← hL.2.2.1]; exact hn)
  have k := k hR l dC dI as cA p e s m args below meth c H locs lsA' hC hP hD hS hz'
  intro T hT X
  obtain ⟨t, a, b⟩ := k T hT X
  refine ⟨t, ?_, b⟩
  simp only [zcv] at e'
  simp only [List.map, zcv]
  jvm_step X.here [X.here.top, ↓top_set X.here.top, hC.1, hC.2.1, hd, e', Value.isRef]
  exact a
theorem z_iinc {μ : zD} {d pc : Nat} {ls : List (Option zAV)} {st : List zAV} {M : zMem} {post : Int → zMem → Prop} {i : Nat} {n x : Int} (hd : decode μ.2.1 pc = .ok (.iinc i n, 3)) (hl : ls[i]? = some (some (zi x))) (k : zV μ d (pc + 3) (ls.set i (some (zi (x + n)))) st M post) : zV μ d pc ls st M post := by
  intro hR l dC dI as cA p e s m args below meth c H locs lsA hC hP hD hS hL
  have hg := hL.2.2.2 _ _ hl (Or.inl rfl)
  have hn : i < μ.2.2.1 := by rw [← hL.2.2.1]; exact (List.getElem?_eq_some_iff.mp hl).1
  obtain ⟨lsA', e', hz'⟩ := hL.set (v := zi (x + n)) hn rfl
  have k := k hR l dC dI as cA p e s m args below meth c H locs lsA' hC hP hD hS hz'
  intro T hT X
  obtain ⟨t, a, b⟩ := k T hT X
  refine ⟨t, ?_, b⟩
  simp only [zcv, Int32.ofInt_add] at e' hg
  jvm_step X.here [X.here.top, ↓top_set X.here.top, hC.1, hC.2.1, hd, hg, e']
  exact a
theorem z_iadd {μ : zD} {d pc : Nat} {ls : List (Option zAV)} {st : List zAV} {M : zMem} {post : Int → zMem → Prop} {x y : Int}  (hd : decode μ.2.1 pc = .ok (.iadd, 1)) (k : zV μ d (pc + 1) ls (zi (x + y) :: st) M post) : zV μ d pc ls (zi y :: zi x :: st) M post := by
  intro hR l dC dI as cA p e s m args below meth c H locs lsA hC hP hD hS hL
  have k := k hR l dC dI as cA p e s m args below meth c H locs lsA hC hP hD hS hL
  simp only [List.map, zcv] at k ⊢
  refine lv_iadd hC.1 hC.2.1 hd ?_
  rw [← Int32.ofInt_add]
  exact k
theorem z_isub {μ : zD} {d pc : Nat} {ls : List (Option zAV)} {st : List zAV} {M : zMem} {post : Int → zMem → Prop} {x y : Int}  (hd : decode μ.2.1 pc = .ok (.isub, 1)) (k : zV μ d (pc + 1) ls (zi (x - y) :: st) M post) : zV μ d pc ls (zi y :: zi x :: st) M post := by
  intro hR l dC dI as cA p e s m args below meth c H locs lsA hC hP hD hS hL
  have k := k hR l dC dI as cA p e s m args below meth c H locs lsA hC hP hD hS hL
  simp only [List.map, zcv] at k ⊢
  refine lv_isub hC.1 hC.2.1 hd ?_
  rw [← Int32.ofInt_sub]
  exact k
theorem z_imul {μ : zD} {d pc : Nat} {ls : List (Option zAV)} {st : List zAV} {M : zMem} {post : Int → zMem → Prop} {x y : Int}  (hd : decode μ.2.1 pc = .ok (.imul, 1)) (k : zV μ d (pc + 1) ls (zi (x * y) :: st) M post) : zV μ d pc ls (zi y :: zi x :: st) M post := by
  intro hR l dC dI as cA p e s m args below meth c H locs lsA hC hP hD hS hL
  have k := k hR l dC dI as cA p e s m args below meth c H locs lsA hC hP hD hS hL
  simp only [List.map, zcv] at k ⊢
  refine lv_imul hC.1 hC.2.1 hd ?_
  rw [← Int32.ofInt_mul]
  exact k
theorem z_idiv {μ : zD} {d pc : Nat} {ls : List (Option zAV)} {st : List zAV} {M : zMem} {post : Int → zMem → Prop} {x y : Int}  (hx : 0 ≤ x ∧ x ≤ 2147483647) (hy : 0 < y ∧ y ≤ 2147483647) (hd : decode μ.2.1 pc = .ok (.idiv, 1)) (k : zV μ d (pc + 1) ls (zi (x / y) :: st) M post) : zV μ d pc ls (zi y :: zi x :: st) M post := by
  intro hR l dC dI as cA p e s m args below meth c H locs lsA hC hP hD hS hL
  have k := k hR l dC dI as cA p e s m args below meth c H locs lsA hC hP hD hS hL
  simp only [List.map, zcv] at k ⊢
  refine lv_idiv hC.1 hC.2.1 hd (fun q => by have h9 := (z_eq (x := y) (y := 0) (by omega) (by omega)).mp q; omega) ?_
  rw [z_div hx hy]
  exact k
theorem z_irem {μ : zD} {d pc : Nat} {ls : List (Option zAV)} {st : List zAV} {M : zMem} {post : Int → zMem → Prop} {x y : Int}  (hx : 0 ≤ x ∧ x ≤ 2147483647) (hy : 0 < y ∧ y ≤ 2147483647) (hd : decode μ.2.1 pc = .ok (.irem, 1)) (k : zV μ d (pc + 1) ls (zi (x % y) :: st) M post) : zV μ d pc ls (zi y :: zi x :: st) M post := by
  intro hR l dC dI as cA p e s m args below meth c H locs lsA hC hP hD hS hL
  have k := k hR l dC dI as cA p e s m args below meth c H locs lsA hC hP hD hS hL
  simp only [List.map, zcv] at k ⊢
  refine lv_irem hC.1 hC.2.1 hd (fun q => by have h9 := (z_eq (x := y) (y := 0) (by omega) (by omega)).mp q; omega) ?_
  rw [z_rem hx hy]
  exact k
theorem z_iand {μ : zD} {d pc : Nat} {ls : List (Option zAV)} {st : List zAV} {M : zMem} {post : Int → zMem → Prop} {x y : Int}  (hd : decode μ.2.1 pc = .ok (.iand, 1)) (k : zV μ d (pc + 1) ls (zi (zAnd x y) :: st) M post) : zV μ d pc ls (zi y :: zi x :: st) M post := by
  intro hR l dC dI as cA p e s m args below meth c H locs lsA hC hP hD hS hL
  have k := k hR l dC dI as cA p e s m args below meth c H locs lsA hC hP hD hS hL
  simp only [List.map, zcv] at k ⊢
  refine lv_iand hC.1 hC.2.1 hd ?_
  simp only [zAnd, Int32.ofInt_toInt] at k
  exact k
theorem z_ior {μ : zD} {d pc : Nat} {ls : List (Option zAV)} {st : List zAV} {M : zMem} {post : Int → zMem → Prop} {x y : Int}  (hd : decode μ.2.1 pc = .ok (.ior, 1)) (k : zV μ d (pc + 1) ls (zi (zOr x y) :: st) M post) : zV μ d pc ls (zi y :: zi x :: st) M post := by
  intro hR l dC dI as cA p e s m args below meth c H locs lsA hC hP hD hS hL
  have k := k hR l dC dI as cA p e s m args below meth c H locs lsA hC hP hD hS hL
  simp only [List.map, zcv] at k ⊢
  refine lv_ior hC.1 hC.2.1 hd ?_
  simp only [zOr, Int32.ofInt_toInt] at k
  exact k
theorem z_ixor {μ : zD} {d pc : Nat} {ls : List (Option zAV)} {st : List zAV} {M : zMem} {post : Int → zMem → Prop} {x y : Int}  (hd : decode μ.2.1 pc = .ok (.ixor, 1)) (k : zV μ d (pc + 1) ls (zi (zXor x y) :: st) M post) : zV μ d pc ls (zi y :: zi x :: st) M post := by
  intro hR l dC dI as cA p e s m args below meth c H locs lsA hC hP hD hS hL
  have k := k hR l dC dI as cA p e s m args below meth c H locs lsA hC hP hD hS hL
  simp only [List.map, zcv] at k ⊢
  refine lv_ixor hC.1 hC.2.1 hd ?_
  simp only [zXor, Int32.ofInt_toInt] at k
  exact k
theorem z_ishl {μ : zD} {d pc : Nat} {ls : List (Option zAV)} {st : List zAV} {M : zMem} {post : Int → zMem → Prop} {x y : Int}  (hd : decode μ.2.1 pc = .ok (.ishl, 1)) (k : zV μ d (pc + 1) ls (zi (zShl x y) :: st) M post) : zV μ d pc ls (zi y :: zi x :: st) M post := by
  intro hR l dC dI as cA p e s m args below meth c H locs lsA hC hP hD hS hL
  have k := k hR l dC dI as cA p e s m args below meth c H locs lsA hC hP hD hS hL
  simp only [List.map, zcv] at k ⊢
  refine lv_ishl hC.1 hC.2.1 hd ?_
  simp only [zShl, Int32.ofInt_toInt] at k
  exact k
theorem z_ishr {μ : zD} {d pc : Nat} {ls : List (Option zAV)} {st : List zAV} {M : zMem} {post : Int → zMem → Prop} {x y : Int}  (hd : decode μ.2.1 pc = .ok (.ishr, 1)) (k : zV μ d (pc + 1) ls (zi (zShr x y) :: st) M post) : zV μ d pc ls (zi y :: zi x :: st) M post := by
  intro hR l dC dI as cA p e s m args below meth c H locs lsA hC hP hD hS hL
  have k := k hR l dC dI as cA p e s m args below meth c H locs lsA hC hP hD hS hL
  simp only [List.map, zcv] at k ⊢
  refine lv_ishr hC.1 hC.2.1 hd ?_
  simp only [zShr, Int32.ofInt_toInt] at k
  exact k
theorem z_iushr {μ : zD} {d pc : Nat} {ls : List (Option zAV)} {st : List zAV} {M : zMem} {post : Int → zMem → Prop} {x y : Int}  (hd : decode μ.2.1 pc = .ok (.iushr, 1)) (k : zV μ d (pc + 1) ls (zi (zUshr x y) :: st) M post) : zV μ d pc ls (zi y :: zi x :: st) M post := by
  intro hR l dC dI as cA p e s m args below meth c H locs lsA hC hP hD hS hL
  have k := k hR l dC dI as cA p e s m args below meth c H locs lsA hC hP hD hS hL
  simp only [List.map, zcv] at k ⊢
  refine lv_iushr hC.1 hC.2.1 hd rfl ?_
  simp only [zUshr, Int32.ofInt_toInt] at k
  exact k
theorem z_land {μ : zD} {d pc : Nat} {ls : List (Option zAV)} {st : List zAV} {M : zMem} {post : Int → zMem → Prop} {x y : Int}  (hd : decode μ.2.1 pc = .ok (.land, 1)) (k : zV μ d (pc + 1) ls (zl (zAndL x y) :: st) M post) : zV μ d pc ls (zl y :: zl x :: st) M post := by
  intro hR l dC dI as cA p e s m args below meth c H locs lsA hC hP hD hS hL
  have k := k hR l dC dI as cA p e s m args below meth c H locs lsA hC hP hD hS hL
  simp only [List.map, zcv] at k ⊢
  refine lv_land hC.1 hC.2.1 hd ?_
  simp only [zAndL, Int64.ofInt_toInt] at k
  exact k
theorem z_lor {μ : zD} {d pc : Nat} {ls : List (Option zAV)} {st : List zAV} {M : zMem} {post : Int → zMem → Prop} {x y : Int}  (hd : decode μ.2.1 pc = .ok (.lor, 1)) (k : zV μ d (pc + 1) ls (zl (zOrL x y) :: st) M post) : zV μ d pc ls (zl y :: zl x :: st) M post := by
  intro hR l dC dI as cA p e s m args below meth c H locs lsA hC hP hD hS hL
  have k := k hR l dC dI as cA p e s m args below meth c H locs lsA hC hP hD hS hL
  simp only [List.map, zcv] at k ⊢
  refine lv_lor hC.1 hC.2.1 hd ?_
  simp only [zOrL, Int64.ofInt_toInt] at k
  exact k
theorem z_lshl {μ : zD} {d pc : Nat} {ls : List (Option zAV)} {st : List zAV} {M : zMem} {post : Int → zMem → Prop} {x y : Int} (hd : decode μ.2.1 pc = .ok (.lshl, 1)) (k : zV μ d (pc + 1) ls (zl (zShlL x y) :: st) M post) : zV μ d pc ls (zi y :: zl x :: st) M post := by
  intro hR l dC dI as cA p e s m args below meth c H locs lsA hC hP hD hS hL
  have k := k hR l dC dI as cA p e s m args below meth c H locs lsA hC hP hD hS hL
  simp only [List.map, zcv] at k ⊢
  refine lv_lshl hC.1 hC.2.1 hd rfl ?_
  simp only [zShlL, Int64.ofInt_toInt] at k
  exact k
theorem z_lshr {μ : zD} {d pc : Nat} {ls : List (Option zAV)} {st : List zAV} {M : zMem} {post : Int → zMem → Prop} {x y : Int} (hd : decode μ.2.1 pc = .ok (.lshr, 1)) (k : zV μ d (pc + 1) ls (zl (zShrL x y) :: st) M post) : zV μ d pc ls (zi y :: zl x :: st) M post := by
  intro hR l dC dI as cA p e s m args below meth c H locs lsA hC hP hD hS hL
  have k := k hR l dC dI as cA p e s m args below meth c H locs lsA hC hP hD hS hL
  simp only [List.map, zcv] at k ⊢
  refine lv_lshr hC.1 hC.2.1 hd rfl ?_
  simp only [zShrL, Int64.ofInt_toInt] at k
  exact k
theorem z_i2l {μ : zD} {d pc : Nat} {ls : List (Option zAV)} {st : List zAV} {M : zMem} {post : Int → zMem → Prop} {x : Int} (hx : zrng x) (hd : decode μ.2.1 pc = .ok (.i2l, 1)) (k : zV μ d (pc + 1) ls (zl x :: st) M post) : zV μ d pc ls (zi x :: st) M post := by
  intro hR l dC dI as cA p e s m args below meth c H locs lsA hC hP hD hS hL
  exact lv_i2l hC.1 hC.2.1 hd (by rw [← Int64.toInt_inj, Int32.toInt_toInt64, z_toInt hx, z_toIntL (by omega)]) (k hR l dC dI as cA p e s m args below meth c H locs lsA hC hP hD hS hL)
theorem z_l2i {μ : zD} {d pc : Nat} {ls : List (Option zAV)} {st : List zAV} {M : zMem} {post : Int → zMem → Prop} {x : Int} (hx : zrng x) (hd : decode μ.2.1 pc = .ok (.l2i, 1)) (k : zV μ d (pc + 1) ls (zi x :: st) M post) : zV μ d pc ls (zl x :: st) M post := by
  intro hR l dC dI as cA p e s m args below meth c H locs lsA hC hP hD hS hL
  exact lv_l2i hC.1 hC.2.1 hd (by rw [← Int32.toInt_inj, Int64.toInt_toInt32, z_toIntL (by omega), z_toInt hx]; exact Int.bmod_eq_of_le (by omega) (by omega)) (k hR l dC dI as cA p e s m args below meth c H locs lsA hC hP hD hS hL)
theorem z_lcmp {μ : zD} {d pc : Nat} {ls : List (Option zAV)} {st : List zAV} {M : zMem} {post : Int → zMem → Prop} {x y : Int} (hx : zrngL x) (hy : zrngL y) (hd : decode μ.2.1 pc = .ok (.lcmp, 1)) (k : zV μ d (pc + 1) ls (zi (if y < x then 1 else if x = y then 0 else -1) :: st) M post) : zV μ d pc ls (zl y :: zl x :: st) M post := by
  intro hR l dC dI as cA p e s m args below meth c H locs lsA hC hP hD hS hL
  have k := k hR l dC dI as cA p e s m args below meth c H locs lsA hC hP hD hS hL
  simp only [List.map, zcv] at k ⊢
  refine W.lcmp hC.1 hC.2.1 hd ?_
  have e1 : (Int64.ofInt y < Int64.ofInt x) ↔ y < x := by rw [Int64.lt_iff_toInt_lt, z_toIntL hx, z_toIntL hy]
  have e2 : (Int64.ofInt x = Int64.ofInt y) ↔ x = y := by rw [← Int64.toInt_inj, z_toIntL hx, z_toIntL hy]
  have e3 : lg_cmp (Int64.ofInt x) (Int64.ofInt y) = Int32.ofInt (if y < x then 1 else if x = y then 0 else -1) := by
    unfold lg_cmp
    simp only [e1, e2]
    split
    · rfl
    · split <;> rfl
  rw [e3]
  exact k
theorem z_dup {μ : zD} {d pc : Nat} {ls : List (Option zAV)} {st : List zAV} {M : zMem} {post : Int → zMem → Prop} {v : zAV} (hv : ∀ as, (zcv as v).category = 1) (hd : decode μ.2.1 pc = .ok (.dup, 1)) (k : zV μ d (pc + 1) ls (v :: v :: st) M post) : zV μ d pc ls (v :: st) M post := by
  intro hR l dC dI as cA p e s m args below meth c H locs lsA hC hP hD hS hL
  exact lv_dup hC.1 hC.2.1 hd (hv as) (k hR l dC dI as cA p e s m args below meth c H locs lsA hC hP hD hS hL)
theorem z_pop {μ : zD} {d pc : Nat} {ls : List (Option zAV)} {st : List zAV} {M : zMem} {post : Int → zMem → Prop} {v : zAV} (hv : ∀ as, (zcv as v).category = 1) (hd : decode μ.2.1 pc = .ok (.pop, 1)) (k : zV μ d (pc + 1) ls st M post) : zV μ d pc ls (v :: st) M post := by
  intro hR l dC dI as cA p e s m args below meth c H locs lsA hC hP hD hS hL
  exact lv_pop hC.1 hC.2.1 hd (hv as) (k hR l dC dI as cA p e s m args below meth c H locs lsA hC hP hD hS hL)
theorem z_dup_x1 {μ : zD} {d pc : Nat} {ls : List (Option zAV)} {st : List zAV} {M : zMem} {post : Int → zMem → Prop} {v w : zAV} (hv : ∀ as, (zcv as v).category = 1) (hw : ∀ as, (zcv as w).category = 1) (hd : decode μ.2.1 pc = .ok (.dup_x1, 1)) (k : zV μ d (pc + 1) ls (v :: w :: v :: st) M post) : zV μ d pc ls (v :: w :: st) M post := by
  intro hR l dC dI as cA p e s m args below meth c H locs lsA hC hP hD hS hL
  exact lv_dup_x1 hC.1 hC.2.1 hd (hv as) (hw as) (k hR l dC dI as cA p e s m args below meth c H locs lsA hC hP hD hS hL)
theorem z_dup2 {μ : zD} {d pc : Nat} {ls : List (Option zAV)} {st : List zAV} {M : zMem} {post : Int → zMem → Prop} {v w : zAV} (hv : ∀ as, (zcv as v).category = 1) (hw : ∀ as, (zcv as w).category = 1) (hd : decode μ.2.1 pc = .ok (.dup2, 1)) (k : zV μ d (pc + 1) ls (v :: w :: v :: w :: st) M post) : zV μ d pc ls (v :: w :: st) M post := by
  intro hR l dC dI as cA p e s m args below meth c H locs lsA hC hP hD hS hL
  exact lv_dup2_11 hC.1 hC.2.1 hd (hv as) (hw as) (k hR l dC dI as cA p e s m args below meth c H locs lsA hC hP hD hS hL)
theorem z_if_eq {μ : zD} {d pc : Nat} {ls : List (Option zAV)} {st : List zAV} {M : zMem} {post : Int → zMem → Prop} {x off : Int} {tgt : Nat} (hx : zrng x) (hd : decode μ.2.1 pc = .ok (.ifCond .eq off, 3)) (ht : (pc : Int) + off = (tgt : Int)) (kt : x = 0 → zV μ d tgt ls st M post) (kf : ¬ x = 0 → zV μ d (pc + 3) ls st M post) : zV μ d pc ls (zi x :: st) M post := by
  intro hR l dC dI as cA p e s m args below meth c H locs lsA hC hP hD hS hL
  exact lv_if_eq hC.1 hC.2.1 hd ht (fun q => kt ((z_eq hx z_rng0).mp q) hR l dC dI as cA p e s m args below meth c H locs lsA hC hP hD hS hL) (fun q => kf (fun z => q ((z_eq hx z_rng0).mpr z)) hR l dC dI as cA p e s m args below meth c H locs lsA hC hP hD hS hL)
theorem z_icmp_eq {μ : zD} {d pc : Nat} {ls : List (Option zAV)} {st : List zAV} {M : zMem} {post : Int → zMem → Prop} {x y off : Int} {tgt : Nat} (hx : zrng x) (hy : zrng y) (hd : decode μ.2.1 pc = .ok (.if_icmp .eq off, 3)) (ht : (pc : Int) + off = (tgt : Int)) (kt : x = y → zV μ d tgt ls st M post) (kf : ¬ x = y → zV μ d (pc + 3) ls st M post) : zV μ d pc ls (zi y :: zi x :: st) M post := by
  intro hR l dC dI as cA p e s m args below meth c H locs lsA hC hP hD hS hL
  exact lv_icmp_eq hC.1 hC.2.1 hd ht (fun q => kt ((z_eq hx hy).mp q) hR l dC dI as cA p e s m args below meth c H locs lsA hC hP hD hS hL) (fun q => kf (fun z => q ((z_eq hx hy).mpr z)) hR l dC dI as cA p e s m args below meth c H locs lsA hC hP hD hS hL)
theorem z_if_ne {μ : zD} {d pc : Nat} {ls : List (Option zAV)} {st : List zAV} {M : zMem} {post : Int → zMem → Prop} {x off : Int} {tgt : Nat} (hx : zrng x) (hd : decode μ.2.1 pc = .ok (.ifCond .ne off, 3)) (ht : (pc : Int) + off = (tgt : Int)) (kt : ¬ x = 0 → zV μ d tgt ls st M post) (kf : x = 0 → zV μ d (pc + 3) ls st M post) : zV μ d pc ls (zi x :: st) M post := by
  intro hR l dC dI as cA p e s m args below meth c H locs lsA hC hP hD hS hL
  exact lv_if_ne hC.1 hC.2.1 hd ht (fun q => kt (fun z => q ((z_eq hx z_rng0).mpr z)) hR l dC dI as cA p e s m args below meth c H locs lsA hC hP hD hS hL) (fun q => kf ((z_eq hx z_rng0).mp q) hR l dC dI as cA p e s m args below meth c H locs lsA hC hP hD hS hL)
theorem z_icmp_ne {μ : zD} {d pc : Nat} {ls : List (Option zAV)} {st : List zAV} {M : zMem} {post : Int → zMem → Prop} {x y off : Int} {tgt : Nat} (hx : zrng x) (hy : zrng y) (hd : decode μ.2.1 pc = .ok (.if_icmp .ne off, 3)) (ht : (pc : Int) + off = (tgt : Int)) (kt : ¬ x = y → zV μ d tgt ls st M post) (kf : x = y → zV μ d (pc + 3) ls st M post) : zV μ d pc ls (zi y :: zi x :: st) M post := by
  intro hR l dC dI as cA p e s m args below meth c H locs lsA hC hP hD hS hL
  exact lv_icmp_ne hC.1 hC.2.1 hd ht (fun q => kt (fun z => q ((z_eq hx hy).mpr z)) hR l dC dI as cA p e s m args below meth c H locs lsA hC hP hD hS hL) (fun q => kf ((z_eq hx hy).mp q) hR l dC dI as cA p e s m args below meth c H locs lsA hC hP hD hS hL)
theorem z_if_lt {μ : zD} {d pc : Nat} {ls : List (Option zAV)} {st : List zAV} {M : zMem} {post : Int → zMem → Prop} {x off : Int} {tgt : Nat} (hx : zrng x) (hd : decode μ.2.1 pc = .ok (.ifCond .lt off, 3)) (ht : (pc : Int) + off = (tgt : Int)) (kt : x < 0 → zV μ d tgt ls st M post) (kf : ¬ x < 0 → zV μ d (pc + 3) ls st M post) : zV μ d pc ls (zi x :: st) M post := by
  intro hR l dC dI as cA p e s m args below meth c H locs lsA hC hP hD hS hL
  exact lv_if_lt hC.1 hC.2.1 hd ht (fun q => kt ((z_lt hx z_rng0).mp q) hR l dC dI as cA p e s m args below meth c H locs lsA hC hP hD hS hL) (fun q => kf (fun z => q ((z_lt hx z_rng0).mpr z)) hR l dC dI as cA p e s m args below meth c H locs lsA hC hP hD hS hL)
theorem z_icmp_lt {μ : zD} {d pc : Nat} {ls : List (Option zAV)} {st : List zAV} {M : zMem} {post : Int → zMem → Prop} {x y off : Int} {tgt : Nat} (hx : zrng x) (hy : zrng y) (hd : decode μ.2.1 pc = .ok (.if_icmp .lt off, 3)) (ht : (pc : Int) + off = (tgt : Int)) (kt : x < y → zV μ d tgt ls st M post) (kf : ¬ x < y → zV μ d (pc + 3) ls st M post) : zV μ d pc ls (zi y :: zi x :: st) M post := by
  intro hR l dC dI as cA p e s m args below meth c H locs lsA hC hP hD hS hL
  exact lv_icmp_lt hC.1 hC.2.1 hd ht (fun q => kt ((z_lt hx hy).mp q) hR l dC dI as cA p e s m args below meth c H locs lsA hC hP hD hS hL) (fun q => kf (fun z => q ((z_lt hx hy).mpr z)) hR l dC dI as cA p e s m args below meth c H locs lsA hC hP hD hS hL)
theorem z_if_ge {μ : zD} {d pc : Nat} {ls : List (Option zAV)} {st : List zAV} {M : zMem} {post : Int → zMem → Prop} {x off : Int} {tgt : Nat} (hx : zrng x) (hd : decode μ.2.1 pc = .ok (.ifCond .ge off, 3)) (ht : (pc : Int) + off = (tgt : Int)) (kt : 0 ≤ x → zV μ d tgt ls st M post) (kf : ¬ 0 ≤ x → zV μ d (pc + 3) ls st M post) : zV μ d pc ls (zi x :: st) M post := by
  intro hR l dC dI as cA p e s m args below meth c H locs lsA hC hP hD hS hL
  exact lv_if_ge hC.1 hC.2.1 hd ht (fun q => kt ((z_le z_rng0 hx).mp q) hR l dC dI as cA p e s m args below meth c H locs lsA hC hP hD hS hL) (fun q => kf (fun z => q ((z_le z_rng0 hx).mpr z)) hR l dC dI as cA p e s m args below meth c H locs lsA hC hP hD hS hL)
theorem z_icmp_ge {μ : zD} {d pc : Nat} {ls : List (Option zAV)} {st : List zAV} {M : zMem} {post : Int → zMem → Prop} {x y off : Int} {tgt : Nat} (hx : zrng x) (hy : zrng y) (hd : decode μ.2.1 pc = .ok (.if_icmp .ge off, 3)) (ht : (pc : Int) + off = (tgt : Int)) (kt : y ≤ x → zV μ d tgt ls st M post) (kf : ¬ y ≤ x → zV μ d (pc + 3) ls st M post) : zV μ d pc ls (zi y :: zi x :: st) M post := by
  intro hR l dC dI as cA p e s m args below meth c H locs lsA hC hP hD hS hL
  exact lv_icmp_ge hC.1 hC.2.1 hd ht (fun q => kt ((z_le hy hx).mp q) hR l dC dI as cA p e s m args below meth c H locs lsA hC hP hD hS hL) (fun q => kf (fun z => q ((z_le hy hx).mpr z)) hR l dC dI as cA p e s m args below meth c H locs lsA hC hP hD hS hL)
theorem z_if_gt {μ : zD} {d pc : Nat} {ls : List (Option zAV)} {st : List zAV} {M : zMem} {post : Int → zMem → Prop} {x off : Int} {tgt : Nat} (hx : zrng x) (hd : decode μ.2.1 pc = .ok (.ifCond .gt off, 3)) (ht : (pc : Int) + off = (tgt : Int)) (kt : 0 < x → zV μ d tgt ls st M post) (kf : ¬ 0 < x → zV μ d (pc + 3) ls st M post) : zV μ d pc ls (zi x :: st) M post := by
  intro hR l dC dI as cA p e s m args below meth c H locs lsA hC hP hD hS hL
  exact lv_if_gt hC.1 hC.2.1 hd ht (fun q => kt ((z_lt z_rng0 hx).mp q) hR l dC dI as cA p e s m args below meth c H locs lsA hC hP hD hS hL) (fun q => kf (fun z => q ((z_lt z_rng0 hx).mpr z)) hR l dC dI as cA p e s m args below meth c H locs lsA hC hP hD hS hL)
theorem z_icmp_gt {μ : zD} {d pc : Nat} {ls : List (Option zAV)} {st : List zAV} {M : zMem} {post : Int → zMem → Prop} {x y off : Int} {tgt : Nat} (hx : zrng x) (hy : zrng y) (hd : decode μ.2.1 pc = .ok (.if_icmp .gt off, 3)) (ht : (pc : Int) + off = (tgt : Int)) (kt : y < x → zV μ d tgt ls st M post) (kf : ¬ y < x → zV μ d (pc + 3) ls st M post) : zV μ d pc ls (zi y :: zi x :: st) M post := by
  intro hR l dC dI as cA p e s m args below meth c H locs lsA hC hP hD hS hL
  exact lv_icmp_gt hC.1 hC.2.1 hd ht (fun q => kt ((z_lt hy hx).mp q) hR l dC dI as cA p e s m args below meth c H locs lsA hC hP hD hS hL) (fun q => kf (fun z => q ((z_lt hy hx).mpr z)) hR l dC dI as cA p e s m args below meth c H locs lsA hC hP hD hS hL)
theorem z_if_le {μ : zD} {d pc : Nat} {ls : List (Option zAV)} {st : List zAV} {M : zMem} {post : Int → zMem → Prop} {x off : Int} {tgt : Nat} (hx : zrng x) (hd : decode μ.2.1 pc = .ok (.ifCond .le off, 3)) (ht : (pc : Int) + off = (tgt : Int)) (kt : x ≤ 0 → zV μ d tgt ls st M post) (kf : ¬ x ≤ 0 → zV μ d (pc + 3) ls st M post) : zV μ d pc ls (zi x :: st) M post := by
  intro hR l dC dI as cA p e s m args below meth c H locs lsA hC hP hD hS hL
  exact lv_if_le hC.1 hC.2.1 hd ht (fun q => kt ((z_le hx z_rng0).mp q) hR l dC dI as cA p e s m args below meth c H locs lsA hC hP hD hS hL) (fun q => kf (fun z => q ((z_le hx z_rng0).mpr z)) hR l dC dI as cA p e s m args below meth c H locs lsA hC hP hD hS hL)
theorem z_icmp_le {μ : zD} {d pc : Nat} {ls : List (Option zAV)} {st : List zAV} {M : zMem} {post : Int → zMem → Prop} {x y off : Int} {tgt : Nat} (hx : zrng x) (hy : zrng y) (hd : decode μ.2.1 pc = .ok (.if_icmp .le off, 3)) (ht : (pc : Int) + off = (tgt : Int)) (kt : x ≤ y → zV μ d tgt ls st M post) (kf : ¬ x ≤ y → zV μ d (pc + 3) ls st M post) : zV μ d pc ls (zi y :: zi x :: st) M post := by
  intro hR l dC dI as cA p e s m args below meth c H locs lsA hC hP hD hS hL
  exact lv_icmp_le hC.1 hC.2.1 hd ht (fun q => kt ((z_le hx hy).mp q) hR l dC dI as cA p e s m args below meth c H locs lsA hC hP hD hS hL) (fun q => kf (fun z => q ((z_le hx hy).mpr z)) hR l dC dI as cA p e s m args below meth c H locs lsA hC hP hD hS hL)
theorem z_goto {μ : zD} {d pc : Nat} {ls : List (Option zAV)} {st : List zAV} {M : zMem} {post : Int → zMem → Prop} {off : Int} {tgt : Nat} (hd : decode μ.2.1 pc = .ok (.goto off, 3)) (ht : (pc : Int) + off = (tgt : Int)) (k : zV μ d tgt ls st M post) : zV μ d pc ls (st) M post := by
  intro hR l dC dI as cA p e s m args below meth c H locs lsA hC hP hD hS hL
  exact lv_goto hC.1 hC.2.1 hd ht (k hR l dC dI as cA p e s m args below meth c H locs lsA hC hP hD hS hL)
theorem z_swIn {μ : zD} {d pc : Nat} {ls : List (Option zAV)} {st : List zAV} {M : zMem} {post : Int → zMem → Prop} {dflt lo hi off x : Int} {offs : Array Int} {len tgt : Nat} (n : Nat) (hx : zrng x) (hn : x = lo + n) (hd : decode μ.2.1 pc = .ok (.tableswitch dflt lo hi offs, len)) (hh : lo + (n : Int) ≤ hi) (ho : offs[n]? = some off) (ht : (pc : Int) + off = (tgt : Int)) (k : zV μ d tgt ls st M post) : zV μ d pc ls (zi x :: st) M post := by
  intro hR l dC dI as cA p e s m args below meth c H locs lsA hC hP hD hS hL
  refine lv_tableIn hC.1 hC.2.1 hd (by rw [z_toInt hx]; omega) (by rw [z_toInt hx]; omega) (by rw [z_toInt hx, show (x - lo).toNat = n by omega]; exact ho) ht (k hR l dC dI as cA p e s m args below meth c H locs lsA hC hP hD hS hL)
theorem z_swOut {μ : zD} {d pc : Nat} {ls : List (Option zAV)} {st : List zAV} {M : zMem} {post : Int → zMem → Prop} {dflt lo hi x : Int} {offs : Array Int} {len tgt : Nat} (hx : zrng x) (hd : decode μ.2.1 pc = .ok (.tableswitch dflt lo hi offs, len)) (hh : x < lo ∨ hi < x) (ht : (pc : Int) + dflt = (tgt : Int)) (k : zV μ d tgt ls st M post) : zV μ d pc ls (zi x :: st) M post := by
  intro hR l dC dI as cA p e s m args below meth c H locs lsA hC hP hD hS hL
  refine lv_tableOut hC.1 hC.2.1 hd (by rw [z_toInt hx]; exact hh) ht (k hR l dC dI as cA p e s m args below meth c H locs lsA hC hP hD hS hL)
