/-! the machine of ONE static world: cells by number, their ints by place -/
abbrev zMem : Type := Nat → Nat → Int
/-- an int, a long, a reference to the cell of a number -/
abbrev zAV : Type := Int ⊕ (Int ⊕ Nat)
abbrev zi (x : Int) : zAV := .inl x
abbrev zl (x : Int) : zAV := .inr (.inl x)
abbrev zr (c : Nat) : zAV := .inr (.inr c)
/-- a method: its class, code, locals, answer, name -/
abbrev zD : Type := String × ByteArray × Nat × Option FieldType × MethodName
abbrev zrng (x : Int) : Prop := -2147483648 ≤ x ∧ x ≤ 2147483647
abbrev zrngL (x : Int) : Prop := -9223372036854775808 ≤ x ∧ x ≤ 9223372036854775807
def zcv (as : Nat → Nat) (v : zAV) : Value := match v with
  | .inl x => .int (Int32.ofInt x)
  | .inr (.inl x) => .long (Int64.ofInt x)
  | .inr (.inr c) => .ref (as c)
def zmu (M : zMem) (c i : Nat) (v : Int) : zMem := fun c' => if c' = c then (fun i' => if i' = i then v else M c i') else M c'
def zR (M : zMem) : Prop := (∀ c i, c ≠ 29 → zrng (M c i)) ∧ ∀ i, zrngL (M 29 i)
theorem zmu_same (M : zMem) (c i : Nat) (v : Int) : zmu M c i v c i = v := by simp [zmu]
theorem zmu_ne (M : zMem) (c i : Nat) (v : Int) {j : Nat} (h : j ≠ i) : zmu M c i v c j = M c j := by simp [zmu, h]
theorem zmu_other (M : zMem) (c i : Nat) (v : Int) {c' : Nat} (h : c' ≠ c) : zmu M c i v c' = M c' := by simp [zmu, h]
theorem zR.mu {M : zMem} (h : zR M) {c i : Nat} {v : Int} (hc : c ≠ 29) (hv : zrng v) : zR (zmu M c i v) := by
  refine ⟨fun c' i' h' => ?_, fun i' => ?_⟩
  · by_cases e : c' = c
    · subst e
      by_cases e2 : i' = i
      · subst e2; rw [zmu_same]; exact hv
      · rw [zmu_ne _ _ _ _ e2]; exact h.1 _ _ h'
    · rw [zmu_other _ _ _ _ e]; exact h.1 _ _ h'
  · rw [zmu_other _ _ _ _ (Ne.symm hc)]; exact h.2 i'
theorem zR.muL {M : zMem} (h : zR M) {i : Nat} {v : Int} (hv : zrngL v) : zR (zmu M 29 i v) := by
  refine ⟨fun c' i' h' => ?_, fun i' => ?_⟩
  · rw [zmu_other _ _ _ _ h']; exact h.1 _ _ h'
  · by_cases e2 : i' = i
    · subst e2; rw [zmu_same]; exact hv
    · rw [zmu_ne _ _ _ _ e2]; exact h.2 _
/-- all words of the tables that last -/
def zAll : List Cond := lw_tbl.filter goodWord
theorem zAll_good {w : Cond} (h : w ∈ zAll) : (w.onTables && w.keeps) = true ∨ ∃ ty, w = .arrayClass ty := good_of_word (List.mem_filter.mp h).2
theorem zAll_of {w : Cond} (i : Nat) (h : lw_tbl[i]? = some w) (hg : goodWord w = true) : w ∈ zAll := List.mem_filter.mpr ⟨List.mem_of_getElem? h, hg⟩
def zws (μ : zD) : List Cond := Cond.code μ.2.2.2.2 μ.2.1 μ.2.2.1 μ.2.2.2.1 :: zAll
def zrm (d : Nat) : Room := { frames := d, cells := 0, slots := 0, locals := 30 * d }
theorem zws_good {Ts : List Cond} {μ : zD} (hT : ∀ w ∈ zAll, w ∈ Ts) (hc : Cond.code μ.2.2.2.2 μ.2.1 μ.2.2.1 μ.2.2.2.1 ∈ zAll) : GoodIn Ts (zws μ) := by
  intro w hw
  have : w ∈ zAll := by
    rcases List.mem_cons.mp hw with h | h
    · rw [h]; exact hc
    · exact h
  exact ⟨hT w this, zAll_good this⟩
/-- what the world may write: its cells, and what is new -/
def zA (as : Nat → Nat) (sz : Nat) : Nat → Prop := fun q => (∃ c, c < 65 ∧ q = as c) ∨ sz ≤ q
/-- the locals, by place; a long counts while nothing is told of the place behind it -/
def zL (as : Nat → Nat) (lsA : Array Slot) (nL : Nat) (ls : List (Option zAV)) : Prop :=
  lsA.size = nL ∧ lv_wf lsA ∧ ls.length = nL ∧ ∀ (i : Nat) (v : zAV), ls[i]? = some (some v) → (v.isLeft = true ∨ (∃ c, v = zr c) ∨ ls[i + 1]? = some none) → lsA[i]? = some (.val (zcv as v))
/-- the static world: an array of ints (0), of longs (1), of booleans (2) and its length, or an object: its class, and which cell a field holds -/
def zshapes : List ((Nat × Nat) ⊕ (Nat × List (Option Nat))) := [
  .inr (7, [some 1, some 2, some 3, some 4, some 5, some 6, some 7, some 8]),
  .inr (6, [some 10, some 11, some 12, none]),
  .inr (2, [some 13, some 14, none]),
  .inr (5, [some 15, some 16, none]),
  .inr (0, [some 17, some 18, some 19, some 20, none, none, none, some 3]),
  .inr (1, [some 21, some 22, some 23, some 24, some 25, some 26, none]),
  .inr (4, [some 1, some 4, some 5, some 3, some 27, some 28, none, none, none, none, some 29, some 30, none, none]),
  .inr (3, [some 31, some 32, some 33, some 34, none, none]),
  .inl (0, 3),
  .inr (8, [none, some 35, some 36, some 37, none, some 38, some 39, none, none, some 40, some 41, some 42, some 43, some 44, some 45, none, some 46, some 47, none, some 48, some 49, some 50, some 51, some 52, some 53, none, some 54, some 55, some 56, some 57, some 58, some 59, some 60, some 61, some 62, some 63, some 64, none]),
  .inl (0, 20),
  .inl (0, 20),
  .inl (0, 20),
  .inl (0, 6),
  .inl (0, 6),
  .inl (0, 9),
  .inl (0, 20),
  .inl (0, 3341),
  .inl (0, 3341),
  .inl (0, 3341),
  .inl (0, 3341),
  .inl (0, 12),
  .inl (0, 12),
  .inl (0, 12),
  .inl (0, 12),
  .inl (0, 12),
  .inl (2, 12),
  .inl (0, 40),
  .inl (0, 40),
  .inl (1, 6682),
  .inl (0, 40),
  .inl (0, 20),
  .inl (0, 20),
  .inl (0, 400),
  .inl (0, 20),
  .inl (0, 20),
  .inl (0, 20),
  .inl (0, 400),
  .inl (0, 6),
  .inl (0, 6),
  .inl (0, 9),
  .inl (0, 20),
  .inl (2, 20),
  .inl (0, 19700),
  .inl (0, 19700),
  .inl (0, 3),
  .inl (0, 19700),
  .inl (0, 41),
  .inl (0, 13),
  .inl (0, 13),
  .inl (0, 13),
  .inl (2, 13),
  .inl (2, 117),
  .inl (2, 4680),
  .inl (0, 3),
  .inl (0, 12),
  .inl (0, 2),
  .inl (0, 12),
  .inl (0, 12),
  .inl (0, 6),
  .inl (0, 6),
  .inl (0, 400),
  .inl (0, 20),
  .inl (0, 20),
  .inl (2, 400)]
def zsh (c : Nat) : (Nat × Nat) ⊕ (Nat × List (Option Nat)) := zshapes.getD c (.inl (0, 0))
def zro (c j : Nat) : Int := match c with
  | 70 => ([0, 1, 16, 19683] : List Int).getD j 0
  | 71 => ([0, 1, 2, 1, 0, 2, 0, 2, 1, 2, 1, 0, 1, 2, 0, 2, 0, 1] : List Int).getD j 0
  | 72 => ([0, 1, 2, 1, 0, 2, 0, 2, 1, 2, 1, 0, 2, 0, 1, 1, 2, 0] : List Int).getD j 0
  | 73 => ([1, 1, 2, 6] : List Int).getD j 0
  | 74 => ([0, 0, 1, 11, 3341] : List Int).getD j 0
  | _ => 0
/-- the tables that nobody writes -/
def zX (as : Nat → Nat) (A : Nat → Prop) (U : State) (H : Heap) : Prop := (va_Z "SmallWorlds" "TABLES" "[I" (.ref (as 70)) A U H ∧ va_T .int (as 70) 4 (fun j => .int (Int32.ofInt (zro 70 j))) A U H) ∧ (va_Z "SmallWorlds$Table" "NEW_NAME" "[I" (.ref (as 71)) A U H ∧ va_T .int (as 71) 18 (fun j => .int (Int32.ofInt (zro 71 j))) A U H) ∧ (va_Z "SmallWorlds$Table" "OLD_NAME" "[I" (.ref (as 72)) A U H ∧ va_T .int (as 72) 18 (fun j => .int (Int32.ofInt (zro 72 j))) A U H) ∧ (va_Z "SmallWorlds$Table" "RENAMINGS" "[I" (.ref (as 73)) A U H ∧ va_T .int (as 73) 4 (fun j => .int (Int32.ofInt (zro 73 j))) A U H) ∧ (va_Z "SmallWorlds$Catalog" "START" "[I" (.ref (as 74)) A U H ∧ va_T .int (as 74) 5 (fun j => .int (Int32.ofInt (zro 74 j))) A U H)
/-- the words of nest mates -/
def zN (U : State) : Prop := va_Nw (.methodLinkNest "SmallWorlds" 18 ⟨"SmallWorlds$Page", "<init>", "()V"⟩ "SmallWorlds") U ∧ va_Nw (.methodLinkNest "SmallWorlds" 25 ⟨"SmallWorlds$Table", "<init>", "()V"⟩ "SmallWorlds") U ∧ va_Nw (.methodLinkNest "SmallWorlds" 41 ⟨"SmallWorlds$Notions", "<init>", "()V"⟩ "SmallWorlds") U ∧ va_Nw (.methodLinkNest "SmallWorlds" 57 ⟨"SmallWorlds$Rounds", "<init>", "()V"⟩ "SmallWorlds") U ∧ va_Nw (.methodLinkNest "SmallWorlds$Table" 24 ⟨"SmallWorlds", "isSize", "(I)Z"⟩ "SmallWorlds") U ∧ va_Nw (.fieldLinkNest "SmallWorlds$Catalog" 60 "SmallWorlds" "TABLES" "[I" "SmallWorlds") U
/-- what cell c holds -/
def zE (as : Nat → Nat) (cA : Nat → ClassId) (M : zMem) (c : Nat) : va_E := match zsh c with
  | .inl (0, n) => .inl (cA 0, n, .inl (fun i => Int32.ofInt (M c i)))
  | .inl (1, n) => .inl (cA 1, n, .inr (.inl (fun i => Int64.ofInt (M c i))))
  | .inl (_, n) => .inl (cA 2, n, .inl (fun i => Int32.ofInt (M c i)))
  | .inr (ci, rs) => .inr (ci, rs.zipIdx.map (fun q => match q.1 with | some c' => Value.ref (as c') | none => Value.int (Int32.ofInt (M c q.2))))
def zw (as : Nat → Nat) (cA : Nat → ClassId) (M : zMem) : va_W := (List.range 65).map (fun c => (as c, zE as cA M c))
def ztys (cA : Nat → ClassId) : List (ClassId × FieldType) := [(cA 0, .int), (cA 1, .long), (cA 2, .boolean)]
theorem zw_at (as : Nat → Nat) (cA : Nat → ClassId) (M : zMem) {c : Nat} (h : c < 65) : (zw as cA M)[c]? = some (as c, zE as cA M c) := by
  simp [zw, List.getElem?_map, List.getElem?_range h]
theorem zw_set (as : Nat → Nat) (cA : Nat → ClassId) (M M' : zMem) {c : Nat} (e : va_E) (h : c < 65) (he : e = zE as cA M' c) (ho : ∀ c', c' ≠ c → M' c' = M c') : (zw as cA M).set c (as c, e) = zw as cA M' := by
  subst he
  apply List.ext_getElem?
  intro k
  by_cases hk : k = c
  · subst hk
    rw [List.getElem?_set_self (by simpa [zw] using h), zw_at _ _ _ h]
  · rw [List.getElem?_set_ne (Ne.symm hk)]
    by_cases h2 : k < 65
    · rw [zw_at _ _ _ h2, zw_at _ _ _ h2]
      simp only [zE, ho k hk]
    · rw [List.getElem?_eq_none (by simpa [zw] using h2), List.getElem?_eq_none (by simpa [zw] using h2)]
theorem zE_i (as : Nat → Nat) (cA : Nat → ClassId) (M : zMem) {c n : Nat} (h : zsh c = .inl (0, n)) : zE as cA M c = .inl (cA 0, n, .inl (fun i => Int32.ofInt (M c i))) := by simp [zE, h]
theorem zE_l (as : Nat → Nat) (cA : Nat → ClassId) (M : zMem) {c n : Nat} (h : zsh c = .inl (1, n)) : zE as cA M c = .inl (cA 1, n, .inr (.inl (fun i => Int64.ofInt (M c i)))) := by simp [zE, h]
theorem zE_z (as : Nat → Nat) (cA : Nat → ClassId) (M : zMem) {c n : Nat} (h : zsh c = .inl (2, n)) : zE as cA M c = .inl (cA 2, n, .inl (fun i => Int32.ofInt (M c i))) := by simp [zE, h]
def zfs (as : Nat → Nat) (M : zMem) (c : Nat) (rs : List (Option Nat)) : List Value := rs.zipIdx.map (fun q => match q.1 with | some c' => Value.ref (as c') | none => Value.int (Int32.ofInt (M c q.2)))
theorem zE_o (as : Nat → Nat) (cA : Nat → ClassId) (M : zMem) {c ci : Nat} {rs : List (Option Nat)} (h : zsh c = .inr (ci, rs)) : zE as cA M c = .inr (ci, zfs as M c rs) := by simp [zE, h, zfs]
theorem zfs_ref {as : Nat → Nat} {M : zMem} {c k c' : Nat} {rs : List (Option Nat)} (h : rs[k]? = some (some c')) : (zfs as M c rs)[k]? = some (Value.ref (as c')) := by
  simp [zfs, List.getElem?_map, List.getElem?_zipIdx, h]
theorem zfs_int {as : Nat → Nat} {M : zMem} {c k : Nat} {rs : List (Option Nat)} (h : rs[k]? = some none) : (zfs as M c rs)[k]? = some (Value.int (Int32.ofInt (M c k))) := by
  simp [zfs, List.getElem?_map, List.getElem?_zipIdx, h]
theorem zfs_set {as : Nat → Nat} {M : zMem} {c k : Nat} {rs : List (Option Nat)} (v : Int) (h : rs[k]? = some none) : (zfs as M c rs).set k (Value.int (Int32.ofInt v)) = zfs as (zmu M c k v) c rs := by
  have hk : k < rs.length := (List.getElem?_eq_some_iff.mp h).1
  apply List.ext_getElem?
  intro j
  by_cases hj : j = k
  · subst hj
    rw [List.getElem?_set_self (by simpa [zfs] using hk), zfs_int h, zmu_same]
  · rw [List.getElem?_set_ne (Ne.symm hj)]
    simp only [zfs, List.getElem?_map, List.getElem?_zipIdx]
    cases hr : rs[j]? with
    | none => simp
    | some r =>
      cases r with
      | none => simp [zmu, hj]
      | some c' => simp
theorem zupd (M : zMem) (c j : Nat) (v : Int) : upd (fun i => Int32.ofInt (M c i)) j (Int32.ofInt v) = fun i => Int32.ofInt (zmu M c j v c i) := by
  funext i
  by_cases h : i = j
  · subst h; simp [upd, zmu]
  · simp [upd, zmu, h]
theorem zupdL (M : zMem) (c j : Nat) (v : Int) : vp_updL (fun i => Int64.ofInt (M c i)) j (Int64.ofInt v) = fun i => Int64.ofInt (zmu M c j v c i) := by
  funext i
  by_cases h : i = j
  · subst h; simp [vp_updL, zmu]
  · simp [vp_updL, zmu, h]
/-- the tables' side of a state -/
def zCx (dC : Nat → ClassId) (dI : Nat → Nat → Nat) (as : Nat → Nat) (cA : Nat → ClassId) (A : Nat → Prop) (U : State) (H : Heap) : Prop := va_K (dC, dI) vwCl (ztys cA) U ∧ zX as A U H ∧ zN U
theorem zX.moved {as : Nat → Nat} {A : Nat → Prop} {u U : State} {H : Heap} (hvm : u.vm.Alike U.vm) (h : zX as A u H) : zX as A U H := by
  obtain ⟨⟨a1, a2⟩, ⟨b1, b2⟩, ⟨c1, c2⟩, ⟨d1, d2⟩, e1, e2⟩ := h
  exact ⟨⟨a1.moved hvm, a2.moved hvm⟩, ⟨b1.moved hvm, b2.moved hvm⟩, ⟨c1.moved hvm, c2.moved hvm⟩, ⟨d1.moved hvm, d2.moved hvm⟩, e1.moved hvm, e2.moved hvm⟩
theorem zX.kept {as : Nat → Nat} {A : Nat → Prop} {U : State} {H H1 : Heap} (h : zX as A U H) (hq : ∀ a : Nat, a < H.size → ¬ A a → H1[a]? = H[a]?) : zX as A U H1 := by
  obtain ⟨⟨a1, a2⟩, ⟨b1, b2⟩, ⟨c1, c2⟩, ⟨d1, d2⟩, e1, e2⟩ := h
  exact ⟨⟨a1.kept hq, a2.kept hq⟩, ⟨b1.kept hq, b2.kept hq⟩, ⟨c1.kept hq, c2.kept hq⟩, ⟨d1.kept hq, d2.kept hq⟩, e1.kept hq, e2.kept hq⟩
theorem zX.narrow {as : Nat → Nat} {A B : Nat → Prop} {U : State} {H : Heap} (h : zX as A U H) (hAB : ∀ q, B q → A q) : zX as B U H := by
  obtain ⟨⟨a1, a2⟩, ⟨b1, b2⟩, ⟨c1, c2⟩, ⟨d1, d2⟩, e1, e2⟩ := h
  exact ⟨⟨a1.narrow hAB, a2.narrow hAB⟩, ⟨b1.narrow hAB, b2.narrow hAB⟩, ⟨c1.narrow hAB, c2.narrow hAB⟩, ⟨d1.narrow hAB, d2.narrow hAB⟩, e1.narrow hAB, e2.narrow hAB⟩
theorem zN.warm {s U : State} (hW : s.WarmedH U.vm) (h : zN s) : zN U := by
  obtain ⟨h1, h2, h3, h4, h5, h6⟩ := h
  exact ⟨h1.warmM hW, h2.warmM hW, h3.warmM hW, h4.warmM hW, h5.warmM hW, h6.warmF hW⟩
theorem zN.same {s U : State} (hW : s.vm = U.vm) (h : zN s) : zN U := by
  obtain ⟨h1, h2, h3, h4, h5, h6⟩ := h
  exact ⟨h1.same rfl hW, h2.same rfl hW, h3.same rfl hW, h4.same rfl hW, h5.same rfl hW, h6.same rfl hW⟩
/-- a method's world behind it -/
def zB (dC : Nat → ClassId) (dI : Nat → Nat → Nat) (as : Nat → Nat) (cA : Nat → ClassId) (A : Nat → Prop) (M : zMem) (t : State) : Prop := va_P (dC, dI) vwCl (zw as cA M) t.heap ∧ va_D A (zw as cA M)
def zQ (ret : Option FieldType) (dC : Nat → ClassId) (dI : Nat → Nat → Nat) (as : Nat → Nat) (cA : Nat → ClassId) (A : Nat → Prop) (post : Int → zMem → Prop) : Array Value → State → Outcome → State → Prop := match ret with
  | none => va_Qv (fun u : zMem => post 0 u ∧ zR u) (fun u t => zB dC dI as cA A u t) A
  | some _ => va_Qi (fun (r : Int32) (u : Int × zMem) => r = Int32.ofInt u.1 ∧ post u.1 u.2 ∧ zR u.2) (fun u t => zB dC dI as cA A u.2 t) A
def zPc (dC : Nat → ClassId) (dI : Nat → Nat → Nat) (as : Nat → Nat) (cA : Nat → ClassId) (sz : Nat) (av : List zAV) (M : zMem) : Array Value → State → Prop := va_Pc (av.map (zcv as)) (fun U => U.heap.size = sz ∧ va_P (dC, dI) vwCl (zw as cA M) U.heap ∧ zCx dC dI as cA (zA as sz) U U.heap ∧ va_D (fun _ => True) (zw as cA M))
/-- A METHOD'S CONTRACT over the static world -/
def zSp (μ : zD) (d : Nat) (av : List zAV) (M : zMem) (post : Int → zMem → Prop) : Prop := zR M → ∀ (l : Launch) (dC : Nat → ClassId) (dI : Nat → Nat → Nat) (as : Nat → Nat) (cA : Nat → ClassId) (sz : Nat),
  Met l μ.2.2.2.2 (zws μ) (zrm d) (zPc dC dI as cA sz av M) (zQ μ.2.2.2.1 dC dI as cA (zA as sz) post) 0 0 (zA as sz)
/-- what a method's walk stands on -/
def zC (μ : zD) (dC : Nat → ClassId) (dI : Nat → Nat → Nat) (as : Nat → Nat) (cA : Nat → ClassId) (p : Program) (s : State) (m : MethodId) (args : Array Value) (meth : Method) (c : Code) : Prop :=
  p.tables.exec = Jvm.exec ∧ c.code = μ.2.1 ∧ c.maxLocals = μ.2.2.1 ∧ s.vm.findClass μ.1 = some m.cls ∧ (∀ w ∈ zAll, w.before args s = true) ∧ meth.sig.returnType = μ.2.2.2.1 ∧ meth.locks = false ∧ zCx dC dI as cA (zA as s.heap.size) s s.heap
/-- THE WALK: from pc, with locals ls, stack st and the world M, the method comes to its end, and post holds -/
def zV (μ : zD) (d pc : Nat) (ls : List (Option zAV)) (st : List zAV) (M : zMem) (post : Int → zMem → Prop) : Prop :=
  zR M → ∀ (l : Launch) (dC : Nat → ClassId) (dI : Nat → Nat → Nat) (as : Nat → Nat) (cA : Nat → ClassId) (p : Program) (e : Env) (s : State) (m : MethodId) (args : Array Value) (below : List Frame) (meth : Method) (c : Code) (H : Heap) (locs : List Loc) (lsA : Array Slot),
    zC μ dC dI as cA p s m args meth c → va_P (dC, dI) vwCl (zw as cA M) H → va_D (zA as s.heap.size) (zw as cA M) → va_S (zA as s.heap.size) s.heap H locs → zL as lsA μ.2.2.1 ls →
    W p l e (zrm d) s m args below meth c H locs 0 0 (MQ below (zQ μ.2.2.2.1 dC dI as cA (zA as s.heap.size) post) args s 0 0 (zA as s.heap.size)) (F0 m pc lsA (st.map (zcv as)))
