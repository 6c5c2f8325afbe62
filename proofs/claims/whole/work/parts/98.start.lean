/-! the start -/
def bB0 : Nat → Nat → Nat := fun c i => if c = 0 then (if i = 0 then 3 else 0) else if c = 11 then 1 else 0
theorem zMi_R : zR zMi := by
  refine ⟨fun c i _ => ?_, fun i => ?_⟩
  · unfold zMi
    split
    · dsimp only; split <;> omega
    · dsimp only; split <;> omega
    · dsimp only; split
      · omega
      · split <;> omega
    · dsimp only; split <;> omega
    · dsimp only; split <;> omega
    · dsimp only; split <;> omega
    · dsimp only; split <;> omega
    · dsimp only
      split
      · rename_i h
        rcases (show i = 0 ∨ i = 1 ∨ i = 2 by omega) with rfl | rfl | rfl <;> decide
      · omega
    · dsimp only; split <;> omega
    · dsimp only; split <;> omega
    · dsimp only; split <;> omega
    · dsimp only; omega
  · show zrngL (0 : Int)
    omega
theorem zMi_C : abC zMi bB0 := by
  refine ⟨⟨⟨rfl, by decide, by decide, fun t h1 h2 => ?_, fun t h1 h2 => ?_, fun t ht => ?_⟩, fun t u h1 h2 => ?_, ⟨rfl, by decide, fun l hl => absurd hl (Nat.not_lt_zero _)⟩, ⟨rfl, by decide, fun i hi => absurd hi (Nat.not_lt_zero _), fun i hi => absurd hi (Nat.not_lt_zero _)⟩, fun i hi => absurd hi (Nat.not_lt_zero _), fun i hi => ?_, fun s hs => ⟨Nat.zero_le _, fun l hl => absurd hl (Nat.not_lt_zero _)⟩, fun t ht => ?_⟩, Or.inl rfl, Or.inl rfl, Or.inl rfl, fun _ => 192, fun _ => 0, 0, 0, fun e he => ?_, fun e he => ⟨fun l hl => absurd hl (Nat.not_lt_zero _), fun s hs => ?_⟩, rfl, Nat.le_refl _, fun x hx => rfl, ⟨fun x hx => (by show (0 : Nat) < 2 ^ 60; decide), fun e he i hi => ?_⟩, rfl, Nat.le_refl _, Or.inl ⟨rfl, rfl⟩⟩
  · have h3 : t < 3 := h2
    omega
  · have h3 : t < 3 := h2
    omega
  · have h3 : t < 3 := ht
    rcases (show t = 0 ∨ t = 1 ∨ t = 2 by omega) with rfl | rfl | rfl <;> rfl
  · have h3 : t < 3 := h2
    omega
  · rcases (show i = 0 ∨ i = 1 ∨ i = 2 by omega) with rfl | rfl | rfl <;> exact ⟨rfl, by decide⟩
  · rcases (show t = 0 ∨ t = 1 ∨ t = 2 by omega) with rfl | rfl | rfl <;> exact ⟨rfl, rfl⟩
  · refine ⟨?_, by show (192 : Nat) < 256; decide⟩
    show (if e < 3341 then (192 : Int) else 0) = _
    rw [if_pos he]
    rfl
  · have e1 : sK bB0 s e = true := by
      unfold sK
      rw [decide_eq_true_iff]
      exact fun l hl => absurd hl (Nat.not_lt_zero _)
    rw [e1]
    show (192 : Nat).testBit (6 + s) = true
    rcases (show s = 0 ∨ s = 1 by omega) with rfl | rfl <;> decide
  · have e1 : dn (fun _ => 0) e i = false := by unfold dn; exact Nat.zero_testBit _
    rw [e1]
    refine ⟨(fun z => by cases z), fun b hb => ?_⟩
    rw [Nat.zero_testBit]
    rfl
theorem jd_3 {L R : Nat → Nat} (a b : Nat) : jdI L R 3 a b = -9 := by
  have h : jd L R 3 a b = none := jd_none.mpr (fun t h1 h2 => by omega)
  unfold jdI
  rw [h]
theorem zMi_M : abR zMi bB0 := by
  refine ⟨⟨⟨rfl, by decide, by decide, fun t h1 h2 => ?_, fun t h1 h2 => ?_⟩, fun t u h1 h2 => ?_, fun a b ha hb => ?_, ⟨rfl, by decide, fun l hl => absurd hl (Nat.not_lt_zero _)⟩, ⟨rfl, by decide, fun i hi => absurd hi (Nat.not_lt_zero _), fun i hi => absurd hi (Nat.not_lt_zero _)⟩, fun i hi => ?_, fun s hs => ⟨rfl, Nat.zero_le _, fun l hl => absurd hl (Nat.not_lt_zero _)⟩⟩, Or.inl rfl⟩
  · have h3 : t < 3 := h2
    omega
  · have h3 : t < 3 := h2
    omega
  · have h3 : t < 3 := h2
    omega
  · show (if 20 * a + b < 400 then (-9 : Int) else 0) = jdI (bB0 1) (bB0 2) 3 a b
    rw [if_pos (by omega), jd_3]
  · rcases (show i = 0 ∨ i = 1 ∨ i = 2 by omega) with rfl | rfl | rfl <;> exact ⟨rfl, by decide⟩
/-- from cells in the order of their making to cells by number -/
theorem gl_at {u : Nat → Nat} {cA : Nat → ClassId} {M : zMem} {cs : List Nat} {i c : Nat} (h : cs[i]? = some c) : (gl u cA M cs)[i]? = some (u c, zE u cA M c) := by
  unfold gl
  rw [List.getElem?_map, h]
  rfl
theorem gl_P {D : va_G} {u : Nat → Nat} {cA : Nat → ClassId} {M : zMem} {cs : List Nat} {H : Heap} (hP : va_P D vwCl (gl u cA M cs) H) (ha : ∀ c, c < 65 → c ∈ cs) : va_P D vwCl (zw u cA M) H := by
  intro k q hk
  have hl : k < 65 := by
    have := (List.getElem?_eq_some_iff.mp hk).1
    simpa [zw] using this
  rw [zw_at u cA M hl] at hk
  cases hk
  obtain ⟨i, hi⟩ := List.getElem?_of_mem (ha k hl)
  exact hP i _ (gl_at hi)
theorem gl_D {A : Nat → Prop} {u : Nat → Nat} {cA : Nat → ClassId} {M : zMem} {cs : List Nat} (hD : va_D A (gl u cA M cs)) (ha : ∀ c, c < 65 → c ∈ cs) : va_D A (zw u cA M) := by
  refine ⟨fun i j p q hi hj e => ?_, fun k q hk => ?_⟩
  · have hl : i < 65 := by
      have := (List.getElem?_eq_some_iff.mp hi).1
      simpa [zw] using this
    have hl2 : j < 65 := by
      have := (List.getElem?_eq_some_iff.mp hj).1
      simpa [zw] using this
    rw [zw_at u cA M hl] at hi
    rw [zw_at u cA M hl2] at hj
    cases hi
    cases hj
    obtain ⟨i', hi'⟩ := List.getElem?_of_mem (ha i hl)
    obtain ⟨j', hj'⟩ := List.getElem?_of_mem (ha j hl2)
    have e2 := hD.1 i' j' _ _ (gl_at hi') (gl_at hj') e
    rw [e2, hj'] at hi'
    exact (Option.some.inj hi').symm
  · have hl : k < 65 := by
      have := (List.getElem?_eq_some_iff.mp hk).1
      simpa [zw] using this
    rw [zw_at u cA M hl] at hk
    cases hk
    obtain ⟨i, hi⟩ := List.getElem?_of_mem (ha k hl)
    exact hD.2 i _ (gl_at hi)
theorem gl_two {u u1 u2 : Nat → Nat} {cA : Nat → ClassId} {M : zMem} {cs1 cs2 : List Nat} (h1 : ∀ c ∈ cs1, u1 c = u c ∧ zE u1 cA M c = zE u cA M c) (h2 : ∀ c ∈ cs2, u2 c = u c ∧ zE u2 cA M c = zE u cA M c) : gl u1 cA M cs1 ++ gl u2 cA M cs2 = gl u cA M (cs1 ++ cs2) := by
  unfold gl
  rw [List.map_append]
  congr 1
  · exact List.map_congr_left (fun c hc => by rw [(h1 c hc).1, (h1 c hc).2])
  · exact List.map_congr_left (fun c hc => by rw [(h2 c hc).1, (h2 c hc).2])
theorem arr_of {s : State} {args : Array Value} {ty : FieldType} (h : (Cond.arrayClass ty).before args s = true) (hp : ∀ cB, s.vm.findClass ("[" ++ ty.toString) = some cB → va_RA s cB ty) : ∃ cA : ClassId, ArrOfT s cA ty ∧ va_RA s cA ty := by
  obtain ⟨cA, kA, comp, h1, h2, h3⟩ := Cond.arrayClass_spec h
  exact ⟨cA, fun n z => ⟨fun k h => (by cases h), kA, h2, comp, h3⟩, hp cA h1⟩
abbrev zcs1 : List Nat := [0, 1, 10, 11, 12, 2, 13, 14, 3, 15, 16, 4, 17, 18, 19, 20, 5, 21, 22, 23, 24, 25, 26, 6, 27, 28, 29, 30, 7, 31, 32, 33, 34, 8]
abbrev zcs2 : List Nat := [9, 35, 36, 37, 38, 39, 40, 41, 42, 43, 44, 45, 46, 47, 48, 49, 50, 51, 52, 53, 54, 55, 56, 57, 58, 59, 60, 61, 62, 63, 64]
theorem zcs_all : ∀ c, c < 65 → c ∈ zcs1 ++ zcs2 := by decide
def zas (u1 u2 : Nat → Nat) (t70 t71 t72 t73 t74 b : Nat) : Nat → Nat := fun c => if c = 70 then t70 else if c = 71 then t71 else if c = 72 then t72 else if c = 73 then t73 else if c = 74 then t74 else if c = 75 then b else if c = 9 then u2 c else if 35 ≤ c then u2 c else u1 c
theorem zas_1 {u1 u2 : Nat → Nat} {t70 t71 t72 t73 t74 b : Nat} {cA : Nat → ClassId} : ∀ c ∈ zcs1, u1 c = zas u1 u2 t70 t71 t72 t73 t74 b c ∧ zE u1 cA zMi c = zE (zas u1 u2 t70 t71 t72 t73 t74 b) cA zMi c := by
  intro c hc
  simp only [List.mem_cons, List.not_mem_nil, or_false] at hc
  rcases hc with rfl | rfl | rfl | rfl | rfl | rfl | rfl | rfl | rfl | rfl | rfl | rfl | rfl | rfl | rfl | rfl | rfl | rfl | rfl | rfl | rfl | rfl | rfl | rfl | rfl | rfl | rfl | rfl | rfl | rfl | rfl | rfl | rfl | rfl <;> exact ⟨rfl, rfl⟩
theorem zas_2 {u1 u2 : Nat → Nat} {t70 t71 t72 t73 t74 b : Nat} {cA : Nat → ClassId} : ∀ c ∈ zcs2, u2 c = zas u1 u2 t70 t71 t72 t73 t74 b c ∧ zE u2 cA zMi c = zE (zas u1 u2 t70 t71 t72 t73 t74 b) cA zMi c := by
  intro c hc
  simp only [List.mem_cons, List.not_mem_nil, or_false] at hc
  rcases hc with rfl | rfl | rfl | rfl | rfl | rfl | rfl | rfl | rfl | rfl | rfl | rfl | rfl | rfl | rfl | rfl | rfl | rfl | rfl | rfl | rfl | rfl | rfl | rfl | rfl | rfl | rfl | rfl | rfl | rfl | rfl <;> exact ⟨rfl, rfl⟩
theorem zst_70 {args : Array Value} {s : State} {A : Nat → Prop} (hts : ∀ w ∈ lw_tbl, w.before args s = true) (hT : ∀ w ∈ zAll, w.before args s = true) (hs : ∀ c ∈ flatC (Jvm.Cond.and given_1 narrow_1), c.before args s = true) (hA : ∀ a : Nat, a < s.heap.size → ¬ A a) : ∃ t : Nat, va_Z "SmallWorlds" "TABLES" "[I" (.ref t) A s s.heap ∧ va_T .int t 4 (fun j => .int (Int32.ofInt (zro 70 j))) A s s.heap := by
  have hel : ∀ j : Nat, j < 4 → (Term.elem (Term.static "SmallWorlds" "TABLES" "[I") (.int (Int32.ofNat j))).eval args s none [] s = some (.int (Int32.ofInt (zro 70 j))) := by
    intro j hj
    rcases (show j = 0 ∨ j = 1 ∨ j = 2 ∨ j = 3 by omega) with rfl | rfl | rfl | rfl
    · exact va_eqt (hs (Cond.eq (Term.elem (Term.static "SmallWorlds" "TABLES" "[I") (Term.int (0 : Int32))) (Term.int (0 : Int32))) (by decide +kernel))
    · exact va_eqt (hs (Cond.eq (Term.elem (Term.static "SmallWorlds" "TABLES" "[I") (Term.int (1 : Int32))) (Term.int (1 : Int32))) (by decide +kernel))
    · exact va_eqt (hs (Cond.eq (Term.elem (Term.static "SmallWorlds" "TABLES" "[I") (Term.int (2 : Int32))) (Term.int (16 : Int32))) (by decide +kernel))
    · exact va_eqt (hs (Cond.eq (Term.elem (Term.static "SmallWorlds" "TABLES" "[I") (Term.int (3 : Int32))) (Term.int (19683 : Int32))) (by decide +kernel))
  obtain ⟨t, h1, h2⟩ := va_Tof (args := args) (tm := (Term.static "SmallWorlds" "TABLES" "[I")) (ty := .int) (N := 4) (f := fun j => .int (Int32.ofInt (zro 70 j))) (A := A) (by decide) (hs _ (by decide +kernel)) (va_eqt (hs (Cond.eq (Term.length (Term.static "SmallWorlds" "TABLES" "[I")) (Term.int (4 : Int32))) (by decide +kernel))) hel hA
  exact ⟨t, va_Zref (hts (Cond.laysStatic "SmallWorlds" "TABLES" "[I") (List.mem_of_getElem? (i := 417) (by decide +kernel))) (hT (Cond.initialized "SmallWorlds") zk_ini_S) h1 hA, h2⟩
theorem zst_71 {args : Array Value} {s : State} {A : Nat → Prop} (hts : ∀ w ∈ lw_tbl, w.before args s = true) (hT : ∀ w ∈ zAll, w.before args s = true) (hs : ∀ c ∈ flatC (Jvm.Cond.and given_1 narrow_1), c.before args s = true) (hA : ∀ a : Nat, a < s.heap.size → ¬ A a) : ∃ t : Nat, va_Z "SmallWorlds$Table" "NEW_NAME" "[I" (.ref t) A s s.heap ∧ va_T .int t 18 (fun j => .int (Int32.ofInt (zro 71 j))) A s s.heap := by
  have hel : ∀ j : Nat, j < 18 → (Term.elem (Term.static "SmallWorlds$Table" "NEW_NAME" "[I") (.int (Int32.ofNat j))).eval args s none [] s = some (.int (Int32.ofInt (zro 71 j))) := by
    intro j hj
    rcases (show j = 0 ∨ j = 1 ∨ j = 2 ∨ j = 3 ∨ j = 4 ∨ j = 5 ∨ j = 6 ∨ j = 7 ∨ j = 8 ∨ j = 9 ∨ j = 10 ∨ j = 11 ∨ j = 12 ∨ j = 13 ∨ j = 14 ∨ j = 15 ∨ j = 16 ∨ j = 17 by omega) with rfl | rfl | rfl | rfl | rfl | rfl | rfl | rfl | rfl | rfl | rfl | rfl | rfl | rfl | rfl | rfl | rfl | rfl
    · exact va_eqt (hs (Cond.eq (Term.elem (Term.static "SmallWorlds$Table" "NEW_NAME" "[I") (Term.int (0 : Int32))) (Term.int (0 : Int32))) (by decide +kernel))
    · exact va_eqt (hs (Cond.eq (Term.elem (Term.static "SmallWorlds$Table" "NEW_NAME" "[I") (Term.int (1 : Int32))) (Term.int (1 : Int32))) (by decide +kernel))
    · exact va_eqt (hs (Cond.eq (Term.elem (Term.static "SmallWorlds$Table" "NEW_NAME" "[I") (Term.int (2 : Int32))) (Term.int (2 : Int32))) (by decide +kernel))
    · exact va_eqt (hs (Cond.eq (Term.elem (Term.static "SmallWorlds$Table" "NEW_NAME" "[I") (Term.int (3 : Int32))) (Term.int (1 : Int32))) (by decide +kernel))
    · exact va_eqt (hs (Cond.eq (Term.elem (Term.static "SmallWorlds$Table" "NEW_NAME" "[I") (Term.int (4 : Int32))) (Term.int (0 : Int32))) (by decide +kernel))
    · exact va_eqt (hs (Cond.eq (Term.elem (Term.static "SmallWorlds$Table" "NEW_NAME" "[I") (Term.int (5 : Int32))) (Term.int (2 : Int32))) (by decide +kernel))
    · exact va_eqt (hs (Cond.eq (Term.elem (Term.static "SmallWorlds$Table" "NEW_NAME" "[I") (Term.int (6 : Int32))) (Term.int (0 : Int32))) (by decide +kernel))
    · exact va_eqt (hs (Cond.eq (Term.elem (Term.static "SmallWorlds$Table" "NEW_NAME" "[I") (Term.int (7 : Int32))) (Term.int (2 : Int32))) (by decide +kernel))
    · exact va_eqt (hs (Cond.eq (Term.elem (Term.static "SmallWorlds$Table" "NEW_NAME" "[I") (Term.int (8 : Int32))) (Term.int (1 : Int32))) (by decide +kernel))
    · exact va_eqt (hs (Cond.eq (Term.elem (Term.static "SmallWorlds$Table" "NEW_NAME" "[I") (Term.int (9 : Int32))) (Term.int (2 : Int32))) (by decide +kernel))
    · exact va_eqt (hs (Cond.eq (Term.elem (Term.static "SmallWorlds$Table" "NEW_NAME" "[I") (Term.int (10 : Int32))) (Term.int (1 : Int32))) (by decide +kernel))
    · exact va_eqt (hs (Cond.eq (Term.elem (Term.static "SmallWorlds$Table" "NEW_NAME" "[I") (Term.int (11 : Int32))) (Term.int (0 : Int32))) (by decide +kernel))
    · exact va_eqt (hs (Cond.eq (Term.elem (Term.static "SmallWorlds$Table" "NEW_NAME" "[I") (Term.int (12 : Int32))) (Term.int (1 : Int32))) (by decide +kernel))
    · exact va_eqt (hs (Cond.eq (Term.elem (Term.static "SmallWorlds$Table" "NEW_NAME" "[I") (Term.int (13 : Int32))) (Term.int (2 : Int32))) (by decide +kernel))
    · exact va_eqt (hs (Cond.eq (Term.elem (Term.static "SmallWorlds$Table" "NEW_NAME" "[I") (Term.int (14 : Int32))) (Term.int (0 : Int32))) (by decide +kernel))
    · exact va_eqt (hs (Cond.eq (Term.elem (Term.static "SmallWorlds$Table" "NEW_NAME" "[I") (Term.int (15 : Int32))) (Term.int (2 : Int32))) (by decide +kernel))
    · exact va_eqt (hs (Cond.eq (Term.elem (Term.static "SmallWorlds$Table" "NEW_NAME" "[I") (Term.int (16 : Int32))) (Term.int (0 : Int32))) (by decide +kernel))
    · exact va_eqt (hs (Cond.eq (Term.elem (Term.static "SmallWorlds$Table" "NEW_NAME" "[I") (Term.int (17 : Int32))) (Term.int (1 : Int32))) (by decide +kernel))
  obtain ⟨t, h1, h2⟩ := va_Tof (args := args) (tm := (Term.static "SmallWorlds$Table" "NEW_NAME" "[I")) (ty := .int) (N := 18) (f := fun j => .int (Int32.ofInt (zro 71 j))) (A := A) (by decide) (hs _ (by decide +kernel)) (va_eqt (hs (Cond.eq (Term.length (Term.static "SmallWorlds$Table" "NEW_NAME" "[I")) (Term.int (18 : Int32))) (by decide +kernel))) hel hA
  exact ⟨t, va_Zref (hts (Cond.laysStatic "SmallWorlds$Table" "NEW_NAME" "[I") (List.mem_of_getElem? (i := 433) (by decide +kernel))) (hT (Cond.initialized "SmallWorlds$Table") zk_ini_Table) h1 hA, h2⟩
theorem zst_72 {args : Array Value} {s : State} {A : Nat → Prop} (hts : ∀ w ∈ lw_tbl, w.before args s = true) (hT : ∀ w ∈ zAll, w.before args s = true) (hs : ∀ c ∈ flatC (Jvm.Cond.and given_1 narrow_1), c.before args s = true) (hA : ∀ a : Nat, a < s.heap.size → ¬ A a) : ∃ t : Nat, va_Z "SmallWorlds$Table" "OLD_NAME" "[I" (.ref t) A s s.heap ∧ va_T .int t 18 (fun j => .int (Int32.ofInt (zro 72 j))) A s s.heap := by
  have hel : ∀ j : Nat, j < 18 → (Term.elem (Term.static "SmallWorlds$Table" "OLD_NAME" "[I") (.int (Int32.ofNat j))).eval args s none [] s = some (.int (Int32.ofInt (zro 72 j))) := by
    intro j hj
    rcases (show j = 0 ∨ j = 1 ∨ j = 2 ∨ j = 3 ∨ j = 4 ∨ j = 5 ∨ j = 6 ∨ j = 7 ∨ j = 8 ∨ j = 9 ∨ j = 10 ∨ j = 11 ∨ j = 12 ∨ j = 13 ∨ j = 14 ∨ j = 15 ∨ j = 16 ∨ j = 17 by omega) with rfl | rfl | rfl | rfl | rfl | rfl | rfl | rfl | rfl | rfl | rfl | rfl | rfl | rfl | rfl | rfl | rfl | rfl
    · exact va_eqt (hs (Cond.eq (Term.elem (Term.static "SmallWorlds$Table" "OLD_NAME" "[I") (Term.int (0 : Int32))) (Term.int (0 : Int32))) (by decide +kernel))
    · exact va_eqt (hs (Cond.eq (Term.elem (Term.static "SmallWorlds$Table" "OLD_NAME" "[I") (Term.int (1 : Int32))) (Term.int (1 : Int32))) (by decide +kernel))
    · exact va_eqt (hs (Cond.eq (Term.elem (Term.static "SmallWorlds$Table" "OLD_NAME" "[I") (Term.int (2 : Int32))) (Term.int (2 : Int32))) (by decide +kernel))
    · exact va_eqt (hs (Cond.eq (Term.elem (Term.static "SmallWorlds$Table" "OLD_NAME" "[I") (Term.int (3 : Int32))) (Term.int (1 : Int32))) (by decide +kernel))
    · exact va_eqt (hs (Cond.eq (Term.elem (Term.static "SmallWorlds$Table" "OLD_NAME" "[I") (Term.int (4 : Int32))) (Term.int (0 : Int32))) (by decide +kernel))
    · exact va_eqt (hs (Cond.eq (Term.elem (Term.static "SmallWorlds$Table" "OLD_NAME" "[I") (Term.int (5 : Int32))) (Term.int (2 : Int32))) (by decide +kernel))
    · exact va_eqt (hs (Cond.eq (Term.elem (Term.static "SmallWorlds$Table" "OLD_NAME" "[I") (Term.int (6 : Int32))) (Term.int (0 : Int32))) (by decide +kernel))
    · exact va_eqt (hs (Cond.eq (Term.elem (Term.static "SmallWorlds$Table" "OLD_NAME" "[I") (Term.int (7 : Int32))) (Term.int (2 : Int32))) (by decide +kernel))
    · exact va_eqt (hs (Cond.eq (Term.elem (Term.static "SmallWorlds$Table" "OLD_NAME" "[I") (Term.int (8 : Int32))) (Term.int (1 : Int32))) (by decide +kernel))
    · exact va_eqt (hs (Cond.eq (Term.elem (Term.static "SmallWorlds$Table" "OLD_NAME" "[I") (Term.int (9 : Int32))) (Term.int (2 : Int32))) (by decide +kernel))
    · exact va_eqt (hs (Cond.eq (Term.elem (Term.static "SmallWorlds$Table" "OLD_NAME" "[I") (Term.int (10 : Int32))) (Term.int (1 : Int32))) (by decide +kernel))
    · exact va_eqt (hs (Cond.eq (Term.elem (Term.static "SmallWorlds$Table" "OLD_NAME" "[I") (Term.int (11 : Int32))) (Term.int (0 : Int32))) (by decide +kernel))
    · exact va_eqt (hs (Cond.eq (Term.elem (Term.static "SmallWorlds$Table" "OLD_NAME" "[I") (Term.int (12 : Int32))) (Term.int (2 : Int32))) (by decide +kernel))
    · exact va_eqt (hs (Cond.eq (Term.elem (Term.static "SmallWorlds$Table" "OLD_NAME" "[I") (Term.int (13 : Int32))) (Term.int (0 : Int32))) (by decide +kernel))
    · exact va_eqt (hs (Cond.eq (Term.elem (Term.static "SmallWorlds$Table" "OLD_NAME" "[I") (Term.int (14 : Int32))) (Term.int (1 : Int32))) (by decide +kernel))
    · exact va_eqt (hs (Cond.eq (Term.elem (Term.static "SmallWorlds$Table" "OLD_NAME" "[I") (Term.int (15 : Int32))) (Term.int (1 : Int32))) (by decide +kernel))
    · exact va_eqt (hs (Cond.eq (Term.elem (Term.static "SmallWorlds$Table" "OLD_NAME" "[I") (Term.int (16 : Int32))) (Term.int (2 : Int32))) (by decide +kernel))
    · exact va_eqt (hs (Cond.eq (Term.elem (Term.static "SmallWorlds$Table" "OLD_NAME" "[I") (Term.int (17 : Int32))) (Term.int (0 : Int32))) (by decide +kernel))
  obtain ⟨t, h1, h2⟩ := va_Tof (args := args) (tm := (Term.static "SmallWorlds$Table" "OLD_NAME" "[I")) (ty := .int) (N := 18) (f := fun j => .int (Int32.ofInt (zro 72 j))) (A := A) (by decide) (hs _ (by decide +kernel)) (va_eqt (hs (Cond.eq (Term.length (Term.static "SmallWorlds$Table" "OLD_NAME" "[I")) (Term.int (18 : Int32))) (by decide +kernel))) hel hA
  exact ⟨t, va_Zref (hts (Cond.laysStatic "SmallWorlds$Table" "OLD_NAME" "[I") (List.mem_of_getElem? (i := 435) (by decide +kernel))) (hT (Cond.initialized "SmallWorlds$Table") zk_ini_Table) h1 hA, h2⟩
theorem zst_73 {args : Array Value} {s : State} {A : Nat → Prop} (hts : ∀ w ∈ lw_tbl, w.before args s = true) (hT : ∀ w ∈ zAll, w.before args s = true) (hs : ∀ c ∈ flatC (Jvm.Cond.and given_1 narrow_1), c.before args s = true) (hA : ∀ a : Nat, a < s.heap.size → ¬ A a) : ∃ t : Nat, va_Z "SmallWorlds$Table" "RENAMINGS" "[I" (.ref t) A s s.heap ∧ va_T .int t 4 (fun j => .int (Int32.ofInt (zro 73 j))) A s s.heap := by
  have hel : ∀ j : Nat, j < 4 → (Term.elem (Term.static "SmallWorlds$Table" "RENAMINGS" "[I") (.int (Int32.ofNat j))).eval args s none [] s = some (.int (Int32.ofInt (zro 73 j))) := by
    intro j hj
    rcases (show j = 0 ∨ j = 1 ∨ j = 2 ∨ j = 3 by omega) with rfl | rfl | rfl | rfl
    · exact va_eqt (hs (Cond.eq (Term.elem (Term.static "SmallWorlds$Table" "RENAMINGS" "[I") (Term.int (0 : Int32))) (Term.int (1 : Int32))) (by decide +kernel))
    · exact va_eqt (hs (Cond.eq (Term.elem (Term.static "SmallWorlds$Table" "RENAMINGS" "[I") (Term.int (1 : Int32))) (Term.int (1 : Int32))) (by decide +kernel))
    · exact va_eqt (hs (Cond.eq (Term.elem (Term.static "SmallWorlds$Table" "RENAMINGS" "[I") (Term.int (2 : Int32))) (Term.int (2 : Int32))) (by decide +kernel))
    · exact va_eqt (hs (Cond.eq (Term.elem (Term.static "SmallWorlds$Table" "RENAMINGS" "[I") (Term.int (3 : Int32))) (Term.int (6 : Int32))) (by decide +kernel))
  obtain ⟨t, h1, h2⟩ := va_Tof (args := args) (tm := (Term.static "SmallWorlds$Table" "RENAMINGS" "[I")) (ty := .int) (N := 4) (f := fun j => .int (Int32.ofInt (zro 73 j))) (A := A) (by decide) (hs _ (by decide +kernel)) (va_eqt (hs (Cond.eq (Term.length (Term.static "SmallWorlds$Table" "RENAMINGS" "[I")) (Term.int (4 : Int32))) (by decide +kernel))) hel hA
  exact ⟨t, va_Zref (hts (Cond.laysStatic "SmallWorlds$Table" "RENAMINGS" "[I") (List.mem_of_getElem? (i := 423) (by decide +kernel))) (hT (Cond.initialized "SmallWorlds$Table") zk_ini_Table) h1 hA, h2⟩
theorem zst_74 {args : Array Value} {s : State} {A : Nat → Prop} (hts : ∀ w ∈ lw_tbl, w.before args s = true) (hT : ∀ w ∈ zAll, w.before args s = true) (hs : ∀ c ∈ flatC (Jvm.Cond.and given_1 narrow_1), c.before args s = true) (hA : ∀ a : Nat, a < s.heap.size → ¬ A a) : ∃ t : Nat, va_Z "SmallWorlds$Catalog" "START" "[I" (.ref t) A s s.heap ∧ va_T .int t 5 (fun j => .int (Int32.ofInt (zro 74 j))) A s s.heap := by
  have hel : ∀ j : Nat, j < 5 → (Term.elem (Term.static "SmallWorlds$Catalog" "START" "[I") (.int (Int32.ofNat j))).eval args s none [] s = some (.int (Int32.ofInt (zro 74 j))) := by
    intro j hj
    rcases (show j = 0 ∨ j = 1 ∨ j = 2 ∨ j = 3 ∨ j = 4 by omega) with rfl | rfl | rfl | rfl | rfl
    · exact va_eqt (hs (Cond.eq (Term.elem (Term.static "SmallWorlds$Catalog" "START" "[I") (Term.int (0 : Int32))) (Term.int (0 : Int32))) (by decide +kernel))
    · exact va_eqt (hs (Cond.eq (Term.elem (Term.static "SmallWorlds$Catalog" "START" "[I") (Term.int (1 : Int32))) (Term.int (0 : Int32))) (by decide +kernel))
    · exact va_eqt (hs (Cond.eq (Term.elem (Term.static "SmallWorlds$Catalog" "START" "[I") (Term.int (2 : Int32))) (Term.int (1 : Int32))) (by decide +kernel))
    · exact va_eqt (hs (Cond.eq (Term.elem (Term.static "SmallWorlds$Catalog" "START" "[I") (Term.int (3 : Int32))) (Term.int (11 : Int32))) (by decide +kernel))
    · exact va_eqt (hs (Cond.eq (Term.elem (Term.static "SmallWorlds$Catalog" "START" "[I") (Term.int (4 : Int32))) (Term.int (3341 : Int32))) (by decide +kernel))
  obtain ⟨t, h1, h2⟩ := va_Tof (args := args) (tm := (Term.static "SmallWorlds$Catalog" "START" "[I")) (ty := .int) (N := 5) (f := fun j => .int (Int32.ofInt (zro 74 j))) (A := A) (by decide) (hs _ (by decide +kernel)) (va_eqt (hs (Cond.eq (Term.length (Term.static "SmallWorlds$Catalog" "START" "[I")) (Term.int (5 : Int32))) (by decide +kernel))) hel hA
  exact ⟨t, va_Zref (hts (Cond.laysStatic "SmallWorlds$Catalog" "START" "[I") (List.mem_of_getElem? (i := 445) (by decide +kernel))) (hT (Cond.initialized "SmallWorlds$Catalog") zk_ini_Catalog) h1 hA, h2⟩
theorem zn_w0 : (Cond.methodLinkNest "SmallWorlds" 18 ⟨"SmallWorlds$Page", "<init>", "()V"⟩ "SmallWorlds") ∈ lw_tbl := List.mem_of_getElem? (i := 119) (by decide +kernel)
theorem zn_w1 : (Cond.methodLinkNest "SmallWorlds" 25 ⟨"SmallWorlds$Table", "<init>", "()V"⟩ "SmallWorlds") ∈ lw_tbl := List.mem_of_getElem? (i := 144) (by decide +kernel)
theorem zn_w2 : (Cond.methodLinkNest "SmallWorlds" 41 ⟨"SmallWorlds$Notions", "<init>", "()V"⟩ "SmallWorlds") ∈ lw_tbl := List.mem_of_getElem? (i := 199) (by decide +kernel)
theorem zn_w3 : (Cond.methodLinkNest "SmallWorlds" 57 ⟨"SmallWorlds$Rounds", "<init>", "()V"⟩ "SmallWorlds") ∈ lw_tbl := List.mem_of_getElem? (i := 290) (by decide +kernel)
theorem zn_w4 : (Cond.methodLinkNest "SmallWorlds$Table" 24 ⟨"SmallWorlds", "isSize", "(I)Z"⟩ "SmallWorlds") ∈ lw_tbl := List.mem_of_getElem? (i := 415) (by decide +kernel)
theorem zn_w5 : (Cond.fieldLinkNest "SmallWorlds$Catalog" 60 "SmallWorlds" "TABLES" "[I" "SmallWorlds") ∈ lw_tbl := List.mem_of_getElem? (i := 416) (by decide +kernel)
theorem zn_of {args : Array Value} {s : State} (hts : ∀ w ∈ lw_tbl, w.before args s = true) : zN s := ⟨va_Nw.of rfl (hts _ zn_w0), va_Nw.of rfl (hts _ zn_w1), va_Nw.of rfl (hts _ zn_w2), va_Nw.of rfl (hts _ zn_w3), va_Nw.of rfl (hts _ zn_w4), va_Nw.of rfl (hts _ zn_w5)⟩
theorem lw_cl7 : Cond.classLink R_law 7 RX8 ∈ lw_tbl := List.mem_of_getElem? (i := 80) (by decide +kernel)
theorem lw_cl10 : Cond.classLink R_law 10 RX9 ∈ lw_tbl := List.mem_of_getElem? (i := 840) (by decide +kernel)
theorem lw_ml9 : Cond.methodLink R_law 9 yX8_init ∈ lw_tbl := List.mem_of_getElem? (i := 82) (by decide +kernel)
theorem lw_ml12 : Cond.methodLink R_law 12 yX9_init ∈ lw_tbl := List.mem_of_getElem? (i := 842) (by decide +kernel)
theorem zk_of {args : Array Value} {s : State} (hT : ∀ w ∈ zAll, w.before args s = true) : ∃ (dC : Nat → ClassId) (dI : Nat → Nat → Nat) (cA : Nat → ClassId), va_K (dC, dI) vwCl (ztys cA) s := by
  obtain ⟨c0, i0, h0⟩ := u_known (C := RX1) (T := TX1) (N := 8) (n := 8) hT zin_Catalog (hT _ zm_in_Catalog)
  obtain ⟨c1, i1, h1⟩ := u_known (C := RX2) (T := TX2) (N := 7) (n := 7) hT zin_Notions (hT _ zm_in_Notions)
  obtain ⟨c2, i2, h2⟩ := u_known (C := RX3) (T := TX3) (N := 3) (n := 3) hT zin_Page (hT _ zm_in_Page)
  obtain ⟨c3, i3, h3⟩ := u_known (C := RX4) (T := TX4) (N := 6) (n := 6) hT zin_Rounds (hT _ zm_in_Rounds)
  obtain ⟨c4, i4, h4⟩ := u_known (C := RX5) (T := TX5) (N := 14) (n := 14) hT zin_Rows (hT _ zm_in_Rows)
  obtain ⟨c5, i5, h5⟩ := u_known (C := RX6) (T := TX6) (N := 3) (n := 3) hT zin_Table (hT _ zm_in_Table)
  obtain ⟨c6, i6, h6⟩ := u_known (C := RX7) (T := TX7) (N := 4) (n := 4) hT zin_Terms (hT _ zm_in_Terms)
  obtain ⟨c7, i7, h7⟩ := u_known (C := RX8) (T := TX8) (N := 8) (n := 8) hT zin_S (hT _ zm_in_S)
  obtain ⟨c8, i8, h8⟩ := u_known (C := RX9) (T := TX9) (N := 38) (n := 38) hT zin_Model (hT _ zm_in_Model)
  obtain ⟨a0, b0⟩ := arr_of (hT _ zm_aint) (fun _ h => h)
  obtain ⟨a1, b1⟩ := arr_of (hT _ zm_along) (fun _ h => h)
  obtain ⟨a2, b2⟩ := arr_of (hT _ zm_aboolean) (fun _ h => h)
  refine ⟨fun k => if k = 0 then c0 else if k = 1 then c1 else if k = 2 then c2 else if k = 3 then c3 else if k = 4 then c4 else if k = 5 then c5 else if k = 6 then c6 else if k = 7 then c7 else  c8, fun k => if k = 0 then i0 else if k = 1 then i1 else if k = 2 then i2 else if k = 3 then i3 else if k = 4 then i4 else if k = 5 then i5 else if k = 6 then i6 else if k = 7 then i7 else  i8, fun k => if k = 0 then a0 else if k = 1 then a1 else a2, ?_, ?_⟩
  · intro k q hq
    match k, hq with
    | 0, hq => cases hq; exact h0
    | 1, hq => cases hq; exact h1
    | 2, hq => cases hq; exact h2
    | 3, hq => cases hq; exact h3
    | 4, hq => cases hq; exact h4
    | 5, hq => cases hq; exact h5
    | 6, hq => cases hq; exact h6
    | 7, hq => cases hq; exact h7
    | 8, hq => cases hq; exact h8
    | k + 9, hq => simp [vwCl] at hq
  · intro k q hq
    match k, hq with
    | 0, hq => cases hq; exact b0
    | 1, hq => cases hq; exact b1
    | 2, hq => cases hq; exact b2
    | k + 3, hq => simp [ztys] at hq
set_option maxHeartbeats 4000000 in
set_option maxRecDepth 100000 in
/-- the law, from its entry: two objects are made, then its loop -/
theorem whole_start {p : Program} {e : Env} {s : State} {m : MethodId} {below : List Frame} {meth : Method} {c : Code} (l : Launch) {b L : Nat} {xs : Nat → Int32} (hL : L ≤ 2560) (C0 : lw_At p s m meth c b L xs) : W p l e room_1 s m #[Value.ref b] below meth c s.heap [] 0 0 (lw_Z below #[Value.ref b] s) (entryFrame m ([Value.ref b] : List Value).toArray 4) := by
  obtain ⟨hx, hb, hr, hml, hown, hts, hX, hbl, hlocks, hgv⟩ := id C0
  have hT := lz_hT C0
  have hs := flat_of_before _ hgv
  have hA : ∀ q : Nat, s.heap.size ≤ q → (fun q : Nat => s.heap.size ≤ q) q := fun _ h => h
  have hnA : ∀ a : Nat, a < s.heap.size → ¬ (fun q : Nat => s.heap.size ≤ q) a := fun a h => Nat.not_le.mpr h
  obtain ⟨dC, dI, cA, hK⟩ := zk_of hT
  have hN := zn_of hts
  obtain ⟨t70, z70, y70⟩ := zst_70 (A := fun q : Nat => s.heap.size ≤ q) hts hT hs hnA
  obtain ⟨t71, z71, y71⟩ := zst_71 (A := fun q : Nat => s.heap.size ≤ q) hts hT hs hnA
  obtain ⟨t72, z72, y72⟩ := zst_72 (A := fun q : Nat => s.heap.size ≤ q) hts hT hs hnA
  obtain ⟨t73, z73, y73⟩ := zst_73 (A := fun q : Nat => s.heap.size ≤ q) hts hT hs hnA
  obtain ⟨t74, z74, y74⟩ := zst_74 (A := fun q : Nat => s.heap.size ≤ q) hts hT hs hnA
  have hS : va_S (fun q : Nat => s.heap.size ≤ q) s.heap s.heap [] := va_S.rf
  have hP : va_P (dC, dI) vwCl [] s.heap := fun k q h => by simp at h
  have hD : va_D (fun q : Nat => s.heap.size ≤ q) [] := ⟨fun i j p q h => by simp at h, fun k q h => by simp at h⟩
  have hl := lv_entry ([.ref b]) (n := 4) (Nat.le_of_ble_eq_true rfl)
  rw [lg_entry_eq]
  generalize (lg_sl ([.ref b]) ++ List.replicate (4 - (lg_sl ([.ref b])).length) Slot.unset).toArray = ls at hl ⊢
  have hl : lv_has ls 4 [(0, .ref b)] := hl
  refine va_new (ci := 7) (fs := [.null, .null, .null, .null, .null, .null, .null, .null]) (C := RX8) (T := TX8) (N := 8) hx hb hT zin_S tyX8 tyX8_ok hown (hts _ lw_cl7) (hT _ zm_in_S) (hT _ zk_ini_S) hK hP hD hS hA rfl (fun j hj => by rcases (show j = 0 ∨ j = 1 ∨ j = 2 ∨ j = 3 ∨ j = 4 ∨ j = 5 ∨ j = 6 ∨ j = 7 by omega) with rfl | rfl | rfl | rfl | rfl | rfl | rfl | rfl <;> rfl) (Nat.le_of_ble_eq_true rfl) (Nat.le_of_ble_eq_true rfl) dL_law_0 (fun q0 H hP hD hS => ?_)
  have hP : va_P (dC, dI) vwCl [xo q0 7 [.null, .null, .null, .null, .null, .null, .null, .null]] H := hP
  have hD : va_D (fun q : Nat => s.heap.size ≤ q) [xo q0 7 [.null, .null, .null, .null, .null, .null, .null, .null]] := hD
  refine W.widen (k := 1) (n := 8) (by omega) (by omega) ?_
  refine lv_dup hx hb dL_law_3 rfl ?_
  have hPc := hP.sub (ws' := [xo q0 7 [.null, .null, .null, .null, .null, .null, .null, .null]]) [0] rfl
  have hDc := hD.sub (ws' := [xo q0 7 [.null, .null, .null, .null, .null, .null, .null, .null]]) [0] (by decide) rfl
  have hFc := va_free (wc := [xo q0 7 [.null, .null, .null, .null, .null, .null, .null, .null]]) hD hS hA [0] rfl
  refine va_callv (va_runI (As := []) (rest := [.ref q0]) ⟨hx, hb, hml, hown, hT⟩ (k_S l dC dI cA q0 H.size) (cwI 0 hT (zws_good zAll_In zm_code_S) rfl rfl rfl (hT _ zk_ini_S) (hts _ lw_ml9) (hT _ zm_im_S) rfl (by decide +kernel) ⟨Nat.le_of_ble_eq_true rfl, Nat.le_of_ble_eq_true rfl⟩) ⟨fun a U g mk q => by obtain ⟨q0, q1, qP, ⟨qK, qN⟩, qD⟩ := q; exact ⟨q0, q1, qP, ⟨va_K.moved (u := U) (U := U.calling g mk a) (Vm.Alike.refl U.vm) qK, zN.same (s := U) (U := U.calling g mk a) rfl qN⟩, qD⟩, fun U hU hW => ⟨rfl, by rw [hU], by rw [hU]; exact hPc, ⟨va_K.moved hW.alike hK, hN.warm hW⟩, hDc.weaken (fun _ _ _ _ => trivial)⟩⟩ rfl rfl hl.1 rfl (lv_room (Nat.le_of_ble_eq_true rfl)) dL_law_4 ⟨Nat.le_of_ble_eq_true rfl, Nat.le_of_ble_eq_true rfl⟩) hS (fun q _ h => hFc q h) hFc (fun u1 t H1 locs ht hvm hw hB hz1 hk1 hS => ?_)
  obtain ⟨hP1, hD1⟩ := hB
  rw [ht] at hP1
  obtain ⟨hPn, hDn⟩ := va_join (wr := []) (w1 := gl u1 cA zMi zcs1) hP hD [0] [] rfl rfl (by decide) (by decide) hk1 hFc hP1 hD1
  generalize H1 = H at hPn hS ⊢
  have hSn := hS
  subst hw
  have hP : va_P (dC, dI) vwCl (gl u1 cA zMi zcs1) H := hPn
  have hD : va_D (fun q : Nat => s.heap.size ≤ q) (gl u1 cA zMi zcs1) := hDn
  have hS := hSn
  refine W.widen (k := 34) (n := 20855) (by omega) (by omega) ?_
  refine lv_astore_n (lv' := [(1, .ref (u1 0)), (0, .ref b)]) hx hb dL_law_7 rfl hl (by decide) rfl (fun ls hl => ?_)
  refine va_new (ci := 8) (fs := [v0, .null, .null, .null, v0, .null, .null, v0, v0, .null, .null, .null, .null, .null, .null, v0, .null, .null, v0, .null, .null, .null, .null, .null, .null, v0, .null, .null, .null, .null, .null, .null, .null, .null, .null, .null, .null, v0]) (C := RX9) (T := TX9) (N := 38) hx hb hT zin_Model tyX9 tyX9_ok hown (hts _ lw_cl10) (hT _ zm_in_Model) (hT _ zk_ini_Model) hK hP hD hS hA rfl (fun j hj => by rcases (show j = 0 ∨ j = 1 ∨ j = 2 ∨ j = 3 ∨ j = 4 ∨ j = 5 ∨ j = 6 ∨ j = 7 ∨ j = 8 ∨ j = 9 ∨ j = 10 ∨ j = 11 ∨ j = 12 ∨ j = 13 ∨ j = 14 ∨ j = 15 ∨ j = 16 ∨ j = 17 ∨ j = 18 ∨ j = 19 ∨ j = 20 ∨ j = 21 ∨ j = 22 ∨ j = 23 ∨ j = 24 ∨ j = 25 ∨ j = 26 ∨ j = 27 ∨ j = 28 ∨ j = 29 ∨ j = 30 ∨ j = 31 ∨ j = 32 ∨ j = 33 ∨ j = 34 ∨ j = 35 ∨ j = 36 ∨ j = 37 by omega) with rfl | rfl | rfl | rfl | rfl | rfl | rfl | rfl | rfl | rfl | rfl | rfl | rfl | rfl | rfl | rfl | rfl | rfl | rfl | rfl | rfl | rfl | rfl | rfl | rfl | rfl | rfl | rfl | rfl | rfl | rfl | rfl | rfl | rfl | rfl | rfl | rfl | rfl <;> rfl) (Nat.le_of_ble_eq_true rfl) (Nat.le_of_ble_eq_true rfl) dL_law_8 (fun q8 H hP hD hS => ?_)
  refine W.widen (k := 35) (n := 20893) (by omega) (by omega) ?_
  refine lv_dup hx hb dL_law_11 rfl ?_
  have hPc := hP.sub (ws' := [xo q8 8 [v0, .null, .null, .null, v0, .null, .null, v0, v0, .null, .null, .null, .null, .null, .null, v0, .null, .null, v0, .null, .null, .null, .null, .null, .null, v0, .null, .null, .null, .null, .null, .null, .null, .null, .null, .null, .null, v0]]) [34] rfl
  have hDc := hD.sub (ws' := [xo q8 8 [v0, .null, .null, .null, v0, .null, .null, v0, v0, .null, .null, .null, .null, .null, .null, v0, .null, .null, v0, .null, .null, .null, .null, .null, .null, v0, .null, .null, .null, .null, .null, .null, .null, .null, .null, .null, .null, v0]]) [34] (by decide) rfl
  have hFc := va_free (wc := [xo q8 8 [v0, .null, .null, .null, v0, .null, .null, v0, v0, .null, .null, .null, .null, .null, .null, v0, .null, .null, v0, .null, .null, .null, .null, .null, .null, v0, .null, .null, .null, .null, .null, .null, .null, .null, .null, .null, .null, v0]]) hD hS hA [34] rfl
  refine va_callv (va_runI (As := []) (rest := [.ref q8]) ⟨hx, hb, hml, hown, hT⟩ (k_Model l dC dI cA q8 H.size) (cwI 0 hT (zws_good zAll_In zm_code_Model) rfl rfl rfl (hT _ zk_ini_Model) (hts _ lw_ml12) (hT _ zm_im_Model) rfl (by decide +kernel) ⟨Nat.le_of_ble_eq_true rfl, Nat.le_of_ble_eq_true rfl⟩) ⟨fun a U g mk q => by obtain ⟨q0, q1, qP, qK, qD⟩ := q; exact ⟨q0, q1, qP, va_K.moved (u := U) (U := U.calling g mk a) (Vm.Alike.refl U.vm) qK, qD⟩, fun U hU hW => ⟨rfl, by rw [hU], by rw [hU]; exact hPc, va_K.moved hW.alike hK, hDc.weaken (fun _ _ _ _ => trivial)⟩⟩ rfl rfl hl.1 rfl (lv_room (Nat.le_of_ble_eq_true rfl)) dL_law_12 ⟨Nat.le_of_ble_eq_true rfl, Nat.le_of_ble_eq_true rfl⟩) hS (fun q _ h => hFc q h) hFc (fun u2 t H1 locs ht hvm hw hB hz1 hk1 hS => ?_)
  obtain ⟨hP1, hD1⟩ := hB
  rw [ht] at hP1
  obtain ⟨hPn, hDn⟩ := va_join (wr := gl u1 cA zMi zcs1) (w1 := gl u2 cA zMi zcs2) hP hD [34] [0, 1, 2, 3, 4, 5, 6, 7, 8, 9, 10, 11, 12, 13, 14, 15, 16, 17, 18, 19, 20, 21, 22, 23, 24, 25, 26, 27, 28, 29, 30, 31, 32, 33] rfl rfl (by decide) (by decide) hk1 hFc hP1 hD1
  generalize H1 = H at hPn hS ⊢
  have hSn := hS
  subst hw
  rw [gl_two (zas_1 (u2 := u2) (t70 := t70) (t71 := t71) (t72 := t72) (t73 := t73) (t74 := t74) (b := b)) (zas_2 (u1 := u1) (t70 := t70) (t71 := t71) (t72 := t72) (t73 := t73) (t74 := t74) (b := b))] at hPn hDn
  have hPw := gl_P hPn zcs_all
  have hDw := gl_D hDn zcs_all
  refine W.widen (k := 65) (n := 86280) (by omega) (by omega) ?_
  refine lv_astore_n (lv' := [(2, .ref (u2 9)), (1, .ref (u1 0)), (0, .ref b)]) hx hb dL_law_15 rfl hl (by decide) rfl (fun ls hl => ?_)
  refine lv_iconst (v := Int32.ofInt 0) hx hb dL_law_16 (by decide) ?_
  refine lv_istore_n (lv' := [(3, .int (Int32.ofInt 0)), (2, .ref (u2 9)), (1, .ref (u1 0)), (0, .ref b)]) hx hb dL_law_17 rfl hl (by decide) rfl (fun ls hl => ?_)
  have hcx : lCx p s m meth c b L xs dC dI (zas u1 u2 t70 t71 t72 t73 t74 b) cA := by
    refine ⟨C0, rfl, ⟨hK, ⟨⟨z70, y70⟩, ⟨z71, y71⟩, ⟨z72, y72⟩, ⟨z73, y73⟩, z74, y74⟩, hN⟩, fun c' hc' => ?_⟩
    exact hDw.2 c' _ (zw_at _ _ _ hc')
  have hzl : zL (zas u1 u2 t70 t71 t72 t73 t74 b) ls 4 [some (zr 75), some (zr 0), some (zr 9), some (zi ((0 : Nat) : Int))] := by
    refine ⟨hl.1, hl.2.1, rfl, fun i v hv _ => ?_⟩
    match i, hv with
    | 0, hv => cases hv; exact lv_at hl 3 rfl
    | 1, hv => cases hv; exact lv_at hl 2 rfl
    | 2, hv => cases hv; exact lv_at hl 1 rfl
    | 3, hv => cases hv; exact lv_at hl 0 rfl
    | i + 4, hv => simp at hv
  exact law_loop hL (L + 1) 0 zMi bB0 (by omega) (by omega) zMi_C zMi_M zMi_R p l e s m below meth c b dC dI _ cA _ _ ls hcx hPw hDw hSn hzl
