/-! the rules: a row an instruction -/
theorem zSp_of_V {μ : zD} {d : Nat} {av : List zAV} {M : zMem} {post : Int → zMem → Prop} (ls0 : List (Option zAV)) (hy : plainName μ.2.2.2.2.cls = true) (ho : μ.2.2.2.2.cls = μ.1)
    (hls : ∀ as : Nat → Nat, (lg_sl (av.map (zcv as))).length ≤ μ.2.2.1) (hz : ∀ (as : Nat → Nat) (lsA : Array Slot), lv_has lsA μ.2.2.1 (lv_args 0 (av.map (zcv as))) → zL as lsA μ.2.2.1 ls0)
    (k : zV μ d 0 ls0 [] M post) : zSp μ d av M post := by
  intro hR l dC dI as cA sz
  refine Met.ofW (cc := μ.2.1) (maxL := μ.2.2.1) (ret := μ.2.2.2.1) hy rfl ?_
  intro p e s m args below meth c s₁ B hml hv
  obtain ⟨rfl, hsz, hP, hK, hD0⟩ := hv
  subst hsz
  have hts := atoms_spec (ws := zws μ) B.pre
  have hown : s.vm.findClass μ.1 = some m.cls := by rw [← ho]; exact findClass_of_methodNamed B.named
  have hD : va_D (zA as s.heap.size) (zw as cA M) := ⟨hD0.1, fun k q hk => by
    have hl : k < 65 := by
      have := (List.getElem?_eq_some_iff.mp hk).1
      simpa [zw] using this
    rw [zw_at as cA M hl] at hk
    cases hk
    exact Or.inl ⟨k, hl, rfl⟩⟩
  have hl := lv_entry (av.map (zcv as)) (n := μ.2.2.1) (hls as)
  rw [lg_entry_eq]
  exact k hR l dC dI as cA p e s m _ below meth c s.heap [] _ ⟨B.exec, B.bytes, hml, hown, fun w hw => hts w (List.mem_cons_of_mem _ hw), B.returns, B.notSynchronized, hK⟩ hP hD va_S.rf (hz as _ hl)
theorem z_withR {μ : zD} {d pc : Nat} {ls : List (Option zAV)} {st : List zAV} {M : zMem} {post : Int → zMem → Prop} (k : zR M → zV μ d pc ls st M post) : zV μ d pc ls st M post := fun hR => k hR hR
/-- forget what is told of some places -/
theorem zL.set {as : Nat → Nat} {lsA : Array Slot} {nL i : Nat} {ls : List (Option zAV)} {v : zAV} (h : zL as lsA nL ls) (hi : i < nL) (hc : (zcv as v).category = 1) : ∃ lsA', storeLocals lsA i (zcv as v) = some lsA' ∧ zL as lsA' nL (ls.set i (some v)) := by
  obtain ⟨h1, h2, h3, h4⟩ := h
  obtain ⟨ls', e', g1, g2, g3⟩ := lv_store1 (l := []) (v := zcv as v) ⟨h1, h2, fun q hq => by cases hq⟩ hi hc
  refine ⟨ls', e', g1, g2, by rw [List.length_set]; exact h3, fun j w hj hw => ?_⟩
  by_cases hji : j = i
  · subst hji
    rw [List.getElem?_set_self (by rw [h3]; exact hi)] at hj
    cases hj
    exact g3 (j, zcv as v) List.mem_cons_self
  · rw [List.getElem?_set_ne (Ne.symm hji)] at hj
    have hw' : w.isLeft = true ∨ (∃ c, w = zr c) ∨ (ls[j + 1]? = some none ∧ j + 1 ≠ i) := by
      rcases hw with hw | hw | hw
      · exact Or.inl hw
      · exact Or.inr (Or.inl hw)
      · refine Or.inr (Or.inr ?_)
        by_cases hji2 : j + 1 = i
        · rw [hji2, List.getElem?_set_self (by rw [h3]; exact hi)] at hw
          cases hw
        · rw [List.getElem?_set_ne (Ne.symm hji2)] at hw
          exact ⟨hw, hji2⟩
    have hat : lsA[j]? = some (.val (zcv as w)) := h4 j w hj (hw'.imp id (Or.imp id And.left))
    obtain ⟨ls'', e'', -, -, q3⟩ := lv_store1 (l := [(j, zcv as w)]) (v := zcv as v) ⟨h1, h2, fun q hq => by rw [List.mem_singleton.mp hq]; exact hat⟩ hi hc
    cases e'.symm.trans e''
    refine q3 (j, zcv as w) (List.mem_cons_of_mem _ (List.mem_filter.mpr ⟨List.mem_singleton.mpr rfl, ?_⟩))
    have hne : (j == i) = false := by simpa using hji
    simp only [hne, Bool.not_false, Bool.true_and]
    rcases hw' with h | ⟨c, rfl⟩ | ⟨-, h⟩
    · cases w with
      | inl x => simp [zcv, Value.category]
      | inr x => simp at h
    · simp [zcv, Value.category]
    · have : (j + 1 == i) = false := by simpa using h
      simp [this]
theorem zL.set2 {as : Nat → Nat} {lsA : Array Slot} {nL i : Nat} {ls : List (Option zAV)} {x : Int} (h : zL as lsA nL ls) (hi : i + 1 < nL) : ∃ lsA', storeLocals lsA i (zcv as (zl x)) = some lsA' ∧ zL as lsA' nL ((ls.set i (some (zl x))).set (i + 1) none) := by
  obtain ⟨h1, h2, h3, h4⟩ := h
  obtain ⟨ls', e', g1, g2, g3⟩ := lv_store2 (l := []) (v := zcv as (zl x)) ⟨h1, h2, fun q hq => by cases hq⟩ hi rfl
  refine ⟨ls', e', g1, g2, by rw [List.length_set, List.length_set]; exact h3, fun j w hj hw => ?_⟩
  by_cases hj1 : j = i + 1
  · subst hj1
    rw [List.getElem?_set_self (by rw [List.length_set, h3]; exact hi)] at hj
    cases hj
  rw [List.getElem?_set_ne (Ne.symm hj1)] at hj
  by_cases hji : j = i
  · subst hji
    rw [List.getElem?_set_self (by rw [h3]; omega)] at hj
    cases hj
    exact g3 (j, zcv as (zl x)) List.mem_cons_self
  · rw [List.getElem?_set_ne (Ne.symm hji)] at hj
    have hw' : w.isLeft = true ∨ (∃ c, w = zr c) ∨ (ls[j + 1]? = some none ∧ j + 1 ≠ i) := by
      rcases hw with hw | hw | hw
      · exact Or.inl hw
      · exact Or.inr (Or.inl hw)
      · refine Or.inr (Or.inr ?_)
        by_cases hji2 : j + 1 = i
        · rw [hji2, List.getElem?_set_ne (by omega), List.getElem?_set_self (by rw [h3]; omega)] at hw
          cases hw
        · rw [List.getElem?_set_ne (by omega), List.getElem?_set_ne (Ne.symm hji2)] at hw
          exact ⟨hw, hji2⟩
    have hat : lsA[j]? = some (.val (zcv as w)) := h4 j w hj (hw'.imp id (Or.imp id And.left))
    obtain ⟨ls'', e'', -, -, q3⟩ := lv_store2 (l := [(j, zcv as w)]) (v := zcv as (zl x)) ⟨h1, h2, fun q hq => by rw [List.mem_singleton.mp hq]; exact hat⟩ hi rfl
    cases e'.symm.trans e''
    refine q3 (j, zcv as w) (List.mem_cons_of_mem _ (List.mem_filter.mpr ⟨List.mem_singleton.mpr rfl, ?_⟩))
    have hne : (j == i) = false := by simpa using hji
    have hne1 : (j == i + 1) = false := by simpa using hj1
    simp only [hne, hne1, Bool.not_false, Bool.true_and]
    rcases hw' with h | ⟨c, rfl⟩ | ⟨-, h⟩
    · cases w with
      | inl x => simp [zcv, Value.category]
      | inr x => simp at h
    · simp [zcv, Value.category]
    · have : (j + 1 == i) = false := by simpa using h
      simp [this]
