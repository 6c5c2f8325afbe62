/-! rounds -/
noncomputable def lwB (L R LA LB : Nat → Nat) (T P t u : Nat) : Bool := @decide (∃ l, l < P ∧ mbP L R T (LA l) (LB l) t u) (Classical.propDecidable _)
theorem lwB_iff {L R LA LB : Nat → Nat} {T P t u : Nat} : lwB L R LA LB T P t u = true ↔ ∃ l, l < P ∧ mbP L R T (LA l) (LB l) t u := by
  unfold lwB
  exact @decide_eq_true_iff _ (Classical.propDecidable _)
def ptB (L R g : Nat → Nat) (x y : Nat) : Bool := (decide (3 ≤ x) && decide (3 ≤ y)) && (g (L x) == g (L y) && g (R x) == g (R y))
theorem ptB_iff {L R g : Nat → Nat} {x y : Nat} : ptB L R g x y = true ↔ (3 ≤ x ∧ 3 ≤ y) ∧ g (L x) = g (L y) ∧ g (R x) = g (R y) := by
  unfold ptB
  simp
noncomputable def eB (L R LA LB : Nat → Nat) (T P : Nat) (g : Nat → Nat) (x y : Nat) : Bool := lwB L R LA LB T P x y || ptB L R g x y
noncomputable def gR (L R LA LB : Nat → Nat) (T P : Nat) : Nat → (Nat → Nat)
  | 0 => fun t => t
  | r + 1 => clsF T (gR L R LA LB T P r) (eB L R LA LB T P (gR L R LA LB T P r)) 400
theorem gR_mr {L R LA LB : Nat → Nat} {T P : Nat} (hT : T ≤ 20) : ∀ r, mr T (gR L R LA LB T P r)
  | 0 => fun t _ => ⟨Nat.le_refl _, rfl⟩
  | r + 1 => (clsF_all (gR_mr hT r) hT).1
theorem gR_clo {L R LA LB : Nat → Nat} {T P : Nat} (hT : T ≤ 20) (r : Nat) : clo T (gR L R LA LB T P r) (fun x y => eB L R LA LB T P (gR L R LA LB T P r) x y = true) (gR L R LA LB T P (r + 1)) := clsF_all (gR_mr hT r) hT
theorem gR_lt {L R LA LB : Nat → Nat} {T P : Nat} (hT : T ≤ 20) {r t : Nat} (ht : t < T) : gR L R LA LB T P r t ≤ t := (gR_mr hT r t ht).1
noncomputable def rnF (L R LA LB : Nat → Nat) (T P : Nat) : Nat → Nat → Nat → Int
  | 0, t, u => if t = u then 0 else -9
  | r + 1, t, u => if rnF L R LA LB T P r t u = -9 then (if gR L R LA LB T P (r + 1) t = gR L R LA LB T P (r + 1) u then ((r + 1 : Nat) : Int) else -9) else rnF L R LA LB T P r t u
theorem rnF_iff {L R LA LB : Nat → Nat} {T P : Nat} (hT : T ≤ 20) : ∀ (r t u : Nat), t < T → u < T → (rnF L R LA LB T P r t u = -9 ↔ ¬ gR L R LA LB T P r t = gR L R LA LB T P r u) ∧ -9 ≤ rnF L R LA LB T P r t u ∧ rnF L R LA LB T P r t u ≤ r
  | 0, t, u, _, _ => by
    rw [rnF, gR]
    by_cases h : t = u
    · rw [if_pos h]; simp [h]
    · rw [if_neg h]; simp [h]
  | r + 1, t, u, ht, hu => by
    obtain ⟨ih, i2, i3⟩ := rnF_iff (L := L) (R := R) (LA := LA) (LB := LB) (P := P) hT r t u ht hu
    have hm := (gR_clo (L := L) (R := R) (LA := LA) (LB := LB) (P := P) hT r).2.1 t u ht hu
    rw [rnF]
    by_cases h : rnF L R LA LB T P r t u = -9
    · rw [if_pos h]
      by_cases h2 : gR L R LA LB T P (r + 1) t = gR L R LA LB T P (r + 1) u
      · rw [if_pos h2]
        refine ⟨⟨fun h3 => by omega, fun h3 => absurd h2 h3⟩, by omega, by omega⟩
      · rw [if_neg h2]
        exact ⟨⟨fun _ => h2, fun _ => rfl⟩, by omega, by omega⟩
    · rw [if_neg h]
      refine ⟨⟨fun h3 => absurd h3 h, fun h3 => ?_⟩, i2, by omega⟩
      have h4 : gR L R LA LB T P r t = gR L R LA LB T P r u := Classical.not_not.mp (fun h5 => h (ih.mpr h5))
      exact absurd (hm h4) h3
/-- a round shows something new -/
def fsh (L R LA LB : Nat → Nat) (T P r : Nat) : Prop := ∃ t u, t < T ∧ u < T ∧ gR L R LA LB T P (r + 1) t = gR L R LA LB T P (r + 1) u ∧ ¬ gR L R LA LB T P r t = gR L R LA LB T P r u
theorem gR_stop {L R LA LB : Nat → Nat} {T P r : Nat} (hT : T ≤ 20) (h : ¬ fsh L R LA LB T P r) : ∀ t, t < T → gR L R LA LB T P (r + 1) t = gR L R LA LB T P r t := by
  intro t ht
  have m1 := gR_mr (L := L) (R := R) (LA := LA) (LB := LB) (P := P) hT r
  have m2 := gR_mr (L := L) (R := R) (LA := LA) (LB := LB) (P := P) hT (r + 1)
  have hm := (gR_clo (L := L) (R := R) (LA := LA) (LB := LB) (P := P) hT r).2.1
  have a := m1 t ht
  have b := m2 t ht
  have e1 := hm (gR L R LA LB T P r t) t (by omega) ht a.2
  have c := m2 (gR L R LA LB T P r t) (by omega)
  have e2 : gR L R LA LB T P r (gR L R LA LB T P (r + 1) t) = gR L R LA LB T P r t := Classical.not_not.mp (fun h5 => h ⟨gR L R LA LB T P (r + 1) t, t, by omega, ht, b.2, h5⟩)
  have d := m1 (gR L R LA LB T P (r + 1) t) (by omega)
  omega
theorem fb_ct_strict {p q : Nat → Bool} {n k : Nat} (h : ∀ i, i < n → p i = true → q i = true) (hk : k < n) (h1 : q k = true) (h2 : p k = false) : fb_ct p n + 1 ≤ fb_ct q n := by
  have e := fb_ct_upd p true hk
  rw [h2] at e
  simp only [Bool.false_eq_true, if_false, if_true, Nat.add_zero] at e
  rw [← e]
  refine fb_ct_sub (fun i hi hp => ?_)
  by_cases e2 : i = k
  · rw [e2]; exact h1
  · simp only [if_neg e2] at hp
    exact h i hi hp
def ngr (g : Nat → Nat) (T : Nat) : Nat := fb_ct (fun t => g t == t) T
theorem fsh_less {L R LA LB : Nat → Nat} {T P r : Nat} (hT : T ≤ 20) (h : fsh L R LA LB T P r) : ngr (gR L R LA LB T P (r + 1)) T + 1 ≤ ngr (gR L R LA LB T P r) T := by
  have m1 := gR_mr (L := L) (R := R) (LA := LA) (LB := LB) (P := P) hT r
  have m2 := gR_mr (L := L) (R := R) (LA := LA) (LB := LB) (P := P) hT (r + 1)
  have hm := (gR_clo (L := L) (R := R) (LA := LA) (LB := LB) (P := P) hT r).2.1
  obtain ⟨t, u, ht, hu, e1, e2⟩ := h
  generalize gR L R LA LB T P r = g at m1 hm e2 ⊢
  generalize gR L R LA LB T P (r + 1) = g' at m2 hm e1 ⊢
  have key : ∀ s, s < T → g' s = s → g s = s := by
    intro s hs e
    have a := m1 s hs
    have b := hm (g s) s (by omega) hs a.2
    have c := m2 (g s) (by omega)
    omega
  have a := m1 t ht
  have b := m1 u hu
  have f1 := hm (g t) t (by omega) ht a.2
  have f2 := hm (g u) u (by omega) hu b.2
  have c1 := m2 (g t) (by omega)
  have c2 := m2 (g u) (by omega)
  unfold ngr
  rcases Nat.lt_or_ge (g t) (g u) with q | q
  · refine fb_ct_strict (k := g u) (fun i hi hp => ?_) (by omega) (by simpa using b.2) (by simp; omega)
    simp only [beq_iff_eq] at hp ⊢
    exact key i hi hp
  · refine fb_ct_strict (k := g t) (fun i hi hp => ?_) (by omega) (by simpa using a.2) (by simp; omega)
    simp only [beq_iff_eq] at hp ⊢
    exact key i hi hp
theorem fsh_sum {L R LA LB : Nat → Nat} {T P : Nat} (hT : T ≤ 20) : ∀ r, (∀ s, s < r → fsh L R LA LB T P s) → ngr (gR L R LA LB T P r) T + r ≤ T
  | 0, _ => by rw [Nat.add_zero]; exact fb_ct_le _ _
  | r + 1, h => by
    have h1 := fsh_sum hT r (fun s hs => h s (by omega))
    have h2 := fsh_less hT (h r (by omega))
    omega
theorem ngr_pos {L R LA LB : Nat → Nat} {T P r : Nat} (hT : T ≤ 20) (h0 : 0 < T) : 1 ≤ ngr (gR L R LA LB T P r) T := by
  have h1 := gR_mr (L := L) (R := R) (LA := LA) (LB := LB) (P := P) hT r 0 h0
  exact fb_ct_pos.mpr ⟨0, h0, by simp; omega⟩
/-- how many rounds show something new -/
noncomputable def frN (L R LA LB : Nat → Nat) (T P : Nat) : Nat := Classical.epsilon (fun r => ¬ fsh L R LA LB T P r ∧ ∀ s, s < r → fsh L R LA LB T P s)
theorem frN_ex {L R LA LB : Nat → Nat} {T P : Nat} (hT : T ≤ 20) (h0 : 0 < T) : ∃ r, ¬ fsh L R LA LB T P r ∧ ∀ s, s < r → fsh L R LA LB T P s := by
  obtain ⟨r, h1, h2⟩ := pk_least (fun r => ¬ fsh L R LA LB T P r) (Classical.not_not.mp (fun h => by
    have h3 : ∀ s, fsh L R LA LB T P s := fun s => Classical.not_not.mp (fun h4 => h ⟨s, h4⟩)
    have h4 := fsh_sum (L := L) (R := R) (LA := LA) (LB := LB) (P := P) hT T (fun s _ => h3 s)
    have h5 := ngr_pos (L := L) (R := R) (LA := LA) (LB := LB) (P := P) (r := T) hT h0
    omega))
  exact ⟨r, h1, fun s hs => Classical.not_not.mp (h2 s hs)⟩
theorem frN_ok {L R LA LB : Nat → Nat} {T P : Nat} (hT : T ≤ 20) (h0 : 0 < T) : (¬ fsh L R LA LB T P (frN L R LA LB T P) ∧ ∀ s, s < frN L R LA LB T P → fsh L R LA LB T P s) ∧ frN L R LA LB T P < T := by
  have h := Classical.epsilon_spec (frN_ex (L := L) (R := R) (LA := LA) (LB := LB) (P := P) hT h0)
  refine ⟨h, ?_⟩
  have h4 := fsh_sum (L := L) (R := R) (LA := LA) (LB := LB) (P := P) hT _ h.2
  have h5 := ngr_pos (L := L) (R := R) (LA := LA) (LB := LB) (P := P) (r := Classical.epsilon (fun r => ¬ fsh L R LA LB T P r ∧ ∀ s, s < r → fsh L R LA LB T P s)) hT h0
  show Classical.epsilon _ < T
  omega
theorem frN_is {L R LA LB : Nat → Nat} {T P r : Nat} (hT : T ≤ 20) (h0 : 0 < T) (h1 : ¬ fsh L R LA LB T P r) (h2 : ∀ s, s < r → fsh L R LA LB T P s) : r = frN L R LA LB T P := by
  obtain ⟨⟨h3, h4⟩, -⟩ := frN_ok (L := L) (R := R) (LA := LA) (LB := LB) (P := P) hT h0
  rcases Nat.lt_trichotomy r (frN L R LA LB T P) with q | q | q
  · exact absurd (h4 r q) h1
  · exact q
  · exact absurd (h2 _ q) h3
/-- behind the first round the laws say nothing more -/
theorem gR_parts {L R LA LB : Nat → Nat} {T P r : Nat} (hT : T ≤ 20) (hr : 1 ≤ r) {g' : Nat → Nat} (h : clo T (gR L R LA LB T P r) (fun x y => ptB L R (gR L R LA LB T P r) x y = true) g') : ∀ t, t < T → g' t = gR L R LA LB T P (r + 1) t := by
  refine clo.one (h.to (fun f hf => ?_)) (gR_clo hT r)
  constructor
  · intro k x y hx hy e
    unfold eB at e
    rw [Bool.or_eq_true] at e
    rcases e with e | e
    · have hl : ∀ s, gR L R LA LB T P (s + 1) x = gR L R LA LB T P (s + 1) y := by
        intro s
        exact (gR_clo (L := L) (R := R) (LA := LA) (LB := LB) (P := P) hT s).2.2.1 x y hx hy (by show (lwB L R LA LB T P x y || _) = true; rw [e]; rfl)
      have := hl (r - 1)
      rw [show r - 1 + 1 = r by omega] at this
      exact hf x y hx hy this
    · exact k x y hx hy e
  · intro k x y hx hy e
    exact k x y hx hy (by show (_ || ptB L R _ x y) = true; rw [e]; simp)
