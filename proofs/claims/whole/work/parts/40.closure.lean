/-! groups: each term's least one -/
def mr (T : Nat) (g : Nat → Nat) : Prop := ∀ t, t < T → g t ≤ t ∧ g (g t) = g t
def jn (g : Nat → Nat) (t u : Nat) : Nat → Nat := fun x => if g x = max (g t) (g u) then min (g t) (g u) else g x
def clo (T : Nat) (g : Nat → Nat) (E : Nat → Nat → Prop) (g' : Nat → Nat) : Prop :=
  mr T g' ∧ (∀ x y, x < T → y < T → g x = g y → g' x = g' y) ∧ (∀ x y, x < T → y < T → E x y → g' x = g' y) ∧
  ∀ h : Nat → Nat, (∀ x y, x < T → y < T → g x = g y → h x = h y) → (∀ x y, x < T → y < T → E x y → h x = h y) → ∀ x y, x < T → y < T → g' x = g' y → h x = h y
theorem mr_jn {T : Nat} {g : Nat → Nat} (h : mr T g) {t u : Nat} (ht : t < T) (hu : u < T) : mr T (jn g t u) := by
  have h1 := h t ht
  have h2 := h u hu
  have key : jn g t u (min (g t) (g u)) = min (g t) (g u) := by
    unfold jn
    have : g (min (g t) (g u)) = min (g t) (g u) := by
      rcases Nat.le_total (g t) (g u) with q | q
      · rw [Nat.min_eq_left q]; exact h1.2
      · rw [Nat.min_eq_right q]; exact h2.2
    rw [this]
    split <;> rfl
  intro x hx
  have h3 := h x hx
  by_cases e : g x = max (g t) (g u)
  · have : jn g t u x = min (g t) (g u) := by unfold jn; rw [if_pos e]
    rw [this]
    exact ⟨by omega, key⟩
  · have : jn g t u x = g x := by unfold jn; rw [if_neg e]
    rw [this]
    refine ⟨h3.1, ?_⟩
    unfold jn
    rw [h3.2, if_neg e]
theorem jn_le {g : Nat → Nat} {t u x y : Nat} (h : g x = g y) : jn g t u x = jn g t u y := by unfold jn; rw [h]
theorem jn_eq {g : Nat → Nat} {t u : Nat} : jn g t u t = jn g t u u := by
  unfold jn
  rcases Nat.lt_trichotomy (g t) (g u) with q | q | q
  · rw [if_neg (by omega), if_pos (by omega)]; omega
  · rw [q]
  · rw [if_pos (by omega), if_neg (by omega)]; omega
theorem jn_min {T : Nat} {g h : Nat → Nat} {t u : Nat} (hg : ∀ x y, x < T → y < T → g x = g y → h x = h y) (ht : t < T) (hu : u < T) (he : h t = h u) {x y : Nat} (hx : x < T) (hy : y < T) (e : jn g t u x = jn g t u y) : h x = h y := by
  have cl : ∀ z, z < T → g z = max (g t) (g u) → h z = h t := by
    intro z hz hzz
    rcases Nat.le_total (g t) (g u) with q | q
    · rw [hg z u hz hu (by omega), he]
    · exact hg z t hz ht (by omega)
  have cm : ∀ z, z < T → g z = min (g t) (g u) → h z = h t := by
    intro z hz hzz
    rcases Nat.le_total (g t) (g u) with q | q
    · exact hg z t hz ht (by omega)
    · rw [hg z u hz hu (by omega), he]
  unfold jn at e
  by_cases e1 : g x = max (g t) (g u)
  · rw [if_pos e1] at e
    by_cases e2 : g y = max (g t) (g u)
    · rw [cl x hx e1, cl y hy e2]
    · rw [if_neg e2] at e
      rw [cl x hx e1, cm y hy e.symm]
  · rw [if_neg e1] at e
    by_cases e2 : g y = max (g t) (g u)
    · rw [if_pos e2] at e
      rw [cm x hx e, cl y hy e2]
    · rw [if_neg e2] at e
      exact hg x y hx hy e
theorem clo.rf {T : Nat} {g : Nat → Nat} (h : mr T g) : clo T g (fun _ _ => False) g := ⟨h, fun _ _ _ _ h => h, fun _ _ _ _ h => h.elim, fun _ h1 _ x y hx hy e => h1 x y hx hy e⟩
theorem clo.jn {T : Nat} {g g' : Nat → Nat} {E : Nat → Nat → Prop} (h : clo T g E g') {t u : Nat} (ht : t < T) (hu : u < T) : clo T g (fun x y => E x y ∨ (x = t ∧ y = u)) (jn g' t u) := by
  obtain ⟨h1, h2, h3, h4⟩ := h
  refine ⟨mr_jn h1 ht hu, fun x y hx hy e => jn_le (h2 x y hx hy e), fun x y hx hy e => ?_, fun f hf hE x y hx hy e => ?_⟩
  · rcases e with e | ⟨rfl, rfl⟩
    · exact jn_le (h3 x y hx hy e)
    · exact jn_eq
  · exact jn_min (h4 f hf (fun a b ha hb e2 => hE a b ha hb (Or.inl e2))) ht hu (hE t u ht hu (Or.inr ⟨rfl, rfl⟩)) hx hy e
theorem clo.has {T : Nat} {g g' : Nat → Nat} {E : Nat → Nat → Prop} (h : clo T g E g') {t u : Nat} (e : g' t = g' u) : clo T g (fun x y => E x y ∨ (x = t ∧ y = u)) g' := by
  obtain ⟨h1, h2, h3, h4⟩ := h
  refine ⟨h1, h2, fun x y hx hy e2 => ?_, fun f hf hE => h4 f hf (fun a b ha hb e2 => hE a b ha hb (Or.inl e2))⟩
  rcases e2 with e2 | ⟨rfl, rfl⟩
  · exact h3 x y hx hy e2
  · exact e
/-- other pairs that say the same -/
theorem clo.to {T : Nat} {g g' : Nat → Nat} {E E' : Nat → Nat → Prop} (h : clo T g E g') (he : ∀ f : Nat → Nat, (∀ x y, x < T → y < T → g x = g y → f x = f y) → ((∀ x y, x < T → y < T → E x y → f x = f y) ↔ ∀ x y, x < T → y < T → E' x y → f x = f y)) : clo T g E' g' := by
  obtain ⟨h1, h2, h3, h4⟩ := h
  exact ⟨h1, h2, (he g' h2).mp h3, fun f hf hE => h4 f hf ((he f hf).mpr hE)⟩
theorem clo.iff {T : Nat} {g g' : Nat → Nat} {E E' : Nat → Nat → Prop} (h : clo T g E g') (he : ∀ x y, x < T → y < T → (E x y ↔ E' x y)) : clo T g E' g' :=
  h.to (fun _ _ => ⟨fun k x y hx hy e => k x y hx hy ((he x y hx hy).mpr e), fun k x y hx hy e => k x y hx hy ((he x y hx hy).mp e)⟩)
theorem clo.one {T : Nat} {g g1 g2 : Nat → Nat} {E : Nat → Nat → Prop} (h1 : clo T g E g1) (h2 : clo T g E g2) : ∀ t, t < T → g1 t = g2 t := by
  have k1 := h1.2.2.2 g2 h2.2.1 h2.2.2.1
  have k2 := h2.2.2.2 g1 h1.2.1 h1.2.2.1
  intro t ht
  have a := h1.1 t ht
  have b := h2.1 t ht
  have e1 := k1 (g1 t) t (by omega) ht a.2
  have e2 := k2 (g2 t) t (by omega) ht b.2
  have c := h2.1 (g1 t) (by omega)
  have d := h1.1 (g2 t) (by omega)
  omega
theorem mr.congr {T : Nat} {g g' : Nat → Nat} (h : mr T g) (he : ∀ t, t < T → g' t = g t) : mr T g' := by
  intro t ht
  have h1 := h t ht
  rw [he t ht, he (g t) (by omega)]
  exact h1
theorem clo.congr {T : Nat} {g f g' f' : Nat → Nat} {E : Nat → Nat → Prop} (h : clo T g E g') (hg : ∀ t, t < T → f t = g t) (hg' : ∀ t, t < T → f' t = g' t) : clo T f E f' := by
  obtain ⟨h1, h2, h3, h4⟩ := h
  refine ⟨h1.congr hg', fun x y hx hy e => ?_, fun x y hx hy e => ?_, fun k hk hE x y hx hy e => ?_⟩
  · rw [hg' x hx, hg' y hy]; exact h2 x y hx hy (by rw [← hg x hx, ← hg y hy]; exact e)
  · rw [hg' x hx, hg' y hy]; exact h3 x y hx hy e
  · exact h4 k (fun a b ha hb e2 => hk a b ha hb (by rw [hg a ha, hg b hb]; exact e2)) hE x y hx hy (by rw [← hg' x hx, ← hg' y hy]; exact e)
/-- a closure, made pair by pair -/
def clsF (T : Nat) (g : Nat → Nat) (E : Nat → Nat → Bool) : Nat → (Nat → Nat)
  | 0 => g
  | k + 1 => if k / 20 < T ∧ k % 20 < T ∧ E (k / 20) (k % 20) = true then jn (clsF T g E k) (k / 20) (k % 20) else clsF T g E k
theorem clsF_ok {T : Nat} {g : Nat → Nat} {E : Nat → Nat → Bool} (h : mr T g) : ∀ m, clo T g (fun x y => 20 * x + y < m ∧ y < 20 ∧ E x y = true) (clsF T g E m)
  | 0 => (clo.rf h).iff (fun x y _ _ => ⟨fun h => h.elim, fun h => absurd h.1 (Nat.not_lt_zero _)⟩)
  | m + 1 => by
    have ih := clsF_ok (E := E) h m
    rw [clsF]
    by_cases hc : m / 20 < T ∧ m % 20 < T ∧ E (m / 20) (m % 20) = true
    · rw [if_pos hc]
      refine (ih.jn hc.1 hc.2.1).iff (fun x y hx hy => ?_)
      constructor
      · rintro (⟨a, b, c⟩ | ⟨rfl, rfl⟩)
        · exact ⟨by omega, b, c⟩
        · exact ⟨by omega, by omega, hc.2.2⟩
      · rintro ⟨a, b, c⟩
        by_cases e : 20 * x + y = m
        · exact Or.inr ⟨by omega, by omega⟩
        · exact Or.inl ⟨by omega, b, c⟩
    · rw [if_neg hc]
      refine ih.iff (fun x y hx hy => ?_)
      constructor
      · rintro ⟨a, b, c⟩; exact ⟨by omega, b, c⟩
      · rintro ⟨a, b, c⟩
        refine ⟨?_, b, c⟩
        by_cases e : 20 * x + y = m
        · have e1 : m / 20 = x := by omega
          have e2 : m % 20 = y := by omega
          exact absurd ⟨by omega, by omega, by rw [e1, e2]; exact c⟩ hc
        · omega
theorem clsF_all {T : Nat} {g : Nat → Nat} {E : Nat → Nat → Bool} (h : mr T g) (hT : T ≤ 20) : clo T g (fun x y => E x y = true) (clsF T g E 400) :=
  (clsF_ok h 400).iff (fun x y hx hy => ⟨fun h => h.2.2, fun h => ⟨by omega, by omega, h⟩⟩)
/-! what a law makes of one another -/
def jd (L R : Nat → Nat) (T a b : Nat) : Option Nat := (List.range T).find? (fun t => decide (3 ≤ t) && (L t == a && R t == b))
def uqT (L R : Nat → Nat) (T : Nat) : Prop := ∀ t u, 3 ≤ t → t < T → 3 ≤ u → u < T → L t = L u → R t = R u → t = u
theorem jd_some {L R : Nat → Nat} {T a b t : Nat} (hu : uqT L R T) : jd L R T a b = some t ↔ 3 ≤ t ∧ t < T ∧ L t = a ∧ R t = b := by
  unfold jd
  constructor
  · intro h
    have h1 := List.find?_some h
    have h2 := List.mem_of_find?_eq_some h
    simp only [Bool.and_eq_true, decide_eq_true_eq, beq_iff_eq] at h1
    exact ⟨h1.1, List.mem_range.mp h2, h1.2.1, h1.2.2⟩
  · rintro ⟨h1, h2, h3, h4⟩
    cases hf : (List.range T).find? (fun t => decide (3 ≤ t) && (L t == a && R t == b)) with
    | none =>
      have := List.find?_eq_none.mp hf t (List.mem_range.mpr h2)
      simp [h1, h3, h4] at this
    | some u =>
      have k1 := List.find?_some hf
      have k2 := List.mem_range.mp (List.mem_of_find?_eq_some hf)
      simp only [Bool.and_eq_true, decide_eq_true_eq, beq_iff_eq] at k1
      rw [hu u t k1.1 k2 h1 h2 (by omega) (by omega)]
def imF (L R : Nat → Nat) (T x y z : Nat) : Nat → Nat → Option Nat
  | 0, _ => none
  | f + 1, t => if t = 0 then some x else if t = 1 then some y else if t = 2 then some z else
    match imF L R T x y z f (L t), imF L R T x y z f (R t) with
    | some a, some b => jd L R T a b
    | _, _ => none
def im (L R : Nat → Nat) (T x y z t : Nat) : Option Nat := imF L R T x y z (t + 1) t
theorem imF_fuel {L R : Nat → Nat} {T x y z : Nat} (hw : wfT L R T) : ∀ (f g t : Nat), t < f → t < g → t < T → imF L R T x y z f t = imF L R T x y z g t
  | 0, _, _, h, _, _ => by omega
  | _, 0, _, _, h, _ => by omega
  | f + 1, g + 1, t, h1, h2, h3 => by
    rw [imF, imF]
    by_cases h : 3 ≤ t
    · obtain ⟨hl, hr⟩ := hw t h h3
      rw [imF_fuel hw f g (L t) (by omega) (by omega) (by omega), imF_fuel hw f g (R t) (by omega) (by omega) (by omega)]
    · rcases (show t = 0 ∨ t = 1 ∨ t = 2 by omega) with rfl | rfl | rfl <;> rfl
theorem im_rec {L R : Nat → Nat} {T x y z t : Nat} (hw : wfT L R T) (h3 : 3 ≤ t) (ht : t < T) : im L R T x y z t = match im L R T x y z (L t), im L R T x y z (R t) with
    | some a, some b => jd L R T a b
    | _, _ => none := by
  obtain ⟨hl, hr⟩ := hw t h3 ht
  unfold im
  rw [imF, if_neg (by omega), if_neg (by omega), if_neg (by omega), imF_fuel hw t (L t + 1) (L t) hl (by omega) (by omega), imF_fuel hw t (R t + 1) (R t) hr (by omega) (by omega)]
theorem im_some {L R : Nat → Nat} {T x y z t m : Nat} (hw : wfT L R T) (hu : uqT L R T) (h3 : 3 ≤ t) (ht : t < T) : im L R T x y z t = some m ↔ 3 ≤ m ∧ m < T ∧ im L R T x y z (L t) = some (L m) ∧ im L R T x y z (R t) = some (R m) := by
  rw [im_rec hw h3 ht]
  cases h1 : im L R T x y z (L t) with
  | none => simp
  | some a =>
    cases h2 : im L R T x y z (R t) with
    | none => simp
    | some b =>
      simp only [jd_some hu, Option.some.injEq]
      constructor
      · rintro ⟨a1, a2, a3, a4⟩; exact ⟨a1, a2, a3.symm, a4.symm⟩
      · rintro ⟨a1, a2, a3, a4⟩; exact ⟨a1, a2, a3.symm, a4.symm⟩
/-- terms set in for the letters make t of a, and u of b -/
def mbP (L R : Nat → Nat) (T a b t u : Nat) : Prop := ∃ x y z, x < T ∧ y < T ∧ z < T ∧ im L R T x y z a = some t ∧ im L R T x y z b = some u
