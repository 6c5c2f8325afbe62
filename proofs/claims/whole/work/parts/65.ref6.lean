/-! the reference as a whole -/
def jdI (L R : Nat → Nat) (T a b : Nat) : Int := match jd L R T a b with | some t => (t : Int) | none => -9
def ntR (M : zMem) (B : Nat → Nat → Nat) : Prop := M 9 18 = B 6 0 ∧ B 6 0 ≤ 12 ∧ wfN (B 0 0) (B 6 0) (B 7) (B 8) (B 9) ∧ ∀ i, i < B 6 0 → M 48 i = B 7 i ∧ M 49 i = B 8 i ∧ (B 7 i = 0 ∨ B 7 i = 2 → M 50 i = B 9 i) ∧ M 51 i = if bAw B i then 0 else 1
def slR (M : zMem) (B : Nat → Nat → Nat) : Prop := ∀ s, s < 2 → M 56 s = B 12 s ∧ B 12 s ≤ 6 ∧ ∀ l, l < B 12 s → (M 57 (6 * s + l) = B 13 (6 * s + l) ∧ M 58 (6 * s + l) = B 14 (6 * s + l)) ∧ B 13 (6 * s + l) < B 0 0 ∧ B 14 (6 * s + l) < B 0 0
def abR0 (M : zMem) (B : Nat → Nat → Nat) : Prop := tmR M (B 1) (B 2) (B 0 0) ∧ uqT (B 1) (B 2) (B 0 0) ∧ (∀ a b, a < 20 → b < 20 → M 37 (20 * a + b) = jdI (B 1) (B 2) (B 0 0) a b) ∧ lwR M (B 0 0) (B 3 0) (B 4) (B 5) ∧ ntR M B ∧ (∀ i, i < 3 → M 54 i = B 11 i ∧ B 11 i ≤ 9) ∧ slR M B
def rwR (M : zMem) (B : Nat → Nat → Nat) (r : Nat) : Prop := ∀ i, i < r → ∀ w, w < lS (wK B) → ∀ j, j < lQ (wK B) w → M 53 (360 * i + lP (wK B) w + j) = if bS B (lE (wK B) w) i j then 1 else 0
def abRc (M : zMem) (B : Nat → Nat → Nat) : Prop := M 9 7 = 0 ∨ (M 9 7 = 1 ∧ laid M B ∧ (M 9 25 = 0 ∨ ∃ r : Nat, r ≤ B 6 0 ∧ M 9 25 = ((r + 1 : Nat) : Int) ∧ rwR M B r))
def abR (M : zMem) (B : Nat → Nat → Nat) : Prop := abR0 M B ∧ abRc M B
def zRL : List Nat := [9, 35, 36, 37, 38, 39, 40, 41, 42, 43, 44, 45, 46, 47, 48, 49, 50, 51, 52, 53, 54, 55, 56, 57, 58, 59, 60, 61, 62, 63, 64]
def rOK (M M' : zMem) (B : Nat → Nat → Nat) (r f : Int) : Prop := r = f ∧ zfr zRL M M' ∧ abR M' B
theorem abR0.fr {S : List Nat} {M M' : zMem} {B : Nat → Nat → Nat} (h : abR0 M B) (hf : zfr S M M') (hS : ∀ c ∈ [35, 36, 37, 38, 39, 48, 49, 50, 51, 54, 56, 57, 58], c ∉ S) (h0 : M' 9 0 = M 9 0) (h4 : M' 9 4 = M 9 4) (h18 : M' 9 18 = M 9 18) : abR0 M' B := by
  obtain ⟨k1, k2, k3, k4, k5, k6, k7⟩ := h
  refine ⟨k1.fr hf h0 (hS _ (by decide)) (hS _ (by decide)), k2, ?_, k4.fr hf h4 (hS _ (by decide)) (hS _ (by decide)), ?_, ?_, ?_⟩
  · rw [hf 37 (hS _ (by decide))]; exact k3
  · unfold ntR
    rw [h18, hf 48 (hS _ (by decide)), hf 49 (hS _ (by decide)), hf 50 (hS _ (by decide)), hf 51 (hS _ (by decide))]; exact k5
  · rw [hf 54 (hS _ (by decide))]; exact k6
  · unfold slR
    rw [hf 56 (hS _ (by decide)), hf 57 (hS _ (by decide)), hf 58 (hS _ (by decide))]; exact k7
theorem abRc.fr {S : List Nat} {M M' : zMem} {B : Nat → Nat → Nat} (h : abRc M B) (hf : zfr S M M') (hS : ∀ c ∈ [43, 46, 53], c ∉ S) (h7 : M' 9 7 = M 9 7) (h15 : M' 9 15 = M 9 15) (h25 : M' 9 25 = M 9 25) : abRc M' B := by
  unfold abRc
  rw [h7, h25]
  refine h.imp id (fun z => ⟨z.1, z.2.1.fr hf h15 (hS _ (by decide)) (hS _ (by decide)), z.2.2.imp id (fun ⟨r, r1, r2, r3⟩ => ⟨r, r1, r2, ?_⟩)⟩)
  unfold rwR
  rw [hf 53 (hS _ (by decide))]
  exact r3
/-- the caches hang on the laws, the terms that stand, the notions that stand -/
theorem abRc.re {M : zMem} {B B' : Nat → Nat → Nat} (h : abRc M B) (hP : B' 3 0 = B 3 0) (hN : B 6 0 ≤ B' 6 0) (h1 : ∀ n k l, l < B 3 0 → kp (B' 1) (B' 2) n k (B' 4 l) (B' 5 l) = kp (B 1) (B 2) n k (B 4 l) (B 5 l)) (h3 : ∀ e i, i < B 6 0 → bS B' e i = bS B e i) : abRc M B' := by
  have hw : ∀ e, wK B' e = wK B e := by
    intro e
    unfold wK
    rw [hP]
    congr 1
    refine propext (forall_congr' (fun l => ?_))
    constructor
    · intro h hl; rw [← h1 _ _ l hl]; exact h hl
    · intro h hl; rw [h1 _ _ l hl]; exact h hl
  have hw2 : wK B' = wK B := funext hw
  have hb : ∀ p, brN B' p = brN B p := by
    intro p
    unfold brN
    rw [hP]
    exact bm_congr (fun l hl => by rw [h1 _ _ l hl])
  unfold abRc laid lT rwR
  rw [hw2]
  refine h.imp id (fun z => ⟨z.1, ⟨fun p hp => by rw [hb]; exact z.2.1.1 p hp, z.2.1.2⟩, z.2.2.imp id (fun ⟨r, r1, r2, r3⟩ => ⟨r, by omega, r2, fun i hi w hw j hj => ?_⟩)⟩)
  rw [h3 _ i (by omega)]
  exact r3 i hi w hw j hj
theorem jdI_put {L R : Nat → Nat} {T a b : Nat} (hu : uqT L R T) (hw : wfT L R T) (h3 : 3 ≤ T) (ha : a < T) (hb : b < T) (hn : jd L R T a b = none) (hu' : uqT (fup L T a) (fup R T b) (T + 1)) (x y : Nat) : jdI (fup L T a) (fup R T b) (T + 1) x y = if x = a ∧ y = b then (T : Int) else jdI L R T x y := by
  by_cases e : x = a ∧ y = b
  · rw [if_pos e]
    have : jd (fup L T a) (fup R T b) (T + 1) x y = some T := (jd_some hu').mpr ⟨h3, by omega, by rw [fup_s, e.1], by rw [fup_s, e.2]⟩
    unfold jdI
    rw [this]
  · rw [if_neg e]
    unfold jdI
    have key : jd (fup L T a) (fup R T b) (T + 1) x y = jd L R T x y := by
      cases h : jd L R T x y with
      | none =>
        rw [jd_none] at h ⊢
        intro t h3t ht ⟨e1, e2⟩
        by_cases et : t = T
        · rw [et, fup_s] at e1 e2; exact e ⟨e1.symm, e2.symm⟩
        · rw [fup_n et] at e1 e2; exact h t h3t (by omega) ⟨e1, e2⟩
      | some t =>
        obtain ⟨k1, k2, k3, k4⟩ := (jd_some hu).mp h
        exact (jd_some hu').mpr ⟨k1, by omega, by rw [fup_n (by omega)]; exact k3, by rw [fup_n (by omega)]; exact k4⟩
    rw [key]
