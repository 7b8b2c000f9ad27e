/-! rows of drawers: how often each stands there; the order of rows; the rank of a row among those of the same drawers -/
def cnt (d : Nat → Nat) (v : Nat) : Nat → Nat → Nat
  | 0, _ => 0
  | n + 1, a => (if d a = v then 1 else 0) + cnt d v n (a + 1)
theorem cnt_congr {d t : Nat → Nat} {v : Nat} : ∀ n a, (∀ k, a ≤ k → k < a + n → d k = t k) → cnt d v n a = cnt t v n a := by
  intro n
  induction n with
  | zero => intro a _; rfl
  | succ n ih =>
    intro a h
    unfold cnt
    rw [h a (by omega) (by omega), ih (a + 1) (fun k h1 h2 => h k (by omega) (by omega))]
theorem cnt_split (d : Nat → Nat) (v : Nat) : ∀ q n a, cnt d v (q + n) a = cnt d v q a + cnt d v n (a + q) := by
  intro q
  induction q with
  | zero => intro n a; simp [cnt]
  | succ q ih =>
    intro n a
    rw [show q + 1 + n = (q + n) + 1 by omega, show a + (q + 1) = a + 1 + q by omega]
    have := ih n (a + 1)
    simp only [cnt]
    omega
theorem cnt_pos {d : Nat → Nat} {v : Nat} : ∀ n a, 0 < cnt d v n a → ∃ k, a ≤ k ∧ k < a + n ∧ d k = v := by
  intro n
  induction n with
  | zero => intro a h; exact absurd h (by simp [cnt])
  | succ n ih =>
    intro a h
    by_cases hv : d a = v
    · exact ⟨a, by omega, by omega, hv⟩
    · unfold cnt at h
      rw [if_neg hv, Nat.zero_add] at h
      obtain ⟨k, h1, h2, h3⟩ := ih (a + 1) h
      exact ⟨k, by omega, by omega, h3⟩
theorem cnt_has {d : Nat → Nat} : ∀ n a, 0 < n → 0 < cnt d (d a) n a := by
  intro n a h
  obtain ⟨n, rfl⟩ : ∃ z, n = z + 1 := ⟨n - 1, by omega⟩
  unfold cnt
  rw [if_pos rfl]
  omega
theorem cnt_upd {d : Nat → Nat} {v k w : Nat} : ∀ n a, a ≤ k → k < a + n → cnt (fun j => if j = k then w else d j) v n a + (if d k = v then 1 else 0) = cnt d v n a + (if w = v then 1 else 0) := by
  intro n
  induction n with
  | zero => intro a h1 h2; omega
  | succ n ih =>
    intro a h1 h2
    unfold cnt
    by_cases hk : a = k
    · subst hk
      have hc : cnt (fun j => if j = a then w else d j) v n (a + 1) = cnt d v n (a + 1) := cnt_congr n (a + 1) (fun j h3 _ => if_neg (by omega))
      rw [hc]
      simp only [if_true]
      omega
    · have h3 := ih (a + 1) (by omega) (by omega)
      simp only [if_neg hk]
      omega
def Pm (p : Nat) (d t : Nat → Nat) : Prop := ∀ v, cnt d v p 0 = cnt t v p 0
theorem Pm.rf {p : Nat} {d : Nat → Nat} : Pm p d d := fun _ => rfl
theorem Pm.sy {p : Nat} {d t : Nat → Nat} (h : Pm p d t) : Pm p t d := fun v => (h v).symm
theorem Pm.tr {p : Nat} {d t u : Nat → Nat} (h : Pm p d t) (h2 : Pm p t u) : Pm p d u := fun v => (h v).trans (h2 v)
theorem Pm.of {p : Nat} {d t : Nat → Nat} (h : ∀ k, k < p → d k = t k) : Pm p d t := fun _ => cnt_congr p 0 (fun k _ h2 => h k (by omega))
theorem Pm_sw {p a b : Nat} {d : Nat → Nat} (ha : a < p) (hb : b < p) : Pm p d (sw d a b) := by
  intro v
  have h1 := cnt_upd (d := d) (v := v) (k := a) (w := d b) p 0 (by omega) (by omega)
  have h2 := cnt_upd (d := fun j => if j = a then d b else d j) (v := v) (k := b) (w := d a) p 0 (by omega) (by omega)
  have h3 : (if b = a then d b else d b) = d b := by simp
  have h4 : cnt (sw d a b) v p 0 = cnt (fun j => if j = b then d a else if j = a then d b else d j) v p 0 := rfl
  simp only [h3] at h2
  rw [h4]
  omega
theorem Pm_sfx {p q : Nat} {d t : Nat → Nat} (h : Pm p d t) (hq : q ≤ p) (he : ∀ k, k < q → d k = t k) : ∀ v, cnt d v (p - q) q = cnt t v (p - q) q := by
  intro v
  have h1 := h v
  rw [show p = q + (p - q) by omega, cnt_split d, cnt_split t, cnt_congr (d := d) (t := t) q 0 (fun k _ h2 => he k (by omega)), Nat.zero_add] at h1
  have h2 : q + (p - q) - q = p - q := by omega
  omega
/-- what stands in a row from q on stands in the other from q on -/
theorem Pm_at {p q : Nat} {d t : Nat → Nat} (h : Pm p d t) (hq : q < p) (he : ∀ k, k < q → d k = t k) : ∃ k, q ≤ k ∧ k < p ∧ d k = t q := by
  have h1 := Pm_sfx h (by omega) he (t q)
  have h2 := cnt_has (d := t) (p - q) q (by omega)
  obtain ⟨k, a, b, c⟩ := cnt_pos (p - q) q (by rw [h1]; exact h2)
  exact ⟨k, a, by omega, c⟩
def lx (p : Nat) (d t : Nat → Nat) : Prop := ∃ q, q < p ∧ (∀ k, k < q → d k = t k) ∧ d q < t q
theorem lx_irr {p : Nat} {d : Nat → Nat} (h : lx p d d) : False := by
  obtain ⟨q, -, -, h⟩ := h
  omega
theorem lx_trans {p : Nat} {a b c : Nat → Nat} (h1 : lx p a b) (h2 : lx p b c) : lx p a c := by
  obtain ⟨q, q1, q2, q3⟩ := h1
  obtain ⟨r, r1, r2, r3⟩ := h2
  rcases Nat.lt_trichotomy q r with h | h | h
  · exact ⟨q, q1, fun k hk => (q2 k hk).trans (r2 k (by omega)), by rw [← r2 q h]; exact q3⟩
  · subst h
    exact ⟨q, q1, fun k hk => (q2 k hk).trans (r2 k hk), by omega⟩
  · exact ⟨r, r1, fun k hk => (q2 k (by omega)).trans (r2 k hk), by rw [q2 r h]; exact r3⟩
theorem lx_tri (d t : Nat → Nat) : ∀ p, (∀ k, k < p → d k = t k) ∨ lx p d t ∨ lx p t d := by
  intro p
  induction p with
  | zero => exact Or.inl (fun k hk => absurd hk (Nat.not_lt_zero _))
  | succ p ih =>
    rcases ih with h | ⟨q, q1, q2, q3⟩ | ⟨q, q1, q2, q3⟩
    · rcases Nat.lt_trichotomy (d p) (t p) with g | g | g
      · exact Or.inr (Or.inl ⟨p, by omega, h, g⟩)
      · refine Or.inl (fun k hk => ?_)
        by_cases hkp : k = p
        · rw [hkp]; exact g
        · exact h k (by omega)
      · exact Or.inr (Or.inr ⟨p, by omega, fun k hk => (h k hk).symm, g⟩)
    · exact Or.inr (Or.inl ⟨q, by omega, q2, q3⟩)
    · exact Or.inr (Or.inr ⟨q, by omega, q2, q3⟩)
theorem lx_congr {p : Nat} {a a' b b' : Nat → Nat} (ha : ∀ k, k < p → a k = a' k) (hb : ∀ k, k < p → b k = b' k) (h : lx p a b) : lx p a' b' := by
  obtain ⟨q, q1, q2, q3⟩ := h
  exact ⟨q, q1, fun k hk => by rw [← ha k (by omega), ← hb k (by omega)]; exact q2 k hk, by rw [← ha q q1, ← hb q q1]; exact q3⟩
theorem noninc {d : Nat → Nat} {lo p : Nat} (h : ∀ k, lo ≤ k → k + 1 < p → d (k + 1) ≤ d k) : ∀ n a, lo ≤ a → a + n < p → d (a + n) ≤ d a := by
  intro n
  induction n with
  | zero => intro a _ _; exact Nat.le_refl _
  | succ n ih =>
    intro a h1 h2
    have := ih a h1 (by omega)
    have := h (a + n) (by omega) (by omega)
    rw [show a + (n + 1) = a + n + 1 by omega]
    omega
/-- no row of the same drawers stands behind one that doesn't rise -/
theorem none_max {p : Nat} {d t : Nat → Nat} (h : ∀ k, k + 1 < p → d (k + 1) ≤ d k) (hP : Pm p d t) : ¬ lx p d t := by
  rintro ⟨q, q1, q2, q3⟩
  obtain ⟨k, k1, k2, k3⟩ := Pm_at hP q1 q2
  have := noninc (lo := 0) (fun k _ h2 => h k h2) (k - q) q (by omega) (by omega)
  rw [show q + (k - q) = k by omega] at this
  omega
/-- none stands ahead of one that doesn't fall -/
theorem sort_min {p : Nat} {d t : Nat → Nat} (h : ∀ i j, i < j → j < p → d i ≤ d j) (hP : Pm p d t) : ¬ lx p t d := by
  rintro ⟨q, q1, q2, q3⟩
  obtain ⟨k, k1, k2, k3⟩ := Pm_at hP q1 (fun k hk => (q2 k hk).symm)
  by_cases hqk : q = k
  · subst hqk
    omega
  · have := h q k (by omega) k2
    omega
/-- the next row: what the program makes of a row -/
def NextOf (p : Nat) (d e : Nat → Nat) : Prop := ∃ i j, i < j ∧ j < p ∧ (∀ k, k < i → e k = d k) ∧ e i = d j ∧ d i < d j ∧ (∀ k, j < k → k < p → d k ≤ d i) ∧ (∀ k, i + 1 ≤ k → k + 1 < p → d (k + 1) ≤ d k) ∧ (∀ a b, i < a → a < b → b < p → e a ≤ e b) ∧ Pm p d e
theorem next_gt {p : Nat} {d e : Nat → Nat} (h : NextOf p d e) : lx p d e := by
  obtain ⟨i, j, h1, h2, h3, h4, h5, -⟩ := h
  exact ⟨i, by omega, fun k hk => (h3 k hk).symm, by omega⟩
theorem next_min {p : Nat} {d e t : Nat → Nat} (h : NextOf p d e) (hP : Pm p d t) (hl : lx p d t) : ¬ lx p t e := by
  obtain ⟨i, j, h1, h2, h3, h4, h5, h6, h7, h8, h9⟩ := h
  obtain ⟨q, q1, q2, q3⟩ := hl
  intro hte
  rcases Nat.lt_trichotomy q i with hq | hq | hq
  · exact lx_irr (lx_trans hte ⟨q, q1, fun k hk => (h3 k (by omega)).trans (q2 k hk), by rw [h3 q hq]; exact q3⟩)
  · subst hq
    obtain ⟨k, k1, k2, k3⟩ := Pm_at hP q1 q2
    have hk : q < k := by
      rcases Nat.lt_or_ge q k with z | z
      · exact z
      · have : k = q := by omega
        subst this
        omega
    have hkj : k ≤ j := by
      rcases Nat.lt_or_ge j k with z | z
      · have := h6 k z k2
        omega
      · exact z
    have hdj := noninc (d := d) (lo := q + 1) (p := p) h7 (j - k) k (by omega) (by omega)
    rw [show k + (j - k) = j by omega] at hdj
    by_cases hei : e q = t q
    · obtain ⟨r, r1, r2, r3⟩ := hte
      have hr : q < r := by
        rcases Nat.lt_trichotomy r q with z | z | z
        · have a1 := q2 r z
          have a2 := h3 r z
          omega
        · subst z
          omega
        · exact z
      obtain ⟨b, b1, b2, b3⟩ := Pm_at (d := e) (t := t) (h9.sy.tr hP) r1 (fun k hk => (r2 k hk).symm)
      by_cases hrb : r = b
      · subst hrb
        omega
      · have := h8 r b hr (by omega) b2
        omega
    · exact lx_irr (lx_trans hte ⟨q, q1, fun k hk => (h3 k hk).trans (q2 k hk), by omega⟩)
  · obtain ⟨k, k1, k2, k3⟩ := Pm_at hP q1 q2
    have := noninc (d := d) (lo := i + 1) (p := p) h7 (k - q) q (by omega) (by omega)
    rw [show q + (k - q) = k by omega] at this
    omega
/-! the rank -/
def ltc (d : Nat → Nat) (n a : Nat) : Nat → Nat
  | 0 => 0
  | x + 1 => ltc d n a x + cnt d x n a
theorem ltc_eq {d t : Nat → Nat} {n a : Nat} (h : ∀ v, cnt d v n a = cnt t v n a) : ∀ x, ltc d n a x = ltc t n a x := by
  intro x
  induction x with
  | zero => rfl
  | succ x ih => simp only [ltc, ih, h]
theorem ltc_mono {d : Nat → Nat} {n a x : Nat} : ∀ y, x < y → ltc d n a x + cnt d x n a ≤ ltc d n a y := by
  intro y
  induction y with
  | zero => intro h; omega
  | succ y ih =>
    intro h
    simp only [ltc]
    by_cases hxy : x = y
    · subst hxy
      omega
    · have := ih (by omega)
      omega
theorem ltc_cons (d : Nat → Nat) (n a : Nat) : ∀ x, ltc d (n + 1) a x = (if d a < x then 1 else 0) + ltc d n (a + 1) x := by
  intro x
  induction x with
  | zero => simp [ltc]
  | succ x ih =>
    simp only [ltc, ih, cnt]
    by_cases h1 : d a < x
    · rw [if_pos h1, if_neg (by omega), if_pos (by omega)]
      omega
    · by_cases h2 : d a = x
      · rw [if_neg h1, if_pos h2, if_pos (by omega)]
        omega
      · rw [if_neg h1, if_neg h2, if_neg (by omega)]
        omega
theorem ltc_le (d : Nat → Nat) : ∀ n a x, ltc d n a x ≤ n := by
  intro n
  induction n with
  | zero =>
    intro a x
    induction x with
    | zero => exact Nat.le_refl _
    | succ x ih => simp only [ltc, cnt]; omega
  | succ n ih =>
    intro a x
    rw [ltc_cons]
    have := ih (a + 1) x
    split <;> omega
def fac : Nat → Nat
  | 0 => 1
  | n + 1 => (n + 1) * fac n
def rk (d : Nat → Nat) : Nat → Nat → Nat
  | 0, _ => 0
  | n + 1, a => ltc d n (a + 1) (d a) * fac n + rk d n (a + 1)
theorem rk_lt (d : Nat → Nat) : ∀ n a, rk d n a < fac n := by
  intro n
  induction n with
  | zero => intro a; exact Nat.zero_lt_one
  | succ n ih =>
    intro a
    have h1 := Nat.mul_le_mul_right (fac n) (ltc_le d n (a + 1) (d a))
    have h2 := ih (a + 1)
    simp only [rk, fac]
    rw [Nat.succ_mul]
    omega
theorem rk_mono : ∀ (n a q : Nat) (d t : Nat → Nat), (∀ v, cnt d v n a = cnt t v n a) → a ≤ q → q < a + n → (∀ k, a ≤ k → k < q → d k = t k) → d q < t q → rk d n a < rk t n a := by
  intro n
  induction n with
  | zero => intro a q d t _ h1 h2; omega
  | succ n ih =>
    intro a q d t hc h1 h2 h3 h4
    have e1 := ltc_cons d n a (d a)
    have e2 := ltc_cons t n a (t a)
    rw [if_neg (Nat.lt_irrefl _), Nat.zero_add] at e1 e2
    simp only [rk]
    by_cases hq : q = a
    · subst hq
      have m1 := ltc_mono (d := d) (n := n + 1) (a := q) (t q) h4
      have m2 := cnt_has (d := d) (n + 1) q (by omega)
      rw [ltc_eq hc (t q)] at m1
      have m3 := rk_lt d n (q + 1)
      have m4 : (ltc d n (q + 1) (d q) + 1) * fac n ≤ ltc t n (q + 1) (t q) * fac n := Nat.mul_le_mul_right _ (by omega)
      rw [Nat.succ_mul] at m4
      omega
    · have ha := h3 a (by omega) (by omega)
      have e3 := ltc_eq hc (d a)
      have hc' : ∀ v, cnt d v n (a + 1) = cnt t v n (a + 1) := by
        intro v
        have := hc v
        simp only [cnt, ha] at this
        omega
      have := ih (a + 1) q d t hc' (by omega) (by omega) (fun k k1 k2 => h3 k (by omega) k2) h4
      rw [← e1, ← e2, ← ha, e3]
      omega
theorem rank_lt {p : Nat} {d t : Nat → Nat} (hP : Pm p d t) (h : lx p d t) : rk d p 0 < rk t p 0 := by
  obtain ⟨q, q1, q2, q3⟩ := h
  exact rk_mono p 0 q d t hP (by omega) (by omega) (fun k _ hk => q2 k hk) q3
theorem rank_720 {p : Nat} (hp : p ≤ 6) (d : Nat → Nat) : rk d p 0 < 720 := by
  have h := rk_lt d p 0
  have h2 : fac p ≤ 720 := by
    rcases (show p = 0 ∨ p = 1 ∨ p = 2 ∨ p = 3 ∨ p = 4 ∨ p = 5 ∨ p = 6 by omega) with h | h | h | h | h | h | h <;> subst h <;> decide
  omega
