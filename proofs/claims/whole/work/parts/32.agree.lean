/-! the class and the reference agree, call by call -/
def R2 (σ1 σ2 : Sg) : Prop := ∃ (n p g rn : Nat) (d : Nat → Nat) (th rd : Nat → Nat → Nat) (sl sn : Nat → Nat) (sc : Nat → Nat → Int32) (ft tr : Int32), I1 n p g rn d th rd sl sn sc ft tr σ1 ∧ I2 n p g rn d th rd sl sn sc ft tr σ2
theorem cl_lt (x : Int32) (n : Nat) : (∃ j, j < n ∧ x = nI j) ∨ ∀ j, j < n → x ≠ nI j := by
  by_cases h : ∃ j, j < n ∧ x = nI j
  · exact .inl h
  · exact .inr (fun j hj e => h ⟨j, hj, e⟩)
theorem cl_rg (x : Int32) (a b : Nat) (hb : b < 2 ^ 31) (ha : a < 2 ^ 31 := by decide) : (∃ j, a ≤ j ∧ j ≤ b ∧ x = nI j) ∨ ¬ (nI a ≤ x ∧ x ≤ nI b) := by
  by_cases h : nI a ≤ x ∧ x ≤ nI b
  · exact .inl (xn_rng hb h ha)
  · exact .inr h
theorem fL_0 {L w : Nat} (h : ¬ fL L w ≠ 0) : L = w := by
  unfold fL at h
  split at h
  · omega
  · split at h
    · assumption
    · omega
theorem le_60 {m : Nat} (h : ¬ nI 60 < nI m) (hm : m < 2 ^ 31) : m ≤ 60 := by
  rcases Nat.lt_or_ge 60 m with z | z
  · exact absurd ((nI_ltI (by decide) hm).mpr z) h
  · exact z
theorem best_rg {k : Int32} (h : -1 ≤ k ∧ k ≤ nI 5) : k = -1 ∨ ∃ j, j ≤ 5 ∧ k = nI j := by
  obtain ⟨h1, h2⟩ := h
  by_cases hk : k < 0
  · left
    rw [Int32.lt_iff_toInt_lt] at hk
    rw [Int32.le_iff_toInt_le] at h1
    have e1 : (-1 : Int32).toInt = -1 := by decide
    have e0 : (0 : Int32).toInt = 0 := by decide
    exact Int32.toInt_inj.mp (by omega)
  · right
    obtain ⟨j, hj, rfl⟩ := nI_of hk
    exact ⟨j, (nI_leI hj (by decide)).mp h2, rfl⟩

set_option maxHeartbeats 4000000 in
theorem ag_many (l : Launch) {D : va_G} {ca ca' : Nat → ClassId} {ad ad' : Nat → Nat} (h1 : Ij ad 34) (h2 : Ij ad' 18) {σ1 σ2 : Sg} (hR : R2 σ1 σ2) (w : Int32) : ∃ P1 P2 : Int32 → Sg → Prop, C1i l D ca ad yX6_many wsX6_many { frames := 0, cells := 0, slots := 0, locals := 0 } [.ref (ad 0), .int w] σ1 P1 ∧ C2i l D ca' ad' yX7_many wsX7_many { frames := 0, cells := 0, slots := 0, locals := 0 } [.ref (ad' 0), .int w] σ2 P2 ∧ ∀ r τ r' τ', P1 r τ → P2 r' τ' → r = r' ∧ R2 τ τ' := by
  obtain ⟨n, p, g, rn, d, th, rd, sl, sn, sc, ft, tr, hJ1, hJ2⟩ := hR
  have hn5 : n ≤ 5 := hJ1.1.2.2.1
  have hrn8 : rn ≤ 8 := hJ1.2.2.1.2.1
  have hp6 : p ≤ 6 := hJ1.2.1.2.1
  rcases cl_rg w 0 3 (by omega) with ⟨w, -, hw4, rfl⟩ | hw
  · rcases (show w = 0 ∨ w = 1 ∨ w = 2 ∨ w = 3 by omega) with rfl | rfl | rfl | rfl
    · exact ⟨_, _, a1_many_0 l h1 hJ1 , a2_many_0 l h2 hJ2 , fun r τ r' τ' h h' => ⟨h.1.trans h'.1.symm, _, _, _, _, _, _, _, _, _, _, _, _, h.2, h'.2⟩⟩
    · exact ⟨_, _, a1_many_1 l h1 hJ1 , a2_many_1 l h2 hJ2 , fun r τ r' τ' h h' => ⟨h.1.trans h'.1.symm, _, _, _, _, _, _, _, _, _, _, _, _, h.2, h'.2⟩⟩
    · exact ⟨_, _, a1_many_2 l h1 hJ1 , a2_many_2 l h2 hJ2 , fun r τ r' τ' h h' => ⟨h.1.trans h'.1.symm, _, _, _, _, _, _, _, _, _, _, _, _, h.2, h'.2⟩⟩
    · exact ⟨_, _, a1_many_3 l h1 hJ1 , a2_many_3 l h2 hJ2 , fun r τ r' τ' h h' => ⟨h.1.trans h'.1.symm, _, _, _, _, _, _, _, _, _, _, _, _, h.2, h'.2⟩⟩
  · exact ⟨_, _, a1_many_o l h1 hJ1 hw, a2_many_o l h2 hJ2 hw, fun r τ r' τ' h h' => ⟨h.1.trans h'.1.symm, _, _, _, _, _, _, _, _, _, _, _, _, h.2, h'.2⟩⟩

set_option maxHeartbeats 4000000 in
theorem ag_trace (l : Launch) {D : va_G} {ca ca' : Nat → ClassId} {ad ad' : Nat → Nat} (h1 : Ij ad 34) (h2 : Ij ad' 18) {σ1 σ2 : Sg} (hR : R2 σ1 σ2) : ∃ P1 P2 : Int32 → Sg → Prop, C1i l D ca ad yX6_trace wsX6_trace { frames := 0, cells := 0, slots := 0, locals := 0 } [.ref (ad 0)] σ1 P1 ∧ C2i l D ca' ad' yX7_trace wsX7_trace { frames := 0, cells := 0, slots := 0, locals := 0 } [.ref (ad' 0)] σ2 P2 ∧ ∀ r τ r' τ', P1 r τ → P2 r' τ' → r = r' ∧ R2 τ τ' := by
  obtain ⟨n, p, g, rn, d, th, rd, sl, sn, sc, ft, tr, hJ1, hJ2⟩ := hR
  have hn5 : n ≤ 5 := hJ1.1.2.2.1
  have hrn8 : rn ≤ 8 := hJ1.2.2.1.2.1
  have hp6 : p ≤ 6 := hJ1.2.1.2.1
  exact ⟨_, _, a1_trace l h1 hJ1 , a2_trace l h2 hJ2 , fun r τ r' τ' h h' => ⟨h.1.trans h'.1.symm, _, _, _, _, _, _, _, _, _, _, _, _, h.2, h'.2⟩⟩

set_option maxHeartbeats 4000000 in
theorem ag_fault (l : Launch) {D : va_G} {ca ca' : Nat → ClassId} {ad ad' : Nat → Nat} (h1 : Ij ad 34) (h2 : Ij ad' 18) {σ1 σ2 : Sg} (hR : R2 σ1 σ2) : ∃ P1 P2 : Int32 → Sg → Prop, C1i l D ca ad yX6_fault wsX6_fault { frames := 0, cells := 0, slots := 0, locals := 0 } [.ref (ad 0)] σ1 P1 ∧ C2i l D ca' ad' yX7_fault wsX7_fault { frames := 0, cells := 0, slots := 0, locals := 0 } [.ref (ad' 0)] σ2 P2 ∧ ∀ r τ r' τ', P1 r τ → P2 r' τ' → r = r' ∧ R2 τ τ' := by
  obtain ⟨n, p, g, rn, d, th, rd, sl, sn, sc, ft, tr, hJ1, hJ2⟩ := hR
  have hn5 : n ≤ 5 := hJ1.1.2.2.1
  have hrn8 : rn ≤ 8 := hJ1.2.2.1.2.1
  have hp6 : p ≤ 6 := hJ1.2.1.2.1
  exact ⟨_, _, a1_fault l h1 hJ1 , a2_fault l h2 hJ2 , fun r τ r' τ' h h' => ⟨h.1.trans h'.1.symm, _, _, _, _, _, _, _, _, _, _, _, _, h.2, h'.2⟩⟩

set_option maxHeartbeats 4000000 in
theorem ag_ofThing (l : Launch) {D : va_G} {ca ca' : Nat → ClassId} {ad ad' : Nat → Nat} (h1 : Ij ad 34) (h2 : Ij ad' 18) {σ1 σ2 : Sg} (hR : R2 σ1 σ2) (x : Int32) (w : Int32) : ∃ P1 P2 : Int32 → Sg → Prop, C1i l D ca ad yX6_ofThing wsX6_ofThing { frames := 3, cells := 0, slots := 0, locals := 84 } [.ref (ad 0), .int x, .int w] σ1 P1 ∧ C2i l D ca' ad' yX7_ofThing wsX7_ofThing { frames := 1, cells := 0, slots := 0, locals := 22 } [.ref (ad' 0), .int x, .int w] σ2 P2 ∧ ∀ r τ r' τ', P1 r τ → P2 r' τ' → r = r' ∧ R2 τ τ' := by
  obtain ⟨n, p, g, rn, d, th, rd, sl, sn, sc, ft, tr, hJ1, hJ2⟩ := hR
  have hn5 : n ≤ 5 := hJ1.1.2.2.1
  have hrn8 : rn ≤ 8 := hJ1.2.2.1.2.1
  have hp6 : p ≤ 6 := hJ1.2.1.2.1
  rcases cl_lt x n with ⟨x, hxn, rfl⟩ | hxx
  · rcases cl_rg w 0 5 (by omega) with ⟨w, -, hw6, rfl⟩ | hw
    · rcases (show w = 0 ∨ w = 1 ∨ w = 2 ∨ w = 3 ∨ w = 4 ∨ w = 5 by omega) with rfl | rfl | rfl | rfl | rfl | rfl
      · exact ⟨_, _, a1_ofThing_0 l h1 hJ1 hxn, a2_ofThing_0 l h2 hJ2 hxn, fun r τ r' τ' h h' => ⟨h.1.trans h'.1.symm, _, _, _, _, _, _, _, _, _, _, _, _, h.2, h'.2⟩⟩
      · exact ⟨_, _, a1_ofThing_1 l h1 hJ1 hxn, a2_ofThing_1 l h2 hJ2 hxn, fun r τ r' τ' h h' => ⟨h.1.trans h'.1.symm, _, _, _, _, _, _, _, _, _, _, _, _, h.2, h'.2⟩⟩
      · exact ⟨_, _, a1_ofThing_2 l h1 hJ1 hxn, a2_ofThing_2 l h2 hJ2 hxn, fun r τ r' τ' h h' => ⟨h.1.trans h'.1.symm, _, _, _, _, _, _, _, _, _, _, _, _, h.2, h'.2⟩⟩
      · exact ⟨_, _, a1_ofThing_3 l h1 hJ1 hxn, a2_ofThing_3 l h2 hJ2 hxn, fun r τ r' τ' h h' => ⟨h.1.trans h'.1.symm, _, _, _, _, _, _, _, _, _, _, _, _, h.2, h'.2⟩⟩
      · exact ⟨_, _, a1_ofThing_4 l h1 hJ1 hxn, a2_ofThing_4 l h2 hJ2 hxn, fun r τ r' τ' h h' => ⟨h.1.trans h'.1.symm, _, _, _, _, _, _, _, _, _, _, _, _, h.2, h'.2⟩⟩
      · exact ⟨_, _, a1_ofThing_5 l h1 hJ1 hxn, a2_ofThing_5 l h2 hJ2 hxn, fun r τ r' τ' h h' => ⟨h.1.trans h'.1.symm, _, _, _, _, _, _, _, _, _, _, _, _, h.2, h'.2⟩⟩
    · exact ⟨_, _, a1_ofThing_wo l h1 hJ1 hxn hw, a2_ofThing_wo l h2 hJ2 hxn hw, fun r τ r' τ' h h' => ⟨h.1.trans h'.1.symm, _, _, _, _, _, _, _, _, _, _, _, _, h.2, h'.2⟩⟩
  · exact ⟨_, _, a1_ofThing_xo l h1 hJ1 hxx, a2_ofThing_xo l h2 hJ2 hxx, fun r τ r' τ' h h' => ⟨h.1.trans h'.1.symm, _, _, _, _, _, _, _, _, _, _, _, _, h.2, h'.2⟩⟩

set_option maxHeartbeats 4000000 in
theorem ag_draws (l : Launch) {D : va_G} {ca ca' : Nat → ClassId} {ad ad' : Nat → Nat} (h1 : Ij ad 34) (h2 : Ij ad' 18) {σ1 σ2 : Sg} (hR : R2 σ1 σ2) (h : Int32) : ∃ P1 P2 : Int32 → Sg → Prop, C1i l D ca ad yX6_draws wsX6_draws { frames := 1, cells := 0, slots := 0, locals := 22 } [.ref (ad 0), .int h] σ1 P1 ∧ C2i l D ca' ad' yX7_draws wsX7_draws { frames := 1, cells := 0, slots := 0, locals := 22 } [.ref (ad' 0), .int h] σ2 P2 ∧ ∀ r τ r' τ', P1 r τ → P2 r' τ' → r = r' ∧ R2 τ τ' := by
  obtain ⟨n, p, g, rn, d, th, rd, sl, sn, sc, ft, tr, hJ1, hJ2⟩ := hR
  have hn5 : n ≤ 5 := hJ1.1.2.2.1
  have hrn8 : rn ≤ 8 := hJ1.2.2.1.2.1
  have hp6 : p ≤ 6 := hJ1.2.1.2.1
  rcases Nat.eq_zero_or_pos n with hn0 | hn0
  · exact ⟨_, _, a1_draws_no l h1 hJ1 hn0, a2_draws_no l h2 hJ2 hn0, fun r τ r' τ' h h' => ⟨h.1.trans h'.1.symm, _, _, _, _, _, _, _, _, _, _, _, _, h.2, h'.2⟩⟩
  · rcases cl_rg h 0 99 (by omega) with ⟨h, -, hh, rfl⟩ | hho
    · exact ⟨_, _, a1_draws_ok l h1 hJ1 hn0 hh, a2_draws_ok l h2 hJ2 hn0 hh, fun r τ r' τ' h h' => ⟨h.1.trans h'.1.symm, _, _, _, _, _, _, _, _, _, _, _, _, h.2, h'.2⟩⟩
    · exact ⟨_, _, a1_draws_ho l h1 hJ1 hn0 hho, a2_draws_ho l h2 hJ2 hn0 hho, fun r τ r' τ' h h' => ⟨h.1.trans h'.1.symm, _, _, _, _, _, _, _, _, _, _, _, _, h.2, h'.2⟩⟩

set_option maxHeartbeats 4000000 in
theorem ag_weigh (l : Launch) {D : va_G} {ca ca' : Nat → ClassId} {ad ad' : Nat → Nat} (h1 : Ij ad 34) (h2 : Ij ad' 18) {σ1 σ2 : Sg} (hR : R2 σ1 σ2) (x : Int32) (v : Int32) : ∃ P1 P2 : Int32 → Sg → Prop, C1i l D ca ad yX6_weigh wsX6_weigh { frames := 1, cells := 0, slots := 0, locals := 22 } [.ref (ad 0), .int x, .int v] σ1 P1 ∧ C2i l D ca' ad' yX7_weigh wsX7_weigh { frames := 1, cells := 0, slots := 0, locals := 22 } [.ref (ad' 0), .int x, .int v] σ2 P2 ∧ ∀ r τ r' τ', P1 r τ → P2 r' τ' → r = r' ∧ R2 τ τ' := by
  obtain ⟨n, p, g, rn, d, th, rd, sl, sn, sc, ft, tr, hJ1, hJ2⟩ := hR
  have hn5 : n ≤ 5 := hJ1.1.2.2.1
  have hrn8 : rn ≤ 8 := hJ1.2.2.1.2.1
  have hp6 : p ≤ 6 := hJ1.2.1.2.1
  rcases cl_lt x n with ⟨x, hxn, rfl⟩ | hxx
  · rcases cl_rg v 0 9 (by omega) with ⟨v, -, hv9, rfl⟩ | hvo
    · exact ⟨_, _, a1_weigh_ok l h1 hJ1 hxn hv9, a2_weigh_ok l h2 hJ2 hxn hv9, fun r τ r' τ' h h' => ⟨h.1.trans h'.1.symm, _, _, _, _, _, _, _, _, _, _, _, _, h.2, h'.2⟩⟩
    · exact ⟨_, _, a1_weigh_vo l h1 hJ1 hxn hvo, a2_weigh_vo l h2 hJ2 hxn hvo, fun r τ r' τ' h h' => ⟨h.1.trans h'.1.symm, _, _, _, _, _, _, _, _, _, _, _, _, h.2, h'.2⟩⟩
  · exact ⟨_, _, a1_weigh_xo l h1 hJ1 hxx, a2_weigh_xo l h2 hJ2 hxx, fun r τ r' τ' h h' => ⟨h.1.trans h'.1.symm, _, _, _, _, _, _, _, _, _, _, _, _, h.2, h'.2⟩⟩

set_option maxHeartbeats 4000000 in
theorem ag_dig (l : Launch) {D : va_G} {ca ca' : Nat → ClassId} {ad ad' : Nat → Nat} (h1 : Ij ad 34) (h2 : Ij ad' 18) {σ1 σ2 : Sg} (hR : R2 σ1 σ2) (v : Int32) : ∃ P1 P2 : Int32 → Sg → Prop, C1i l D ca ad yX6_dig wsX6_dig { frames := 1, cells := 0, slots := 0, locals := 22 } [.ref (ad 0), .int v] σ1 P1 ∧ C2i l D ca' ad' yX7_dig wsX7_dig { frames := 1, cells := 0, slots := 0, locals := 22 } [.ref (ad' 0), .int v] σ2 P2 ∧ ∀ r τ r' τ', P1 r τ → P2 r' τ' → r = r' ∧ R2 τ τ' := by
  obtain ⟨n, p, g, rn, d, th, rd, sl, sn, sc, ft, tr, hJ1, hJ2⟩ := hR
  have hn5 : n ≤ 5 := hJ1.1.2.2.1
  have hrn8 : rn ≤ 8 := hJ1.2.2.1.2.1
  have hp6 : p ≤ 6 := hJ1.2.1.2.1
  rcases cl_rg v 0 9 (by omega) with ⟨v, -, hv9, rfl⟩ | hvo
  · rcases Nat.eq_zero_or_pos n with hn0 | hn0
    · exact ⟨_, _, a1_dig_no l h1 hJ1 hv9 hn0, a2_dig_no l h2 hJ2 hv9 hn0, fun r τ r' τ' h h' => ⟨h.1.trans h'.1.symm, _, _, _, _, _, _, _, _, _, _, _, _, h.2, h'.2⟩⟩
    · exact ⟨_, _, a1_dig_ok l h1 hJ1 hv9 hn0, a2_dig_ok l h2 hJ2 hv9 hn0, fun r τ r' τ' h h' => ⟨h.1.trans h'.1.symm, _, _, _, _, _, _, _, _, _, _, _, _, h.2, h'.2⟩⟩
  · exact ⟨_, _, a1_dig_vo l h1 hJ1 hvo, a2_dig_vo l h2 hJ2 hvo, fun r τ r' τ' h h' => ⟨h.1.trans h'.1.symm, _, _, _, _, _, _, _, _, _, _, _, _, h.2, h'.2⟩⟩

set_option maxHeartbeats 4000000 in
theorem ag_hire (l : Launch) {D : va_G} {ca ca' : Nat → ClassId} {ad ad' : Nat → Nat} (h1 : Ij ad 34) (h2 : Ij ad' 18) {σ1 σ2 : Sg} (hR : R2 σ1 σ2) (k : Int32) (e : Int32) : ∃ P1 P2 : Int32 → Sg → Prop, C1i l D ca ad yX6_hire wsX6_hire { frames := 2, cells := 0, slots := 0, locals := 43 } [.ref (ad 0), .int k, .int e] σ1 P1 ∧ C2i l D ca' ad' yX7_hire wsX7_hire { frames := 2, cells := 0, slots := 0, locals := 42 } [.ref (ad' 0), .int k, .int e] σ2 P2 ∧ ∀ r τ r' τ', P1 r τ → P2 r' τ' → r = r' ∧ R2 τ τ' := by
  obtain ⟨n, p, g, rn, d, th, rd, sl, sn, sc, ft, tr, hJ1, hJ2⟩ := hR
  have hn5 : n ≤ 5 := hJ1.1.2.2.1
  have hrn8 : rn ≤ 8 := hJ1.2.2.1.2.1
  have hp6 : p ≤ 6 := hJ1.2.1.2.1
  rcases cl_lt k p with ⟨k, hkp, rfl⟩ | hko
  · rcases cl_rg e 0 4 (by omega) with ⟨e, -, he4, rfl⟩ | heo
    · exact ⟨_, _, a1_hire_ok l h1 hJ1 hkp he4, a2_hire_ok l h2 hJ2 hkp he4, fun r τ r' τ' h h' => ⟨h.1.trans h'.1.symm, _, _, _, _, _, _, _, _, _, _, _, _, h.2, h'.2⟩⟩
    · exact ⟨_, _, a1_hire_do l h1 hJ1 hkp heo, a2_hire_do l h2 hJ2 hkp heo, fun r τ r' τ' h h' => ⟨h.1.trans h'.1.symm, _, _, _, _, _, _, _, _, _, _, _, _, h.2, h'.2⟩⟩
  · exact ⟨_, _, a1_hire_ko l h1 hJ1 hko, a2_hire_ko l h2 hJ2 hko, fun r τ r' τ' h h' => ⟨h.1.trans h'.1.symm, _, _, _, _, _, _, _, _, _, _, _, _, h.2, h'.2⟩⟩

set_option maxHeartbeats 4000000 in
theorem ag_drop (l : Launch) {D : va_G} {ca ca' : Nat → ClassId} {ad ad' : Nat → Nat} (h1 : Ij ad 34) (h2 : Ij ad' 18) {σ1 σ2 : Sg} (hR : R2 σ1 σ2) (x : Int32) (e : Int32) (h : Int32) (w : Int32) : ∃ P1 P2 : Int32 → Sg → Prop, C1i l D ca ad yX6_drop wsX6_drop { frames := 3, cells := 0, slots := 0, locals := 84 } [.ref (ad 0), .int x, .int e, .int h, .int w] σ1 P1 ∧ C2i l D ca' ad' yX7_drop wsX7_drop { frames := 2, cells := 0, slots := 0, locals := 48 } [.ref (ad' 0), .int x, .int e, .int h, .int w] σ2 P2 ∧ ∀ r τ r' τ', P1 r τ → P2 r' τ' → r = r' ∧ R2 τ τ' := by
  obtain ⟨n, p, g, rn, d, th, rd, sl, sn, sc, ft, tr, hJ1, hJ2⟩ := hR
  have hn5 : n ≤ 5 := hJ1.1.2.2.1
  have hrn8 : rn ≤ 8 := hJ1.2.2.1.2.1
  have hp6 : p ≤ 6 := hJ1.2.1.2.1
  rcases cl_lt x n with ⟨x, hxn, rfl⟩ | hxx
  · rcases cl_rg e 0 4 (by omega) with ⟨e, -, he4, rfl⟩ | heo
    · rcases cl_rg h 0 99 (by omega) with ⟨h, -, hh, rfl⟩ | hho
      · rcases cl_rg w 0 2 (by omega) with ⟨w, -, hw3, rfl⟩ | hwo
        · rcases (show w = 0 ∨ w = 1 ∨ w = 2 by omega) with rfl | rfl | rfl
          · by_cases hc : cta p d e h (dl g th x) p 1 = 0
            · exact ⟨_, _, a1_drop_z0 l h1 hJ1 hxn he4 hh hc, a2_drop_z0 l h2 hJ2 hxn he4 hh hc, fun r τ r' τ' h h' => ⟨h.1.trans h'.1.symm, _, _, _, _, _, _, _, _, _, _, _, _, h.2, h'.2⟩⟩
            · exact ⟨_, _, a1_drop_n0 l h1 hJ1 hxn he4 hh hc, a2_drop_n0 l h2 hJ2 hxn he4 hh hc, fun r τ r' τ' h h' => ⟨h.1.trans h'.1.symm, _, _, _, _, _, _, _, _, _, _, _, _, h.2, h'.2⟩⟩
          · by_cases hc : cta p d e h (dl g th x) p 1 = 0
            · exact ⟨_, _, a1_drop_z1 l h1 hJ1 hxn he4 hh hc, a2_drop_z1 l h2 hJ2 hxn he4 hh hc, fun r τ r' τ' h h' => ⟨h.1.trans h'.1.symm, _, _, _, _, _, _, _, _, _, _, _, _, h.2, h'.2⟩⟩
            · exact ⟨_, _, a1_drop_n1 l h1 hJ1 hxn he4 hh hc, a2_drop_n1 l h2 hJ2 hxn he4 hh hc, fun r τ r' τ' h h' => ⟨h.1.trans h'.1.symm, _, _, _, _, _, _, _, _, _, _, _, _, h.2, h'.2⟩⟩
          · by_cases hc : cta p d e h (dl g th x) p 1 = 0
            · exact ⟨_, _, a1_drop_z2 l h1 hJ1 hxn he4 hh hc, a2_drop_z2 l h2 hJ2 hxn he4 hh hc, fun r τ r' τ' h h' => ⟨h.1.trans h'.1.symm, _, _, _, _, _, _, _, _, _, _, _, _, h.2, h'.2⟩⟩
            · exact ⟨_, _, a1_drop_n2 l h1 hJ1 hxn he4 hh hc, a2_drop_n2 l h2 hJ2 hxn he4 hh hc, fun r τ r' τ' h h' => ⟨h.1.trans h'.1.symm, _, _, _, _, _, _, _, _, _, _, _, _, h.2, h'.2⟩⟩
        · exact ⟨_, _, a1_drop_wo l h1 hJ1 hxn he4 hh hwo, a2_drop_wo l h2 hJ2 hxn he4 hh hwo, fun r τ r' τ' h h' => ⟨h.1.trans h'.1.symm, _, _, _, _, _, _, _, _, _, _, _, _, h.2, h'.2⟩⟩
      · exact ⟨_, _, a1_drop_ho l h1 hJ1 hxn he4 hho, a2_drop_ho l h2 hJ2 hxn he4 hho, fun r τ r' τ' h h' => ⟨h.1.trans h'.1.symm, _, _, _, _, _, _, _, _, _, _, _, _, h.2, h'.2⟩⟩
    · exact ⟨_, _, a1_drop_do l h1 hJ1 hxn heo, a2_drop_do l h2 hJ2 hxn heo, fun r τ r' τ' h h' => ⟨h.1.trans h'.1.symm, _, _, _, _, _, _, _, _, _, _, _, _, h.2, h'.2⟩⟩
  · exact ⟨_, _, a1_drop_xo l h1 hJ1 hxx, a2_drop_xo l h2 hJ2 hxx, fun r τ r' τ' h h' => ⟨h.1.trans h'.1.symm, _, _, _, _, _, _, _, _, _, _, _, _, h.2, h'.2⟩⟩

set_option maxHeartbeats 4000000 in
theorem ag_when (l : Launch) {D : va_G} {ca ca' : Nat → ClassId} {ad ad' : Nat → Nat} (h1 : Ij ad 34) (h2 : Ij ad' 18) {σ1 σ2 : Sg} (hR : R2 σ1 σ2) (x : Int32) (e : Int32) : ∃ P1 P2 : Int32 → Sg → Prop, C1i l D ca ad yX6_when wsX6_when { frames := 3, cells := 0, slots := 0, locals := 84 } [.ref (ad 0), .int x, .int e] σ1 P1 ∧ C2i l D ca' ad' yX7_when wsX7_when { frames := 3, cells := 0, slots := 0, locals := 70 } [.ref (ad' 0), .int x, .int e] σ2 P2 ∧ ∀ r τ r' τ', P1 r τ → P2 r' τ' → r = r' ∧ R2 τ τ' := by
  obtain ⟨n, p, g, rn, d, th, rd, sl, sn, sc, ft, tr, hJ1, hJ2⟩ := hR
  have hn5 : n ≤ 5 := hJ1.1.2.2.1
  have hrn8 : rn ≤ 8 := hJ1.2.2.1.2.1
  have hp6 : p ≤ 6 := hJ1.2.1.2.1
  rcases cl_lt x n with ⟨x, hxn, rfl⟩ | hxx
  · rcases cl_rg e 0 4 (by omega) with ⟨e, -, he4, rfl⟩ | heo
    · exact ⟨_, _, a1_when_ok l h1 hJ1 hxn he4, a2_when_ok l h2 hJ2 hxn he4, fun r τ r' τ' h h' => ⟨h.1.trans h'.1.symm, _, _, _, _, _, _, _, _, _, _, _, _, h.2, h'.2⟩⟩
    · exact ⟨_, _, a1_when_do l h1 hJ1 hxn heo, a2_when_do l h2 hJ2 hxn heo, fun r τ r' τ' h h' => ⟨h.1.trans h'.1.symm, _, _, _, _, _, _, _, _, _, _, _, _, h.2, h'.2⟩⟩
  · exact ⟨_, _, a1_when_xo l h1 hJ1 hxx, a2_when_xo l h2 hJ2 hxx, fun r τ r' τ' h h' => ⟨h.1.trans h'.1.symm, _, _, _, _, _, _, _, _, _, _, _, _, h.2, h'.2⟩⟩

set_option maxHeartbeats 4000000 in
theorem ag_tell (l : Launch) {D : va_G} {ca ca' : Nat → ClassId} {ad ad' : Nat → Nat} (h1 : Ij ad 34) (h2 : Ij ad' 18) {σ1 σ2 : Sg} (hR : R2 σ1 σ2) (x : Int32) : ∃ P1 P2 : Int32 → Sg → Prop, C1i l D ca ad yX6_tell wsX6_tell { frames := 4, cells := 0, slots := 0, locals := 85 } [.ref (ad 0), .int x] σ1 P1 ∧ C2i l D ca' ad' yX7_tell wsX7_tell { frames := 1, cells := 0, slots := 0, locals := 21 } [.ref (ad' 0), .int x] σ2 P2 ∧ ∀ r τ r' τ', P1 r τ → P2 r' τ' → r = r' ∧ R2 τ τ' := by
  obtain ⟨n, p, g, rn, d, th, rd, sl, sn, sc, ft, tr, hJ1, hJ2⟩ := hR
  have hn5 : n ≤ 5 := hJ1.1.2.2.1
  have hrn8 : rn ≤ 8 := hJ1.2.2.1.2.1
  have hp6 : p ≤ 6 := hJ1.2.1.2.1
  rcases cl_lt x n with ⟨x, hxn, rfl⟩ | hxx
  · have hth := (hJ1.1.2.2.2.2 x hxn).2.1
    rcases (show th x 0 = 0 ∨ th x 0 = 1 ∨ th x 0 = 2 by omega) with hk | hk | hk
    · exact ⟨_, _, a1_tell_k0 l h1 hJ1 hxn hk, a2_tell_k0 l h2 hJ2 hxn hk, fun r τ r' τ' h h' => ⟨h.1.trans h'.1.symm, _, _, _, _, _, _, _, _, _, _, _, _, h.2, h'.2⟩⟩
    · exact ⟨_, _, a1_tell_k1 l h1 hJ1 hxn hk, a2_tell_k1 l h2 hJ2 hxn hk, fun r τ r' τ' h h' => ⟨h.1.trans h'.1.symm, _, _, _, _, _, _, _, _, _, _, _, _, h.2, h'.2⟩⟩
    · exact ⟨_, _, a1_tell_k2 l h1 hJ1 hxn hk, a2_tell_k2 l h2 hJ2 hxn hk, fun r τ r' τ' h h' => ⟨h.1.trans h'.1.symm, _, _, _, _, _, _, _, _, _, _, _, _, h.2, h'.2⟩⟩
  · exact ⟨_, _, a1_tell_xo l h1 hJ1 hxx, a2_tell_xo l h2 hJ2 hxx, fun r τ r' τ' h h' => ⟨h.1.trans h'.1.symm, _, _, _, _, _, _, _, _, _, _, _, _, h.2, h'.2⟩⟩

set_option maxHeartbeats 4000000 in
theorem ag_splash (l : Launch) {D : va_G} {ca ca' : Nat → ClassId} {ad ad' : Nat → Nat} (h1 : Ij ad 34) (h2 : Ij ad' 18) {σ1 σ2 : Sg} (hR : R2 σ1 σ2) (x : Int32) : ∃ P1 P2 : Int32 → Sg → Prop, C1i l D ca ad yX6_splash wsX6_splash { frames := 1, cells := 0, slots := 0, locals := 21 } [.ref (ad 0), .int x] σ1 P1 ∧ C2i l D ca' ad' yX7_splash wsX7_splash { frames := 1, cells := 0, slots := 0, locals := 21 } [.ref (ad' 0), .int x] σ2 P2 ∧ ∀ r τ r' τ', P1 r τ → P2 r' τ' → r = r' ∧ R2 τ τ' := by
  obtain ⟨n, p, g, rn, d, th, rd, sl, sn, sc, ft, tr, hJ1, hJ2⟩ := hR
  have hn5 : n ≤ 5 := hJ1.1.2.2.1
  have hrn8 : rn ≤ 8 := hJ1.2.2.1.2.1
  have hp6 : p ≤ 6 := hJ1.2.1.2.1
  rcases cl_lt x n with ⟨x, hxn, rfl⟩ | hxx
  · by_cases hk : th x 0 = 2
    · exact ⟨_, _, a1_splash_k2 l h1 hJ1 hxn hk, a2_splash_k2 l h2 hJ2 hxn hk, fun r τ r' τ' h h' => ⟨h.1.trans h'.1.symm, _, _, _, _, _, _, _, _, _, _, _, _, h.2, h'.2⟩⟩
    · exact ⟨_, _, a1_splash_o l h1 hJ1 hxn hk, a2_splash_o l h2 hJ2 hxn hk, fun r τ r' τ' h h' => ⟨h.1.trans h'.1.symm, _, _, _, _, _, _, _, _, _, _, _, _, h.2, h'.2⟩⟩
  · exact ⟨_, _, a1_splash_xo l h1 hJ1 hxx, a2_splash_xo l h2 hJ2 hxx, fun r τ r' τ' h h' => ⟨h.1.trans h'.1.symm, _, _, _, _, _, _, _, _, _, _, _, _, h.2, h'.2⟩⟩

set_option maxHeartbeats 4000000 in
theorem ag_as (l : Launch) {D : va_G} {ca ca' : Nat → ClassId} {ad ad' : Nat → Nat} (h1 : Ij ad 34) (h2 : Ij ad' 18) {σ1 σ2 : Sg} (hR : R2 σ1 σ2) (x : Int32) (k : Int32) : ∃ P1 P2 : Int32 → Sg → Prop, C1i l D ca ad yX6_as wsX6_as { frames := 1, cells := 0, slots := 0, locals := 22 } [.ref (ad 0), .int x, .int k] σ1 P1 ∧ C2i l D ca' ad' yX7_as wsX7_as { frames := 1, cells := 0, slots := 0, locals := 22 } [.ref (ad' 0), .int x, .int k] σ2 P2 ∧ ∀ r τ r' τ', P1 r τ → P2 r' τ' → r = r' ∧ R2 τ τ' := by
  obtain ⟨n, p, g, rn, d, th, rd, sl, sn, sc, ft, tr, hJ1, hJ2⟩ := hR
  have hn5 : n ≤ 5 := hJ1.1.2.2.1
  have hrn8 : rn ≤ 8 := hJ1.2.2.1.2.1
  have hp6 : p ≤ 6 := hJ1.2.1.2.1
  rcases cl_lt x n with ⟨x, hxn, rfl⟩ | hxx
  · rcases cl_rg k 0 2 (by omega) with ⟨k, -, hk2, rfl⟩ | hko
    · rcases Nat.lt_or_ge (th x 0) k with hkt | hkt
      · exact ⟨_, _, a1_as_no l h1 hJ1 hxn hk2 hkt, a2_as_no l h2 hJ2 hxn hk2 hkt, fun r τ r' τ' h h' => ⟨h.1.trans h'.1.symm, _, _, _, _, _, _, _, _, _, _, _, _, h.2, h'.2⟩⟩
      · exact ⟨_, _, a1_as_y l h1 hJ1 hxn hk2 hkt, a2_as_y l h2 hJ2 hxn hk2 hkt, fun r τ r' τ' h h' => ⟨h.1.trans h'.1.symm, _, _, _, _, _, _, _, _, _, _, _, _, h.2, h'.2⟩⟩
    · exact ⟨_, _, a1_as_ko l h1 hJ1 hxn hko, a2_as_ko l h2 hJ2 hxn hko, fun r τ r' τ' h h' => ⟨h.1.trans h'.1.symm, _, _, _, _, _, _, _, _, _, _, _, _, h.2, h'.2⟩⟩
  · exact ⟨_, _, a1_as_xo l h1 hJ1 hxx, a2_as_xo l h2 hJ2 hxx, fun r τ r' τ' h h' => ⟨h.1.trans h'.1.symm, _, _, _, _, _, _, _, _, _, _, _, _, h.2, h'.2⟩⟩

set_option maxHeartbeats 4000000 in
theorem ag_reading (l : Launch) {D : va_G} {ca ca' : Nat → ClassId} {ad ad' : Nat → Nat} (h1 : Ij ad 34) (h2 : Ij ad' 18) {σ1 σ2 : Sg} (hR : R2 σ1 σ2) (x : Int32) (h : Int32) (e : Int32) : ∃ P1 P2 : Int32 → Sg → Prop, C1i l D ca ad yX6_reading wsX6_reading { frames := 2, cells := 0, slots := 0, locals := 42 } [.ref (ad 0), .int x, .int h, .int e] σ1 P1 ∧ C2i l D ca' ad' yX7_reading wsX7_reading { frames := 2, cells := 0, slots := 0, locals := 42 } [.ref (ad' 0), .int x, .int h, .int e] σ2 P2 ∧ ∀ r τ r' τ', P1 r τ → P2 r' τ' → r = r' ∧ R2 τ τ' := by
  obtain ⟨n, p, g, rn, d, th, rd, sl, sn, sc, ft, tr, hJ1, hJ2⟩ := hR
  have hn5 : n ≤ 5 := hJ1.1.2.2.1
  have hrn8 : rn ≤ 8 := hJ1.2.2.1.2.1
  have hp6 : p ≤ 6 := hJ1.2.1.2.1
  rcases cl_lt x n with ⟨x, hxn, rfl⟩ | hxx
  · by_cases hem : e = -9
    · subst hem
      rcases cl_rg h 0 23 (by omega) with ⟨h, -, hh, rfl⟩ | hho
      · rcases (show rn = 8 ∨ rn < 8 by omega) with hfu | hfu
        · exact ⟨_, _, a1_reading_fum l h1 hJ1 hxn hh hfu, a2_reading_fum l h2 hJ2 hxn hh hfu, fun r τ r' τ' h h' => ⟨h.1.trans h'.1.symm, _, _, _, _, _, _, _, _, _, _, _, _, h.2, h'.2⟩⟩
        · exact ⟨_, _, a1_reading_okm l h1 hJ1 hxn hh hfu, a2_reading_okm l h2 hJ2 hxn hh hfu, fun r τ r' τ' h h' => ⟨h.1.trans h'.1.symm, _, _, _, _, _, _, _, _, _, _, _, _, h.2, h'.2⟩⟩
      · exact ⟨_, _, a1_reading_hom l h1 hJ1 hxn hho, a2_reading_hom l h2 hJ2 hxn hho, fun r τ r' τ' h h' => ⟨h.1.trans h'.1.symm, _, _, _, _, _, _, _, _, _, _, _, _, h.2, h'.2⟩⟩
    · rcases cl_rg e 0 4 (by omega) with ⟨e, -, he4, rfl⟩ | heo
      · rcases cl_rg h 0 23 (by omega) with ⟨h, -, hh, rfl⟩ | hho
        · rcases (show rn = 8 ∨ rn < 8 by omega) with hfu | hfu
          · exact ⟨_, _, a1_reading_fue l h1 hJ1 hxn he4 hh hfu, a2_reading_fue l h2 hJ2 hxn he4 hh hfu, fun r τ r' τ' h h' => ⟨h.1.trans h'.1.symm, _, _, _, _, _, _, _, _, _, _, _, _, h.2, h'.2⟩⟩
          · exact ⟨_, _, a1_reading_oke l h1 hJ1 hxn he4 hh hfu, a2_reading_oke l h2 hJ2 hxn he4 hh hfu, fun r τ r' τ' h h' => ⟨h.1.trans h'.1.symm, _, _, _, _, _, _, _, _, _, _, _, _, h.2, h'.2⟩⟩
        · exact ⟨_, _, a1_reading_hoe l h1 hJ1 hxn he4 hho, a2_reading_hoe l h2 hJ2 hxn he4 hho, fun r τ r' τ' h h' => ⟨h.1.trans h'.1.symm, _, _, _, _, _, _, _, _, _, _, _, _, h.2, h'.2⟩⟩
      · exact ⟨_, _, a1_reading_do l h1 hJ1 hxn heo hem, a2_reading_do l h2 hJ2 hxn heo hem, fun r τ r' τ' h h' => ⟨h.1.trans h'.1.symm, _, _, _, _, _, _, _, _, _, _, _, _, h.2, h'.2⟩⟩
  · exact ⟨_, _, a1_reading_xo l h1 hJ1 hxx, a2_reading_xo l h2 hJ2 hxx, fun r τ r' τ' h h' => ⟨h.1.trans h'.1.symm, _, _, _, _, _, _, _, _, _, _, _, _, h.2, h'.2⟩⟩

set_option maxHeartbeats 4000000 in
theorem ag_back (l : Launch) {D : va_G} {ca ca' : Nat → ClassId} {ad ad' : Nat → Nat} (h1 : Ij ad 34) (h2 : Ij ad' 18) {σ1 σ2 : Sg} (hR : R2 σ1 σ2) (k : Int32) : ∃ P1 P2 : Int32 → Sg → Prop, C1i l D ca ad yX6_back wsX6_back { frames := 1, cells := 0, slots := 0, locals := 22 } [.ref (ad 0), .int k] σ1 P1 ∧ C2i l D ca' ad' yX7_back wsX7_back { frames := 1, cells := 0, slots := 0, locals := 22 } [.ref (ad' 0), .int k] σ2 P2 ∧ ∀ r τ r' τ', P1 r τ → P2 r' τ' → r = r' ∧ R2 τ τ' := by
  obtain ⟨n, p, g, rn, d, th, rd, sl, sn, sc, ft, tr, hJ1, hJ2⟩ := hR
  have hn5 : n ≤ 5 := hJ1.1.2.2.1
  have hrn8 : rn ≤ 8 := hJ1.2.2.1.2.1
  have hp6 : p ≤ 6 := hJ1.2.1.2.1
  rcases cl_rg k 0 rn (by omega) with ⟨k, -, hkr, rfl⟩ | hko
  · exact ⟨_, _, a1_back_ok l h1 hJ1 hkr, a2_back_ok l h2 hJ2 hkr, fun r τ r' τ' h h' => ⟨h.1.trans h'.1.symm, _, _, _, _, _, _, _, _, _, _, _, _, h.2, h'.2⟩⟩
  · exact ⟨_, _, a1_back_ko l h1 hJ1 hko, a2_back_ko l h2 hJ2 hko, fun r τ r' τ' h h' => ⟨h.1.trans h'.1.symm, _, _, _, _, _, _, _, _, _, _, _, _, h.2, h'.2⟩⟩

set_option maxHeartbeats 4000000 in
theorem ag_hands (l : Launch) {D : va_G} {ca ca' : Nat → ClassId} {ad ad' : Nat → Nat} (h1 : Ij ad 34) (h2 : Ij ad' 18) {σ1 σ2 : Sg} (hR : R2 σ1 σ2) (x : Int32) (k : Int32) : ∃ P1 P2 : Int32 → Sg → Prop, C1i l D ca ad yX6_hands wsX6_hands { frames := 3, cells := 0, slots := 0, locals := 84 } [.ref (ad 0), .int x, .int k] σ1 P1 ∧ C2i l D ca' ad' yX7_hands wsX7_hands { frames := 3, cells := 0, slots := 0, locals := 73 } [.ref (ad' 0), .int x, .int k] σ2 P2 ∧ ∀ r τ r' τ', P1 r τ → P2 r' τ' → r = r' ∧ R2 τ τ' := by
  obtain ⟨n, p, g, rn, d, th, rd, sl, sn, sc, ft, tr, hJ1, hJ2⟩ := hR
  have hn5 : n ≤ 5 := hJ1.1.2.2.1
  have hrn8 : rn ≤ 8 := hJ1.2.2.1.2.1
  have hp6 : p ≤ 6 := hJ1.2.1.2.1
  rcases cl_lt x n with ⟨x, hxn, rfl⟩ | hxx
  · rcases cl_rg k 0 30 (by omega) with ⟨k, -, hk30, rfl⟩ | hko
    · exact ⟨_, _, a1_hands_ok l h1 hJ1 hxn hk30, a2_hands_ok l h2 hJ2 hxn hk30, fun r τ r' τ' h h' => ⟨h.1.trans h'.1.symm, _, _, _, _, _, _, _, _, _, _, _, _, h.2, h'.2⟩⟩
    · exact ⟨_, _, a1_hands_ko l h1 hJ1 hxn hko, a2_hands_ko l h2 hJ2 hxn hko, fun r τ r' τ' h h' => ⟨h.1.trans h'.1.symm, _, _, _, _, _, _, _, _, _, _, _, _, h.2, h'.2⟩⟩
  · exact ⟨_, _, a1_hands_xo l h1 hJ1 hxx, a2_hands_xo l h2 hJ2 hxx, fun r τ r' τ' h h' => ⟨h.1.trans h'.1.symm, _, _, _, _, _, _, _, _, _, _, _, _, h.2, h'.2⟩⟩

set_option maxHeartbeats 4000000 in
theorem ag_home (l : Launch) {D : va_G} {ca ca' : Nat → ClassId} {ad ad' : Nat → Nat} (h1 : Ij ad 34) (h2 : Ij ad' 18) {σ1 σ2 : Sg} (hR : R2 σ1 σ2) (x : Int32) : ∃ P1 P2 : Int32 → Sg → Prop, C1i l D ca ad yX6_home wsX6_home { frames := 3, cells := 0, slots := 0, locals := 84 } [.ref (ad 0), .int x] σ1 P1 ∧ C2i l D ca' ad' yX7_home wsX7_home { frames := 3, cells := 0, slots := 0, locals := 73 } [.ref (ad' 0), .int x] σ2 P2 ∧ ∀ r τ r' τ', P1 r τ → P2 r' τ' → r = r' ∧ R2 τ τ' := by
  obtain ⟨n, p, g, rn, d, th, rd, sl, sn, sc, ft, tr, hJ1, hJ2⟩ := hR
  have hn5 : n ≤ 5 := hJ1.1.2.2.1
  have hrn8 : rn ≤ 8 := hJ1.2.2.1.2.1
  have hp6 : p ≤ 6 := hJ1.2.1.2.1
  rcases cl_lt x n with ⟨x, hxn, rfl⟩ | hxx
  · exact ⟨_, _, a1_home_ok l h1 hJ1 hxn, a2_home_ok l h2 hJ2 hxn, fun r τ r' τ' h h' => ⟨h.1.trans h'.1.symm, _, _, _, _, _, _, _, _, _, _, _, _, h.2, h'.2⟩⟩
  · exact ⟨_, _, a1_home_xo l h1 hJ1 hxx, a2_home_xo l h2 hJ2 hxx, fun r τ r' τ' h h' => ⟨h.1.trans h'.1.symm, _, _, _, _, _, _, _, _, _, _, _, _, h.2, h'.2⟩⟩

set_option maxHeartbeats 4000000 in
theorem ag_meets (l : Launch) {D : va_G} {ca ca' : Nat → ClassId} {ad ad' : Nat → Nat} (h1 : Ij ad 34) (h2 : Ij ad' 18) {σ1 σ2 : Sg} (hR : R2 σ1 σ2) (x : Int32) : ∃ P1 P2 : Int32 → Sg → Prop, C1i l D ca ad yX6_meets wsX6_meets { frames := 3, cells := 0, slots := 0, locals := 84 } [.ref (ad 0), .int x] σ1 P1 ∧ C2i l D ca' ad' yX7_meets wsX7_meets { frames := 3, cells := 0, slots := 0, locals := 73 } [.ref (ad' 0), .int x] σ2 P2 ∧ ∀ r τ r' τ', P1 r τ → P2 r' τ' → r = r' ∧ R2 τ τ' := by
  obtain ⟨n, p, g, rn, d, th, rd, sl, sn, sc, ft, tr, hJ1, hJ2⟩ := hR
  have hn5 : n ≤ 5 := hJ1.1.2.2.1
  have hrn8 : rn ≤ 8 := hJ1.2.2.1.2.1
  have hp6 : p ≤ 6 := hJ1.2.1.2.1
  rcases cl_lt x n with ⟨x, hxn, rfl⟩ | hxx
  · exact ⟨_, _, a1_meets_ok l h1 hJ1 hxn, a2_meets_ok l h2 hJ2 hxn, fun r τ r' τ' h h' => ⟨h.1.trans h'.1.symm, _, _, _, _, _, _, _, _, _, _, _, _, h.2, h'.2⟩⟩
  · exact ⟨_, _, a1_meets_xo l h1 hJ1 hxx, a2_meets_xo l h2 hJ2 hxx, fun r τ r' τ' h h' => ⟨h.1.trans h'.1.symm, _, _, _, _, _, _, _, _, _, _, _, _, h.2, h'.2⟩⟩

set_option maxHeartbeats 4000000 in
theorem ag_weights (l : Launch) {D : va_G} {ca ca' : Nat → ClassId} {ad ad' : Nat → Nat} (h1 : Ij ad 34) (h2 : Ij ad' 18) {σ1 σ2 : Sg} (hR : R2 σ1 σ2) (x : Int32) : ∃ P1 P2 : Int32 → Sg → Prop, C1i l D ca ad yX6_weights wsX6_weights { frames := 4, cells := 0, slots := 0, locals := 97 } [.ref (ad 0), .int x] σ1 P1 ∧ C2i l D ca' ad' yX7_weights wsX7_weights { frames := 4, cells := 0, slots := 0, locals := 91 } [.ref (ad' 0), .int x] σ2 P2 ∧ ∀ r τ r' τ', P1 r τ → P2 r' τ' → r = r' ∧ R2 τ τ' := by
  obtain ⟨n, p, g, rn, d, th, rd, sl, sn, sc, ft, tr, hJ1, hJ2⟩ := hR
  have hn5 : n ≤ 5 := hJ1.1.2.2.1
  have hrn8 : rn ≤ 8 := hJ1.2.2.1.2.1
  have hp6 : p ≤ 6 := hJ1.2.1.2.1
  rcases cl_lt x n with ⟨x, hxn, rfl⟩ | hxx
  · exact ⟨_, _, a1_weights_ok l h1 hJ1 hxn, a2_weights_ok l h2 hJ2 hxn, fun r τ r' τ' h h' => ⟨h.1.trans h'.1.symm, _, _, _, _, _, _, _, _, _, _, _, _, h.2, h'.2⟩⟩
  · exact ⟨_, _, a1_weights_xo l h1 hJ1 hxx, a2_weights_xo l h2 hJ2 hxx, fun r τ r' τ' h h' => ⟨h.1.trans h'.1.symm, _, _, _, _, _, _, _, _, _, _, _, _, h.2, h'.2⟩⟩

set_option maxHeartbeats 4000000 in
theorem ag_kinds (l : Launch) {D : va_G} {ca ca' : Nat → ClassId} {ad ad' : Nat → Nat} (h1 : Ij ad 34) (h2 : Ij ad' 18) {σ1 σ2 : Sg} (hR : R2 σ1 σ2) (x : Int32) : ∃ P1 P2 : Int32 → Sg → Prop, C1i l D ca ad yX6_kinds wsX6_kinds { frames := 4, cells := 0, slots := 0, locals := 97 } [.ref (ad 0), .int x] σ1 P1 ∧ C2i l D ca' ad' yX7_kinds wsX7_kinds { frames := 4, cells := 0, slots := 0, locals := 91 } [.ref (ad' 0), .int x] σ2 P2 ∧ ∀ r τ r' τ', P1 r τ → P2 r' τ' → r = r' ∧ R2 τ τ' := by
  obtain ⟨n, p, g, rn, d, th, rd, sl, sn, sc, ft, tr, hJ1, hJ2⟩ := hR
  have hn5 : n ≤ 5 := hJ1.1.2.2.1
  have hrn8 : rn ≤ 8 := hJ1.2.2.1.2.1
  have hp6 : p ≤ 6 := hJ1.2.1.2.1
  rcases cl_lt x n with ⟨x, hxn, rfl⟩ | hxx
  · exact ⟨_, _, a1_kinds_ok l h1 hJ1 hxn, a2_kinds_ok l h2 hJ2 hxn, fun r τ r' τ' h h' => ⟨h.1.trans h'.1.symm, _, _, _, _, _, _, _, _, _, _, _, _, h.2, h'.2⟩⟩
  · exact ⟨_, _, a1_kinds_xo l h1 hJ1 hxx, a2_kinds_xo l h2 hJ2 hxx, fun r τ r' τ' h h' => ⟨h.1.trans h'.1.symm, _, _, _, _, _, _, _, _, _, _, _, _, h.2, h'.2⟩⟩

set_option maxHeartbeats 4000000 in
theorem ag_depths (l : Launch) {D : va_G} {ca ca' : Nat → ClassId} {ad ad' : Nat → Nat} (h1 : Ij ad 34) (h2 : Ij ad' 18) {σ1 σ2 : Sg} (hR : R2 σ1 σ2) : ∃ P1 P2 : Int32 → Sg → Prop, C1i l D ca ad yX6_depths wsX6_depths { frames := 4, cells := 0, slots := 0, locals := 97 } [.ref (ad 0)] σ1 P1 ∧ C2i l D ca' ad' yX7_depths wsX7_depths { frames := 4, cells := 0, slots := 0, locals := 91 } [.ref (ad' 0)] σ2 P2 ∧ ∀ r τ r' τ', P1 r τ → P2 r' τ' → r = r' ∧ R2 τ τ' := by
  obtain ⟨n, p, g, rn, d, th, rd, sl, sn, sc, ft, tr, hJ1, hJ2⟩ := hR
  have hn5 : n ≤ 5 := hJ1.1.2.2.1
  have hrn8 : rn ≤ 8 := hJ1.2.2.1.2.1
  have hp6 : p ≤ 6 := hJ1.2.1.2.1
  rcases Nat.eq_zero_or_pos n with hn0 | hn0
  · exact ⟨_, _, a1_depths_no l h1 hJ1 hn0, a2_depths_no l h2 hJ2 hn0, fun r τ r' τ' h h' => ⟨h.1.trans h'.1.symm, _, _, _, _, _, _, _, _, _, _, _, _, h.2, h'.2⟩⟩
  · exact ⟨_, _, a1_depths_ok l h1 hJ1 hn0, a2_depths_ok l h2 hJ2 hn0, fun r τ r' τ' h h' => ⟨h.1.trans h'.1.symm, _, _, _, _, _, _, _, _, _, _, _, _, h.2, h'.2⟩⟩

set_option maxHeartbeats 4000000 in
theorem ag_odds (l : Launch) {D : va_G} {ca ca' : Nat → ClassId} {ad ad' : Nat → Nat} (h1 : Ij ad 34) (h2 : Ij ad' 18) {σ1 σ2 : Sg} (hR : R2 σ1 σ2) (x : Int32) (w : Int32) : ∃ P1 P2 : Int64 → Sg → Prop, C1l l D ca ad yX6_odds wsX6_odds { frames := 4, cells := 0, slots := 0, locals := 107 } [.ref (ad 0), .int x, .int w] σ1 P1 ∧ C2l l D ca' ad' yX7_odds wsX7_odds { frames := 3, cells := 0, slots := 0, locals := 70 } [.ref (ad' 0), .int x, .int w] σ2 P2 ∧ ∀ r τ r' τ', P1 r τ → P2 r' τ' → r = r' ∧ R2 τ τ' := by
  obtain ⟨n, p, g, rn, d, th, rd, sl, sn, sc, ft, tr, hJ1, hJ2⟩ := hR
  have hn5 : n ≤ 5 := hJ1.1.2.2.1
  have hrn8 : rn ≤ 8 := hJ1.2.2.1.2.1
  have hp6 : p ≤ 6 := hJ1.2.1.2.1
  rcases cl_lt x n with ⟨x, hxn, rfl⟩ | hxx
  · rcases cl_rg w 0 1 (by omega) with ⟨w, -, hw2, rfl⟩ | hwo
    · rcases (show w = 0 ∨ w = 1 by omega) with rfl | rfl
      · exact ⟨_, _, a1_odds_0 l h1 hJ1 hxn, a2_odds_0 l h2 hJ2 hxn, fun r τ r' τ' h h' => ⟨h.1.trans h'.1.symm, _, _, _, _, _, _, _, _, _, _, _, _, h.2, h'.2⟩⟩
      · exact ⟨_, _, a1_odds_1 l h1 hJ1 hxn, a2_odds_1 l h2 hJ2 hxn, fun r τ r' τ' h h' => ⟨h.1.trans h'.1.symm, _, _, _, _, _, _, _, _, _, _, _, _, h.2, h'.2⟩⟩
    · exact ⟨_, _, a1_odds_wo l h1 hJ1 hxn hwo, a2_odds_wo l h2 hJ2 hxn hwo, fun r τ r' τ' h h' => ⟨h.1.trans h'.1.symm, _, _, _, _, _, _, _, _, _, _, _, _, h.2, h'.2⟩⟩
  · exact ⟨_, _, a1_odds_xo l h1 hJ1 hxx, a2_odds_xo l h2 hJ2 hxx, fun r τ r' τ' h h' => ⟨h.1.trans h'.1.symm, _, _, _, _, _, _, _, _, _, _, _, _, h.2, h'.2⟩⟩

set_option maxHeartbeats 4000000 in
theorem ag_sheet (l : Launch) {D : va_G} {ca ca' : Nat → ClassId} {ad ad' : Nat → Nat} (h1 : Ij ad 34) (h2 : Ij ad' 18) {σ1 σ2 : Sg} (hR : R2 σ1 σ2) (k : Int32) (w : Int32) (m : Int32) : ∃ P1 P2 : Int32 → Sg → Prop, C1i l D ca ad yX6_sheet wsX6_sheet { frames := 1, cells := 0, slots := 0, locals := 23 } [.ref (ad 0), .int k, .int w, .int m] σ1 P1 ∧ C2i l D ca' ad' yX7_sheet wsX7_sheet { frames := 2, cells := 0, slots := 0, locals := 42 } [.ref (ad' 0), .int k, .int w, .int m] σ2 P2 ∧ ∀ r τ r' τ', P1 r τ → P2 r' τ' → r = r' ∧ R2 τ τ' := by
  obtain ⟨n, p, g, rn, d, th, rd, sl, sn, sc, ft, tr, hJ1, hJ2⟩ := hR
  have hn5 : n ≤ 5 := hJ1.1.2.2.1
  have hrn8 : rn ≤ 8 := hJ1.2.2.1.2.1
  have hp6 : p ≤ 6 := hJ1.2.1.2.1
  rcases cl_lt k 4 with ⟨k, hk4, rfl⟩ | hko
  · have hL4 : sl k ≤ 3 := (hJ1.2.2.2.1 k hk4).2.1
    rcases cl_rg w 0 2 (by omega) with ⟨w, -, hw2, rfl⟩ | hwo
    · by_cases hmo : nI 60 < m
      · exact ⟨_, _, a1_sheet_mo l h1 hJ1 hk4 hw2 hmo, a2_sheet_mo l h2 hJ2 hk4 hw2 hmo, fun r τ r' τ' h h' => ⟨h.1.trans h'.1.symm, _, _, _, _, _, _, _, _, _, _, _, _, h.2, h'.2⟩⟩
      · by_cases hm0 : m < 0
        · exact ⟨_, _, a1_sheet_ne l h1 hJ1 hk4 hw2 hm0, a2_sheet_ne l h2 hJ2 hk4 hw2 hm0, fun r τ r' τ' h h' => ⟨h.1.trans h'.1.symm, _, _, _, _, _, _, _, _, _, _, _, _, h.2, h'.2⟩⟩
        · obtain ⟨m, hmb, rfl⟩ := nI_of hm0
          have hm6 : m ≤ 60 := le_60 hmo hmb
          exact ⟨_, _, a1_sheet_ok l h1 hJ1 hk4 hw2 hm6, a2_sheet_ok l h2 hJ2 hk4 hw2 hm6, fun r τ r' τ' h h' => ⟨h.1.trans h'.1.symm, _, _, _, _, _, _, _, _, _, _, _, _, h.2, h'.2⟩⟩
    · exact ⟨_, _, a1_sheet_lo l h1 hJ1 hk4 hwo, a2_sheet_lo l h2 hJ2 hk4 hwo, fun r τ r' τ' h h' => ⟨h.1.trans h'.1.symm, _, _, _, _, _, _, _, _, _, _, _, _, h.2, h'.2⟩⟩
  · exact ⟨_, _, a1_sheet_so l h1 hJ1 hko, a2_sheet_so l h2 hJ2 hko, fun r τ r' τ' h h' => ⟨h.1.trans h'.1.symm, _, _, _, _, _, _, _, _, _, _, _, _, h.2, h'.2⟩⟩

set_option maxHeartbeats 4000000 in
theorem ag_lose (l : Launch) {D : va_G} {ca ca' : Nat → ClassId} {ad ad' : Nat → Nat} (h1 : Ij ad 34) (h2 : Ij ad' 18) {σ1 σ2 : Sg} (hR : R2 σ1 σ2) (k : Int32) : ∃ P1 P2 : Int32 → Sg → Prop, C1i l D ca ad yX6_lose wsX6_lose { frames := 1, cells := 0, slots := 0, locals := 21 } [.ref (ad 0), .int k] σ1 P1 ∧ C2i l D ca' ad' yX7_lose wsX7_lose { frames := 2, cells := 0, slots := 0, locals := 42 } [.ref (ad' 0), .int k] σ2 P2 ∧ ∀ r τ r' τ', P1 r τ → P2 r' τ' → r = r' ∧ R2 τ τ' := by
  obtain ⟨n, p, g, rn, d, th, rd, sl, sn, sc, ft, tr, hJ1, hJ2⟩ := hR
  have hn5 : n ≤ 5 := hJ1.1.2.2.1
  have hrn8 : rn ≤ 8 := hJ1.2.2.1.2.1
  have hp6 : p ≤ 6 := hJ1.2.1.2.1
  rcases cl_lt k 4 with ⟨k, hk4, rfl⟩ | hko
  · have hL4 : sl k ≤ 3 := (hJ1.2.2.2.1 k hk4).2.1
    rcases (show sl k < 3 ∨ sl k = 3 by omega) with hL | hL3
    · exact ⟨_, _, a1_lose_y l h1 hJ1 hk4 hL, a2_lose_y l h2 hJ2 hk4 hL, fun r τ r' τ' h h' => ⟨h.1.trans h'.1.symm, _, _, _, _, _, _, _, _, _, _, _, _, h.2, h'.2⟩⟩
    · exact ⟨_, _, a1_lose_no l h1 hJ1 hk4 hL3, a2_lose_no l h2 hJ2 hk4 hL3, fun r τ r' τ' h h' => ⟨h.1.trans h'.1.symm, _, _, _, _, _, _, _, _, _, _, _, _, h.2, h'.2⟩⟩
  · exact ⟨_, _, a1_lose_so l h1 hJ1 hko, a2_lose_so l h2 hJ2 hko, fun r τ r' τ' h h' => ⟨h.1.trans h'.1.symm, _, _, _, _, _, _, _, _, _, _, _, _, h.2, h'.2⟩⟩

set_option maxHeartbeats 4000000 in
theorem ag_put (l : Launch) {D : va_G} {ca ca' : Nat → ClassId} {ad ad' : Nat → Nat} (h1 : Ij ad 34) (h2 : Ij ad' 18) {σ1 σ2 : Sg} (hR : R2 σ1 σ2) (k : Int32) (j : Int32) (v : Int32) : ∃ P1 P2 : Int32 → Sg → Prop, C1i l D ca ad yX6_put wsX6_put { frames := 2, cells := 0, slots := 0, locals := 43 } [.ref (ad 0), .int k, .int j, .int v] σ1 P1 ∧ C2i l D ca' ad' yX7_put wsX7_put { frames := 2, cells := 0, slots := 0, locals := 42 } [.ref (ad' 0), .int k, .int j, .int v] σ2 P2 ∧ ∀ r τ r' τ', P1 r τ → P2 r' τ' → r = r' ∧ R2 τ τ' := by
  obtain ⟨n, p, g, rn, d, th, rd, sl, sn, sc, ft, tr, hJ1, hJ2⟩ := hR
  have hn5 : n ≤ 5 := hJ1.1.2.2.1
  have hrn8 : rn ≤ 8 := hJ1.2.2.1.2.1
  have hp6 : p ≤ 6 := hJ1.2.1.2.1
  rcases cl_lt k 4 with ⟨k, hk4, rfl⟩ | hko
  · have hL4 : sl k ≤ 3 := (hJ1.2.2.2.1 k hk4).2.1
    rcases (show sl k < 3 ∨ sl k = 3 by omega) with hL | hL3
    · rcases cl_lt j (sn k) with ⟨j, hjn, rfl⟩ | hjo
      · exact ⟨_, _, a1_put_ok l h1 hJ1 hk4 hL hjn, a2_put_ok l h2 hJ2 hk4 hL hjn, fun r τ r' τ' h h' => ⟨h.1.trans h'.1.symm, _, _, _, _, _, _, _, _, _, _, _, _, h.2, h'.2⟩⟩
      · exact ⟨_, _, a1_put_io l h1 hJ1 hk4 hL hjo, a2_put_io l h2 hJ2 hk4 hL hjo, fun r τ r' τ' h h' => ⟨h.1.trans h'.1.symm, _, _, _, _, _, _, _, _, _, _, _, _, h.2, h'.2⟩⟩
    · exact ⟨_, _, a1_put_nu l h1 hJ1 hk4 hL3, a2_put_nu l h2 hJ2 hk4 hL3, fun r τ r' τ' h h' => ⟨h.1.trans h'.1.symm, _, _, _, _, _, _, _, _, _, _, _, _, h.2, h'.2⟩⟩
  · exact ⟨_, _, a1_put_so l h1 hJ1 hko, a2_put_so l h2 hJ2 hko, fun r τ r' τ' h h' => ⟨h.1.trans h'.1.symm, _, _, _, _, _, _, _, _, _, _, _, _, h.2, h'.2⟩⟩

set_option maxHeartbeats 4000000 in
theorem ag_cell (l : Launch) {D : va_G} {ca ca' : Nat → ClassId} {ad ad' : Nat → Nat} (h1 : Ij ad 34) (h2 : Ij ad' 18) {σ1 σ2 : Sg} (hR : R2 σ1 σ2) (k : Int32) (j : Int32) (w : Int32) : ∃ P1 P2 : Int64 → Sg → Prop, C1l l D ca ad yX6_cell wsX6_cell { frames := 2, cells := 0, slots := 0, locals := 42 } [.ref (ad 0), .int k, .int j, .int w] σ1 P1 ∧ C2l l D ca' ad' yX7_cell wsX7_cell { frames := 2, cells := 0, slots := 0, locals := 42 } [.ref (ad' 0), .int k, .int j, .int w] σ2 P2 ∧ ∀ r τ r' τ', P1 r τ → P2 r' τ' → r = r' ∧ R2 τ τ' := by
  obtain ⟨n, p, g, rn, d, th, rd, sl, sn, sc, ft, tr, hJ1, hJ2⟩ := hR
  have hn5 : n ≤ 5 := hJ1.1.2.2.1
  have hrn8 : rn ≤ 8 := hJ1.2.2.1.2.1
  have hp6 : p ≤ 6 := hJ1.2.1.2.1
  rcases cl_lt k 4 with ⟨k, hk4, rfl⟩ | hko
  · have hL4 : sl k ≤ 3 := (hJ1.2.2.2.1 k hk4).2.1
    rcases cl_rg w 0 2 (by omega) with ⟨w, -, hw2, rfl⟩ | hwo
    · by_cases hf : fL (sl k) w ≠ 0
      · exact ⟨_, _, a1_cell_fl l h1 hJ1 hk4 hw2 hf, a2_cell_fl l h2 hJ2 hk4 hw2 hf, fun r τ r' τ' h h' => ⟨h.1.trans h'.1.symm, _, _, _, _, _, _, _, _, _, _, _, _, h.2, h'.2⟩⟩
      · have hLw := fL_0 hf
        rcases cl_lt j (sn k) with ⟨j, hjn, rfl⟩ | hjo
        · exact ⟨_, _, a1_cell_ok l h1 hJ1 hk4 hw2 hLw hjn, a2_cell_ok l h2 hJ2 hk4 hw2 hLw hjn, fun r τ r' τ' h h' => ⟨h.1.trans h'.1.symm, _, _, _, _, _, _, _, _, _, _, _, _, h.2, h'.2⟩⟩
        · exact ⟨_, _, a1_cell_io l h1 hJ1 hk4 hw2 hLw hjo, a2_cell_io l h2 hJ2 hk4 hw2 hLw hjo, fun r τ r' τ' h h' => ⟨h.1.trans h'.1.symm, _, _, _, _, _, _, _, _, _, _, _, _, h.2, h'.2⟩⟩
    · exact ⟨_, _, a1_cell_lo l h1 hJ1 hk4 hwo, a2_cell_lo l h2 hJ2 hk4 hwo, fun r τ r' τ' h h' => ⟨h.1.trans h'.1.symm, _, _, _, _, _, _, _, _, _, _, _, _, h.2, h'.2⟩⟩
  · exact ⟨_, _, a1_cell_so l h1 hJ1 hko, a2_cell_so l h2 hJ2 hko, fun r τ r' τ' h h' => ⟨h.1.trans h'.1.symm, _, _, _, _, _, _, _, _, _, _, _, _, h.2, h'.2⟩⟩

set_option maxHeartbeats 4000000 in
theorem ag_copy (l : Launch) {D : va_G} {ca ca' : Nat → ClassId} {ad ad' : Nat → Nat} (h1 : Ij ad 34) (h2 : Ij ad' 18) {σ1 σ2 : Sg} (hR : R2 σ1 σ2) (k : Int32) (a : Int32) (o : Int32) (b : Int32) (m : Int32) : ∃ P1 P2 : Int32 → Sg → Prop, C1i l D ca ad yX6_copy wsX6_copy { frames := 1, cells := 0, slots := 0, locals := 40 } [.ref (ad 0), .int k, .int a, .int o, .int b, .int m] σ1 P1 ∧ C2i l D ca' ad' yX7_copy wsX7_copy { frames := 2, cells := 0, slots := 0, locals := 42 } [.ref (ad' 0), .int k, .int a, .int o, .int b, .int m] σ2 P2 ∧ ∀ r τ r' τ', P1 r τ → P2 r' τ' → r = r' ∧ R2 τ τ' := by
  obtain ⟨n, p, g, rn, d, th, rd, sl, sn, sc, ft, tr, hJ1, hJ2⟩ := hR
  have hn5 : n ≤ 5 := hJ1.1.2.2.1
  have hrn8 : rn ≤ 8 := hJ1.2.2.1.2.1
  have hp6 : p ≤ 6 := hJ1.2.1.2.1
  rcases cl_lt k 4 with ⟨k, hk4, rfl⟩ | hko
  · rcases cl_lt o 4 with ⟨o, ho4, rfl⟩ | hoo
    · have hL4 : sl k ≤ 3 := (hJ1.2.2.2.1 k hk4).2.1
      have hM4 : sl o ≤ 3 := (hJ1.2.2.2.1 o ho4).2.1
      rcases (show sl k < 3 ∨ sl k = 3 by omega) with hL | hL3
      · rcases (show sl o < 3 ∨ sl o = 3 by omega) with hM | hM3
        · by_cases heq : sl k = sl o
          · have hk60 := ((hJ1.2.2.2.1 k hk4).2.2 hL).2.1
            have ho60 := ((hJ1.2.2.2.1 o ho4).2.2 hM).2.1
            by_cases hz : ∃ u v, u + v ≤ sn k ∧ a = nI u ∧ m = nI v
            · obtain ⟨a, m, ham, rfl, rfl⟩ := hz
              by_cases hz : ∃ u, u + m ≤ sn o ∧ b = nI u
              · obtain ⟨b, hbm, rfl⟩ := hz
                exact ⟨_, _, a1_copy_ok l h1 hJ1 hk4 ho4 hL hM heq ham hbm, a2_copy_ok l h2 hJ2 hk4 ho4 hL hM heq ham hbm, fun r τ r' τ' h h' => ⟨h.1.trans h'.1.symm, _, _, _, _, _, _, _, _, _, _, _, _, h.2, h'.2⟩⟩
              · exact ⟨_, _, a1_copy_i2 l h1 hJ1 hk4 ho4 hL hM heq ham (fun u v hu e => hz ⟨u, by have := (nI_eq (by omega) (by omega)).mp e.2; omega, e.1⟩), a2_copy_i2 l h2 hJ2 hk4 ho4 hL hM heq ham (fun u v hu e => hz ⟨u, by have := (nI_eq (by omega) (by omega)).mp e.2; omega, e.1⟩), fun r τ r' τ' h h' => ⟨h.1.trans h'.1.symm, _, _, _, _, _, _, _, _, _, _, _, _, h.2, h'.2⟩⟩
            · exact ⟨_, _, a1_copy_i1 l h1 hJ1 hk4 ho4 hL hM heq (fun u v hu e => hz ⟨u, v, hu, e.1, e.2⟩), a2_copy_i1 l h2 hJ2 hk4 ho4 hL hM heq (fun u v hu e => hz ⟨u, v, hu, e.1, e.2⟩), fun r τ r' τ' h h' => ⟨h.1.trans h'.1.symm, _, _, _, _, _, _, _, _, _, _, _, _, h.2, h'.2⟩⟩
          · exact ⟨_, _, a1_copy_un l h1 hJ1 hk4 ho4 hL hM heq, a2_copy_un l h2 hJ2 hk4 ho4 hL hM heq, fun r τ r' τ' h h' => ⟨h.1.trans h'.1.symm, _, _, _, _, _, _, _, _, _, _, _, _, h.2, h'.2⟩⟩
        · exact ⟨_, _, a1_copy_on l h1 hJ1 hk4 ho4 hL hM3, a2_copy_on l h2 hJ2 hk4 ho4 hL hM3, fun r τ r' τ' h h' => ⟨h.1.trans h'.1.symm, _, _, _, _, _, _, _, _, _, _, _, _, h.2, h'.2⟩⟩
      · exact ⟨_, _, a1_copy_kn l h1 hJ1 hk4 ho4 hL3, a2_copy_kn l h2 hJ2 hk4 ho4 hL3, fun r τ r' τ' h h' => ⟨h.1.trans h'.1.symm, _, _, _, _, _, _, _, _, _, _, _, _, h.2, h'.2⟩⟩
    · exact ⟨_, _, a1_copy_oo l h1 hJ1 hk4 hoo, a2_copy_oo l h2 hJ2 hk4 hoo, fun r τ r' τ' h h' => ⟨h.1.trans h'.1.symm, _, _, _, _, _, _, _, _, _, _, _, _, h.2, h'.2⟩⟩
  · rcases cl_lt o 4 with ⟨o, ho4, rfl⟩ | hoo
    · exact ⟨_, _, a1_copy_ki l h1 hJ1 hko ho4, a2_copy_ki l h2 hJ2 hko ho4, fun r τ r' τ' h h' => ⟨h.1.trans h'.1.symm, _, _, _, _, _, _, _, _, _, _, _, _, h.2, h'.2⟩⟩
    · exact ⟨_, _, a1_copy_ko l h1 hJ1 hko hoo, a2_copy_ko l h2 hJ2 hko hoo, fun r τ r' τ' h h' => ⟨h.1.trans h'.1.symm, _, _, _, _, _, _, _, _, _, _, _, _, h.2, h'.2⟩⟩

set_option maxHeartbeats 4000000 in
theorem ag_well (l : Launch) {D : va_G} {ca ca' : Nat → ClassId} {ad ad' : Nat → Nat} (h1 : Ij ad 34) (h2 : Ij ad' 18) {σ1 σ2 : Sg} (hR : R2 σ1 σ2) (k : Int32) (w : Int32) (a : Int32) (m : Int32) : ∃ P1 P2 : Int32 → Sg → Prop, C1i l D ca ad yX6_well wsX6_well { frames := 5, cells := 0, slots := 0, locals := 111 } [.ref (ad 0), .int k, .int w, .int a, .int m] σ1 P1 ∧ C2i l D ca' ad' yX7_well wsX7_well { frames := 4, cells := 0, slots := 0, locals := 89 } [.ref (ad' 0), .int k, .int w, .int a, .int m] σ2 P2 ∧ ∀ r τ r' τ', P1 r τ → P2 r' τ' → r = r' ∧ R2 τ τ' := by
  obtain ⟨n, p, g, rn, d, th, rd, sl, sn, sc, ft, tr, hJ1, hJ2⟩ := hR
  have hn5 : n ≤ 5 := hJ1.1.2.2.1
  have hrn8 : rn ≤ 8 := hJ1.2.2.1.2.1
  have hp6 : p ≤ 6 := hJ1.2.1.2.1
  rcases cl_lt k 4 with ⟨k, hk4, rfl⟩ | hko
  · have hL4 : sl k ≤ 3 := (hJ1.2.2.2.1 k hk4).2.1
    rcases cl_rg w 0 2 (by omega) with ⟨w, -, hw2, rfl⟩ | hwo
    · by_cases hf : fL (sl k) w ≠ 0
      · exact ⟨_, _, a1_well_fl l h1 hJ1 hk4 hw2 hf, a2_well_fl l h2 hJ2 hk4 hw2 hf, fun r τ r' τ' h h' => ⟨h.1.trans h'.1.symm, _, _, _, _, _, _, _, _, _, _, _, _, h.2, h'.2⟩⟩
      · have hLw := fL_0 hf
        have hk60 := ((hJ1.2.2.2.1 k hk4).2.2 (by omega)).2.1
        by_cases hm0 : m < 0
        · exact ⟨_, _, a1_well_ne l h1 hJ1 hk4 hw2 hLw hm0, a2_well_ne l h2 hJ2 hk4 hw2 hLw hm0, fun r τ r' τ' h h' => ⟨h.1.trans h'.1.symm, _, _, _, _, _, _, _, _, _, _, _, _, h.2, h'.2⟩⟩
        · by_cases hz : ∃ u v, u + v ≤ sn k ∧ a = nI u ∧ m = nI v
          · obtain ⟨a, m, ham, rfl, rfl⟩ := hz
            rcases hpa : parse (cd (fun j => sc k (a + j)) m) m with f | nn
            · exact ⟨_, _, a1_well_bad l h1 hJ1 hk4 hw2 hLw ham hpa, a2_well_bad l h2 hJ2 hk4 hw2 hLw ham hpa, fun r τ r' τ' h h' => ⟨h.1.trans h'.1.symm, _, _, _, _, _, _, _, _, _, _, _, _, h.2, h'.2⟩⟩
            · exact ⟨_, _, a1_well_ok l h1 hJ1 hk4 hw2 hLw ham hpa, a2_well_ok l h2 hJ2 hk4 hw2 hLw ham hpa, fun r τ r' τ' h h' => ⟨h.1.trans h'.1.symm, _, _, _, _, _, _, _, _, _, _, _, _, h.2, h'.2⟩⟩
          · exact ⟨_, _, a1_well_io l h1 hJ1 hk4 hw2 hLw hm0 (fun u v hu e => hz ⟨u, v, hu, e.1, e.2⟩), a2_well_io l h2 hJ2 hk4 hw2 hLw hm0 (fun u v hu e => hz ⟨u, v, hu, e.1, e.2⟩), fun r τ r' τ' h h' => ⟨h.1.trans h'.1.symm, _, _, _, _, _, _, _, _, _, _, _, _, h.2, h'.2⟩⟩
    · exact ⟨_, _, a1_well_lo l h1 hJ1 hk4 hwo, a2_well_lo l h2 hJ2 hk4 hwo, fun r τ r' τ' h h' => ⟨h.1.trans h'.1.symm, _, _, _, _, _, _, _, _, _, _, _, _, h.2, h'.2⟩⟩
  · exact ⟨_, _, a1_well_so l h1 hJ1 hko, a2_well_so l h2 hJ2 hko, fun r τ r' τ' h h' => ⟨h.1.trans h'.1.symm, _, _, _, _, _, _, _, _, _, _, _, _, h.2, h'.2⟩⟩

set_option maxHeartbeats 4000000 in
theorem ag_hours (l : Launch) {D : va_G} {ca ca' : Nat → ClassId} {ad ad' : Nat → Nat} (h1 : Ij ad 34) (h2 : Ij ad' 18) {σ1 σ2 : Sg} (hR : R2 σ1 σ2) (k : Int32) (w : Int32) (a : Int32) (m : Int32) (q : Int32) : ∃ P1 P2 : Int32 → Sg → Prop, C1i l D ca ad yX6_hours wsX6_hours { frames := 5, cells := 0, slots := 0, locals := 135 } [.ref (ad 0), .int k, .int w, .int a, .int m, .int q] σ1 P1 ∧ C2i l D ca' ad' yX7_hours wsX7_hours { frames := 4, cells := 0, slots := 0, locals := 96 } [.ref (ad' 0), .int k, .int w, .int a, .int m, .int q] σ2 P2 ∧ ∀ r τ r' τ', P1 r τ → P2 r' τ' → r = r' ∧ R2 τ τ' := by
  obtain ⟨n, p, g, rn, d, th, rd, sl, sn, sc, ft, tr, hJ1, hJ2⟩ := hR
  have hn5 : n ≤ 5 := hJ1.1.2.2.1
  have hrn8 : rn ≤ 8 := hJ1.2.2.1.2.1
  have hp6 : p ≤ 6 := hJ1.2.1.2.1
  rcases cl_lt k 4 with ⟨k, hk4, rfl⟩ | hko
  · have hL4 : sl k ≤ 3 := (hJ1.2.2.2.1 k hk4).2.1
    rcases cl_rg w 0 2 (by omega) with ⟨w, -, hw2, rfl⟩ | hwo
    · by_cases hq : (nI 0 ≤ q ∧ q ≤ nI 2) ∨ (nI 10 ≤ q ∧ q ≤ nI 14)
      · by_cases hf : fL (sl k) w ≠ 0
        · exact ⟨_, _, a1_hours_fl l h1 hJ1 hk4 hw2 hq hf, a2_hours_fl l h2 hJ2 hk4 hw2 hq hf, fun r τ r' τ' h h' => ⟨h.1.trans h'.1.symm, _, _, _, _, _, _, _, _, _, _, _, _, h.2, h'.2⟩⟩
        · have hLw := fL_0 hf
          have hk60 := ((hJ1.2.2.2.1 k hk4).2.2 (by omega)).2.1
          by_cases hm0 : m < 0
          · exact ⟨_, _, a1_hours_ne l h1 hJ1 hk4 hw2 hq hLw hm0, a2_hours_ne l h2 hJ2 hk4 hw2 hq hLw hm0, fun r τ r' τ' h h' => ⟨h.1.trans h'.1.symm, _, _, _, _, _, _, _, _, _, _, _, _, h.2, h'.2⟩⟩
          · by_cases hz : ∃ u v, u + v ≤ sn k ∧ a = nI u ∧ m = nI v
            · obtain ⟨a, m, ham, rfl, rfl⟩ := hz
              rcases Nat.eq_zero_or_pos n with hn0 | hn0
              · exact ⟨_, _, a1_hours_no l h1 hJ1 hk4 hw2 hq hLw ham hn0, a2_hours_no l h2 hJ2 hk4 hw2 hq hLw ham hn0, fun r τ r' τ' h h' => ⟨h.1.trans h'.1.symm, _, _, _, _, _, _, _, _, _, _, _, _, h.2, h'.2⟩⟩
              · by_cases hmn : m = n
                · by_cases hal : ∀ x, x < m → nI 0 ≤ sc k (a + x) ∧ sc k (a + x) ≤ nI 23
                  · rcases hq with hq2 | hq2
                    · obtain ⟨q, -, hq3, rfl⟩ := xn_rng (by decide) hq2
                      rcases (show q = 0 ∨ q = 1 ∨ q = 2 by omega) with rfl | rfl | rfl
                      · exact ⟨_, _, a1_hours_0 l h1 hJ1 hk4 hw2 hLw ham hn0 hmn hal, a2_hours_0 l h2 hJ2 hk4 hw2 hLw ham hn0 hmn hal, fun r τ r' τ' h h' => ⟨h.1.trans h'.1.symm, _, _, _, _, _, _, _, _, _, _, _, _, h.2, h'.2⟩⟩
                      · exact ⟨_, _, a1_hours_1 l h1 hJ1 hk4 hw2 hLw ham hn0 hmn hal, a2_hours_1 l h2 hJ2 hk4 hw2 hLw ham hn0 hmn hal, fun r τ r' τ' h h' => ⟨h.1.trans h'.1.symm, _, _, _, _, _, _, _, _, _, _, _, _, h.2, h'.2⟩⟩
                      · exact ⟨_, _, a1_hours_2 l h1 hJ1 hk4 hw2 hLw ham hn0 hmn hal (hs := fun x => hv (sc k (a + x))) (fun _ => rfl), a2_hours_2 l h2 hJ2 hk4 hw2 hLw ham hn0 hmn hal (hs := fun x => hv (sc k (a + x))) (fun _ => rfl), fun r τ r' τ' h h' => ⟨h.1.trans h'.1.symm, _, _, _, _, _, _, _, _, _, _, _, _, h.2, h'.2⟩⟩
                    · obtain ⟨q, hq10, hq14, rfl⟩ := xn_rng (by decide) hq2
                      obtain ⟨y, rfl⟩ : ∃ y, q = 10 + y := ⟨q - 10, by omega⟩
                      rcases Nat.lt_or_ge y n with hyn | hyn
                      · exact ⟨_, _, a1_hours_y l h1 hJ1 hk4 hw2 hLw ham hn0 hmn hal hyn, a2_hours_y l h2 hJ2 hk4 hw2 hLw ham hn0 hmn hal hyn, fun r τ r' τ' h h' => ⟨h.1.trans h'.1.symm, _, _, _, _, _, _, _, _, _, _, _, _, h.2, h'.2⟩⟩
                      · exact ⟨_, _, a1_hours_yo l h1 hJ1 hk4 hw2 hLw ham hn0 hmn hal hyn (by omega), a2_hours_yo l h2 hJ2 hk4 hw2 hLw ham hn0 hmn hal hyn (by omega), fun r τ r' τ' h h' => ⟨h.1.trans h'.1.symm, _, _, _, _, _, _, _, _, _, _, _, _, h.2, h'.2⟩⟩
                  · exact ⟨_, _, a1_hours_nh l h1 hJ1 hk4 hw2 hq hLw ham hn0 hmn hal, a2_hours_nh l h2 hJ2 hk4 hw2 hq hLw ham hn0 hmn hal, fun r τ r' τ' h h' => ⟨h.1.trans h'.1.symm, _, _, _, _, _, _, _, _, _, _, _, _, h.2, h'.2⟩⟩
                · exact ⟨_, _, a1_hours_nb l h1 hJ1 hk4 hw2 hq hLw ham hn0 hmn, a2_hours_nb l h2 hJ2 hk4 hw2 hq hLw ham hn0 hmn, fun r τ r' τ' h h' => ⟨h.1.trans h'.1.symm, _, _, _, _, _, _, _, _, _, _, _, _, h.2, h'.2⟩⟩
            · exact ⟨_, _, a1_hours_io l h1 hJ1 hk4 hw2 hq hLw hm0 (fun u v hu e => hz ⟨u, v, hu, e.1, e.2⟩), a2_hours_io l h2 hJ2 hk4 hw2 hq hLw hm0 (fun u v hu e => hz ⟨u, v, hu, e.1, e.2⟩), fun r τ r' τ' h h' => ⟨h.1.trans h'.1.symm, _, _, _, _, _, _, _, _, _, _, _, _, h.2, h'.2⟩⟩
      · exact ⟨_, _, a1_hours_wo l h1 hJ1 hk4 hw2 hq, a2_hours_wo l h2 hJ2 hk4 hw2 hq, fun r τ r' τ' h h' => ⟨h.1.trans h'.1.symm, _, _, _, _, _, _, _, _, _, _, _, _, h.2, h'.2⟩⟩
    · exact ⟨_, _, a1_hours_lo l h1 hJ1 hk4 hwo, a2_hours_lo l h2 hJ2 hk4 hwo, fun r τ r' τ' h h' => ⟨h.1.trans h'.1.symm, _, _, _, _, _, _, _, _, _, _, _, _, h.2, h'.2⟩⟩
  · exact ⟨_, _, a1_hours_so l h1 hJ1 hko, a2_hours_so l h2 hJ2 hko, fun r τ r' τ' h h' => ⟨h.1.trans h'.1.symm, _, _, _, _, _, _, _, _, _, _, _, _, h.2, h'.2⟩⟩

set_option maxHeartbeats 4000000 in
theorem ag_best (l : Launch) {D : va_G} {ca ca' : Nat → ClassId} {ad ad' : Nat → Nat} (h1 : Ij ad 34) (h2 : Ij ad' 18) {σ1 σ2 : Sg} (hR : R2 σ1 σ2) (k : Int32) : ∃ P1 P2 : Int32 → Sg → Prop, C1i l D ca ad yX6_best wsX6_best { frames := 6, cells := 0, slots := 0, locals := 154 } [.ref (ad 0), .int k] σ1 P1 ∧ C2i l D ca' ad' yX7_best wsX7_best { frames := 5, cells := 0, slots := 0, locals := 118 } [.ref (ad' 0), .int k] σ2 P2 ∧ ∀ r τ r' τ', P1 r τ → P2 r' τ' → r = r' ∧ R2 τ τ' := by
  obtain ⟨n, p, g, rn, d, th, rd, sl, sn, sc, ft, tr, hJ1, hJ2⟩ := hR
  have hn5 : n ≤ 5 := hJ1.1.2.2.1
  have hrn8 : rn ≤ 8 := hJ1.2.2.1.2.1
  have hp6 : p ≤ 6 := hJ1.2.1.2.1
  rcases Nat.eq_zero_or_pos n with hn0 | hn0
  · exact ⟨_, _, a1_best_no l h1 hJ1 hn0, a2_best_no l h2 hJ2 hn0, fun r τ r' τ' h h' => ⟨h.1.trans h'.1.symm, _, _, _, _, _, _, _, _, _, _, _, _, h.2, h'.2⟩⟩
  · by_cases hko : -1 ≤ k ∧ k ≤ nI 5
    · rcases best_rg hko with rfl | ⟨k, hk5, rfl⟩
      · exact ⟨_, _, a1_best_m1 l h1 hJ1 hn0, a2_best_m1 l h2 hJ2 hn0, fun r τ r' τ' h h' => by
          obtain ⟨b, m, hb, rfl, hI⟩ := h
          obtain ⟨b', m', hb', rfl, hI'⟩ := h'
          have e := IsBest_one hb hb'
          exact ⟨by rw [e.1], _, _, _, _, _, _, _, _, _, _, _, _, hI, hI'⟩⟩
      · rcases Nat.lt_or_ge k p with hkp | hkp
        · exact ⟨_, _, a1_best_k l h1 hJ1 hn0 hk5 hkp, a2_best_k l h2 hJ2 hn0 hk5 hkp, fun r τ r' τ' h h' => by
            obtain ⟨b, m, hb, rfl, hI⟩ := h
            obtain ⟨b', m', hb', rfl, hI'⟩ := h'
            have e := IsBest_one hb hb'
            exact ⟨by rw [e.2 _ hkp], _, _, _, _, _, _, _, _, _, _, _, _, hI, hI'⟩⟩
        · exact ⟨_, _, a1_best_kp l h1 hJ1 hn0 hk5 hkp, a2_best_kp l h2 hJ2 hn0 hk5 hkp, fun r τ r' τ' h h' => ⟨h.1.trans h'.1.symm, _, _, _, _, _, _, _, _, _, _, _, _, h.2, h'.2⟩⟩
    · exact ⟨_, _, a1_best_ko l h1 hJ1 hn0 hko, a2_best_ko l h2 hJ2 hn0 hko, fun r τ r' τ' h h' => ⟨h.1.trans h'.1.symm, _, _, _, _, _, _, _, _, _, _, _, _, h.2, h'.2⟩⟩
