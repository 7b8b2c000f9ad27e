/-! what holds of the class between calls -/
def I1 (n p g rn : Nat) (d : Nat → Nat) (th rd : Nat → Nat → Nat) (sl sn : Nat → Nat) (sc : Nat → Nat → Int32) (ft tr : Int32) (σ : Sg) : Prop := ThingsAt σ n g th ∧ RotaAt σ 22 p d ∧ ReadsAt σ rn n rd ∧ (∀ k, k < 4 → SheetAt σ (1 + k) (sl k) (sn k) (sc k)) ∧ (0 < n ↔ 0 < p) ∧ σ 0 11 = ft ∧ σ 0 12 = tr
def uth (th : Nat → Nat → Nat) (x f v : Nat) : Nat → Nat → Nat := fun a b => if a = x ∧ b = f then v else th a b
def urd (rd : Nat → Nat → Nat) (k x h c : Nat) : Nat → Nat → Nat := fun a f => if a = k then (if f = 0 then x else if f = 1 then h else c) else rd a f
/-- the first of so many, from a place on -/
def wF (f : Nat → Bool) : Nat → Nat → Int32
  | 0, _ => -9
  | k + 1, h => if f h then nI h else wF f k (h + 1)
theorem xn_tab {w : Int32} {a b : Nat} (h : ¬ (nI a ≤ w ∧ w ≤ nI b)) (ha : a < 2 ^ 31 := by decide) (hb : b < 2 ^ 31 := by decide) : w.toInt < (a : Int) ∨ (b : Int) < w.toInt := by
  rw [Int32.le_iff_toInt_le, Int32.le_iff_toInt_le, nI_toInt ha, nI_toInt hb] at h
  omega
theorem xn_neq {w : Int32} {a b : Nat} (h : ¬ (nI a ≤ w ∧ w ≤ nI b)) (k : Nat) (h1 : a ≤ k) (h2 : k ≤ b) (hb : b < 2 ^ 31 := by decide) : ¬ w = nI k := fun e => h (by rw [e]; exact xn_in h1 h2 hb)
section I1
variable {n p g rn : Nat} {d : Nat → Nat} {th rd : Nat → Nat → Nat} {sl sn : Nat → Nat} {sc : Nat → Nat → Int32} {ft tr : Int32} {σ τ : Sg}
theorem I1_fr (h : I1 n p g rn d th rd sl sn sc ft tr σ) (hf : ∀ i, i < 23 ∨ i = 25 → τ i = σ i) : I1 n p g rn d th rd sl sn sc ft tr τ := by
  obtain ⟨hT, hR, hRd, hSh, hnp, hft, htr⟩ := h
  refine ⟨ThingsAt_fr hT hf, RotaAt_fr hR (hf _ (by omega)) (hf _ (by omega)), ⟨by rw [hf 0 (by omega)]; exact hRd.1, hRd.2.1, fun k hk => by rw [hf (14 + k) (by have := hRd.2.1; omega)]; exact hRd.2.2 k hk⟩, fun k hk => SheetAt_fr (hSh k hk) (hf _ (by omega)) (hf _ (by omega)), hnp, by rw [hf 0 (by omega)]; exact hft, by rw [hf 0 (by omega)]; exact htr⟩
theorem I1_0 {j : Nat} {v : Int32} (h : I1 n p g rn d th rd sl sn sc ft tr σ) (hj : 11 ≤ j) : ThingsAt (up σ 0 j v) n g th ∧ RotaAt (up σ 0 j v) 22 p d ∧ ReadsAt (up σ 0 j v) rn n rd ∧ (∀ k, k < 4 → SheetAt (up σ 0 j v) (1 + k) (sl k) (sn k) (sc k)) := by
  obtain ⟨hT, hR, hRd, hSh, hnp, hft, htr⟩ := h
  exact ⟨ThingsAt_0 hT (by omega), RotaAt_fr hR (up_r (by omega)) (up_r (by omega)), ⟨(up_n (by omega)).trans hRd.1, hRd.2.1, fun k hk => by rw [up_r (by omega)]; exact hRd.2.2 k hk⟩, fun k hk => SheetAt_fr (hSh k hk) (up_r (by omega)) (up_r (by omega))⟩
theorem I1_ft {v : Int32} (h : I1 n p g rn d th rd sl sn sc ft tr σ) : I1 n p g rn d th rd sl sn sc v tr (up σ 0 11 v) := by
  obtain ⟨a, b, c, e⟩ := I1_0 (v := v) h (Nat.le_refl 11)
  exact ⟨a, b, c, e, h.2.2.2.2.1, up_s, (up_n (by omega)).trans h.2.2.2.2.2.2⟩
theorem I1_tr {v : Int32} (h : I1 n p g rn d th rd sl sn sc ft tr σ) : I1 n p g rn d th rd sl sn sc ft v (up σ 0 12 v) := by
  obtain ⟨a, b, c, e⟩ := I1_0 (j := 12) (v := v) h (by omega)
  exact ⟨a, b, c, e, h.2.2.2.2.1, (up_n (by omega)).trans h.2.2.2.2.2.1, up_s⟩
theorem I1_g {v : Nat} (h : I1 n p g rn d th rd sl sn sc ft tr σ) (hv : v ≤ 9) : I1 n p v rn d th rd sl sn sc ft tr (up σ 0 8 (nI v)) := by
  obtain ⟨hT, hR, hRd, hSh, hnp, hft, htr⟩ := h
  obtain ⟨h1, h2, h3, h4, h5⟩ := hT
  refine ⟨⟨up_s, (up_n (by omega)).trans h2, h3, hv, fun x hx => ⟨fun f hf => (up_n (by omega)).trans ((h5 x hx).1 f hf), (h5 x hx).2⟩⟩, RotaAt_fr hR (up_r (by omega)) (up_r (by omega)), ⟨(up_n (by omega)).trans hRd.1, hRd.2.1, fun k hk => by rw [up_r (by omega)]; exact hRd.2.2 k hk⟩, fun k hk => SheetAt_fr (hSh k hk) (up_r (by omega)) (up_r (by omega)), hnp, (up_n (by omega)).trans hft, (up_n (by omega)).trans htr⟩
theorem I1_rn {v : Nat} (h : I1 n p g rn d th rd sl sn sc ft tr σ) (hv : v ≤ rn) : I1 n p g v d th rd sl sn sc ft tr (up σ 0 10 (nI v)) := by
  obtain ⟨hT, hR, hRd, hSh, hnp, hft, htr⟩ := h
  refine ⟨ThingsAt_0 hT (by omega), RotaAt_fr hR (up_r (by omega)) (up_r (by omega)), ⟨up_s, by have := hRd.2.1; omega, fun k hk => by rw [up_r (by omega)]; exact hRd.2.2 k (by omega)⟩, fun k hk => SheetAt_fr (hSh k hk) (up_r (by omega)) (up_r (by omega)), hnp, (up_n (by omega)).trans hft, (up_n (by omega)).trans htr⟩
theorem I1_w {x v : Nat} (h : I1 n p g rn d th rd sl sn sc ft tr σ) (hx : x < n) (hv : v ≤ 9) : I1 n p g rn d (uth th x 1 v) rd sl sn sc ft tr (up σ (9 + x) 1 (nI v)) := by
  obtain ⟨hT, hR, hRd, hSh, hnp, hft, htr⟩ := h
  obtain ⟨h1, h2, h3, h4, h5⟩ := hT
  refine ⟨⟨(up_n (by omega)).trans h1, (up_n (by omega)).trans h2, h3, h4, fun y hy => ⟨fun f hf => ?_, ?_⟩⟩, RotaAt_fr hR (up_r (by omega)) (up_r (by omega)), ⟨(up_n (by omega)).trans hRd.1, hRd.2.1, fun k hk => by rw [up_r (by omega)]; exact hRd.2.2 k hk⟩, fun k hk => SheetAt_fr (hSh k hk) (up_r (by omega)) (up_r (by omega)), hnp, (up_n (by omega)).trans hft, (up_n (by omega)).trans htr⟩
  · by_cases hz : y = x ∧ f = 1
    · obtain ⟨rfl, rfl⟩ := hz
      rw [up_s]
      simp [uth]
    · rw [up_n (by omega)]
      simp only [uth, if_neg hz]
      exact (h5 y hy).1 f hf
  · obtain ⟨a, b, c, e, i⟩ := (h5 y hy).2
    refine ⟨?_, ?_, ?_, ?_, ?_⟩
    · simp only [uth]; rw [if_neg (by omega)]; exact a
    · simp only [uth]; split <;> omega
    · simp only [uth]; rw [if_neg (by omega)]; exact c
    · simp only [uth]; rw [if_neg (by omega)]; exact e
    · simp only [uth]; rw [if_neg (by omega)]; exact i
theorem I1_d {k e : Nat} (h : I1 n p g rn d th rd sl sn sc ft tr σ) (he : e ≤ 4) : I1 n p g rn (fun j => if j = k then e else d j) th rd sl sn sc ft tr (up σ (22 + 3) k (nI e)) := by
  obtain ⟨hT, hR, hRd, hSh, hnp, hft, htr⟩ := h
  obtain ⟨h1, h2, h3, h4, h5⟩ := hT
  exact ⟨⟨(up_n (by omega)).trans h1, (up_n (by omega)).trans h2, h3, h4, fun x hx => ⟨fun f hf => (up_n (by omega)).trans ((h5 x hx).1 f hf), (h5 x hx).2⟩⟩, RotaAt_set hR (by omega), ⟨(up_n (by omega)).trans hRd.1, hRd.2.1, fun j hj => by rw [up_r (by have := hRd.2.1; omega)]; exact hRd.2.2 j hj⟩, fun j hj => SheetAt_fr (hSh j hj) (up_r (by omega)) (up_r (by omega)), hnp, (up_n (by omega)).trans hft, (up_n (by omega)).trans htr⟩
theorem I1_rd {x h c : Nat} {z : Int32} (hJ : I1 n p g rn d th rd sl sn sc ft tr σ) (hx : x < n) (hh : h ≤ 23) (hc : c ≤ 5) (hz : z = dz c) (hr : rn < 8) : I1 n p g (rn + 1) d th (urd rd rn x h c) sl sn sc ft tr (up (up (up (up σ (14 + rn) 0 (nI x)) (14 + rn) 1 (nI h)) (14 + rn) 2 z) 0 10 (nI (rn + 1))) := by
  obtain ⟨hT, hR, hRd, hSh, hnp, hft, htr⟩ := hJ
  obtain ⟨h1, h2, h3, h4, h5⟩ := hT
  have fr : ∀ i, i ≠ 0 → i ≠ 14 + rn → (up (up (up (up σ (14 + rn) 0 (nI x)) (14 + rn) 1 (nI h)) (14 + rn) 2 z) 0 10 (nI (rn + 1))) i = σ i := fun i a b => by rw [up_r a, up_r b, up_r b, up_r b]
  have f0 : ∀ j, j ≠ 10 → (up (up (up (up σ (14 + rn) 0 (nI x)) (14 + rn) 1 (nI h)) (14 + rn) 2 z) 0 10 (nI (rn + 1))) 0 j = σ 0 j := fun j a => by rw [up_n (by omega), up_n (by omega), up_n (by omega), up_n (by omega)]
  refine ⟨⟨(f0 8 (by omega)).trans h1, (f0 9 (by omega)).trans h2, h3, h4, fun y hy => by rw [fr _ (by omega) (by omega)]; exact h5 y hy⟩, RotaAt_fr hR (fr _ (by omega) (by omega)) (fr _ (by omega) (by omega)), ⟨up_s, by omega, fun k hk => ?_⟩, fun k hk => SheetAt_fr (hSh k hk) (fr _ (by omega) (by omega)) (fr _ (by omega) (by omega)), hnp, (f0 11 (by omega)).trans hft, (f0 12 (by omega)).trans htr⟩
  by_cases hk2 : k = rn
  · subst hk2
    refine ⟨?_, ?_, ?_, ?_, ?_, ?_⟩
    · simp [up, urd]
    · simp [up, urd]
    · simp [up, urd, hz]
    · simp only [urd, if_true]; exact hx
    · simp only [urd, if_true]; exact hh
    · simp only [urd, if_true]; exact hc
  · rw [fr _ (by omega) (by omega)]
    simp only [urd, if_neg hk2]
    exact hRd.2.2 k (by omega)
end I1

set_option maxRecDepth 20000 in
theorem flX6_many_90 {s : State} {av : Array Value} (hts : ∀ w ∈ wsX6_many, w.before av s = true) : (Cond.fieldLink RX6 90 "WellBack" "thingCount" "I").before av s = true := hts _ (by decide +kernel)
set_option maxRecDepth 20000 in
theorem inX6_many_X6 : ∀ w ∈ u_ws RX6 TX6 13, w ∈ wsX6_many := by decide +kernel
set_option maxHeartbeats 4000000 in
set_option maxRecDepth 100000 in
theorem a1_many_0 (l : Launch) {D : va_G} {ca : Nat → ClassId} {ad : Nat → Nat} (hI : Ij ad 34) {σ : Sg} {n p g rn : Nat} {d : Nat → Nat} {th rd : Nat → Nat → Nat} {sl sn : Nat → Nat} {sc : Nat → Nat → Int32} {ft tr : Int32} (hJ : I1 n p g rn d th rd sl sn sc ft tr σ) : C1i l D ca ad yX6_many wsX6_many { frames := 0, cells := 0, slots := 0, locals := 0 } [.ref (ad 0), .int (nI 0)] σ (fun r σ' => r = nI n ∧ I1 n p g rn d th rd sl sn sc ft tr σ') := by
  refine xk_entry cX6_many 2 (some .int) (by decide) rfl (Nat.le_of_ble_eq_true rfl) ?_
  intro pP eE sS mM below meth cC hx hb hml hr hts hown hlk hP hK hX hS ls hl
  have hl : lv_has ls 2 [(0, .ref (ad 0)), (1, .int (nI 0))] := hl
  obtain ⟨hT, hR, hRd, hSh, hnp, hft, htr⟩ := id hJ
  have hn5 := hT.2.2.1
  have hg9 := hT.2.2.2.1
  have hp6 := hR.2.1
  have hrn8 := hRd.2.1
  refine lv_iload_n hx hb dX6_many_0 rfl (lv_at hl 1 rfl) ?_
  refine lv_tableIn (tgt := 32) hx hb dX6_many_1 (by decide) (by decide) (off := 31) (by decide) (by decide) ?_
  refine lv_aload_n hx hb dX6_many_32 rfl (lv_at hl 0 rfl) ?_
  refine xk_get hx hb hts (inX6_many_X6) hown hK hP 0 (by omega) (ci := 6) e1_well rfl 9 (by decide) (flX6_many_90 hts) rfl (.int (σ 0 9)) rfl dX6_many_33 ?_
  refine xn_eqi (y := nI n) hT.2.1 ?_
  exact xk_iret hx hb hr (vp_nar_int _) X1_ok hK hX hP hS hlk dX6_many_36 (⟨rfl, hJ⟩)

set_option maxRecDepth 20000 in
theorem flX6_many_32 {s : State} {av : Array Value} (hts : ∀ w ∈ wsX6_many, w.before av s = true) : (Cond.fieldLink RX6 32 "WellBack" "rota" "LWellBack$Rota;").before av s = true := hts _ (by decide +kernel)
set_option maxRecDepth 20000 in
theorem flX6_many_175 {s : State} {av : Array Value} (hts : ∀ w ∈ wsX6_many, w.before av s = true) : (Cond.fieldLink RX6 175 "WellBack$Rota" "places" "I").before av s = true := hts _ (by decide +kernel)
set_option maxRecDepth 20000 in
theorem inX6_many_X1 : ∀ w ∈ u_ws RX1 TX1 2, w ∈ wsX6_many := by decide +kernel
set_option maxHeartbeats 4000000 in
set_option maxRecDepth 100000 in
theorem a1_many_1 (l : Launch) {D : va_G} {ca : Nat → ClassId} {ad : Nat → Nat} (hI : Ij ad 34) {σ : Sg} {n p g rn : Nat} {d : Nat → Nat} {th rd : Nat → Nat → Nat} {sl sn : Nat → Nat} {sc : Nat → Nat → Int32} {ft tr : Int32} (hJ : I1 n p g rn d th rd sl sn sc ft tr σ) : C1i l D ca ad yX6_many wsX6_many { frames := 0, cells := 0, slots := 0, locals := 0 } [.ref (ad 0), .int (nI 1)] σ (fun r σ' => r = nI p ∧ I1 n p g rn d th rd sl sn sc ft tr σ') := by
  refine xk_entry cX6_many 2 (some .int) (by decide) rfl (Nat.le_of_ble_eq_true rfl) ?_
  intro pP eE sS mM below meth cC hx hb hml hr hts hown hlk hP hK hX hS ls hl
  have hl : lv_has ls 2 [(0, .ref (ad 0)), (1, .int (nI 1))] := hl
  obtain ⟨hT, hR, hRd, hSh, hnp, hft, htr⟩ := id hJ
  have hn5 := hT.2.2.1
  have hg9 := hT.2.2.2.1
  have hp6 := hR.2.1
  have hrn8 := hRd.2.1
  refine lv_iload_n hx hb dX6_many_0 rfl (lv_at hl 1 rfl) ?_
  refine lv_tableIn (tgt := 37) hx hb dX6_many_1 (by decide) (by decide) (off := 36) (by decide) (by decide) ?_
  refine lv_aload_n hx hb dX6_many_37 rfl (lv_at hl 0 rfl) ?_
  refine xk_get hx hb hts (inX6_many_X6) hown hK hP 0 (by omega) (ci := 6) e1_well rfl 3 (by decide) (flX6_many_32 hts) rfl (.ref (ad 22)) rfl dX6_many_38 ?_
  refine xk_get hx hb hts (inX6_many_X1) hown hK hP 22 (by omega) (ci := 1) (e1_rota (by omega) (by omega)) rfl 1 (by decide) (flX6_many_175 hts) rfl (.int (σ 22 1)) rfl dX6_many_41 ?_
  refine xn_eqi (y := nI p) hR.1 ?_
  exact xk_iret hx hb hr (vp_nar_int _) X1_ok hK hX hP hS hlk dX6_many_44 (⟨rfl, hJ⟩)

set_option maxRecDepth 20000 in
theorem flX6_many_123 {s : State} {av : Array Value} (hts : ∀ w ∈ wsX6_many, w.before av s = true) : (Cond.fieldLink RX6 123 "WellBack" "depth" "I").before av s = true := hts _ (by decide +kernel)
set_option maxHeartbeats 4000000 in
set_option maxRecDepth 100000 in
theorem a1_many_2 (l : Launch) {D : va_G} {ca : Nat → ClassId} {ad : Nat → Nat} (hI : Ij ad 34) {σ : Sg} {n p g rn : Nat} {d : Nat → Nat} {th rd : Nat → Nat → Nat} {sl sn : Nat → Nat} {sc : Nat → Nat → Int32} {ft tr : Int32} (hJ : I1 n p g rn d th rd sl sn sc ft tr σ) : C1i l D ca ad yX6_many wsX6_many { frames := 0, cells := 0, slots := 0, locals := 0 } [.ref (ad 0), .int (nI 2)] σ (fun r σ' => r = nI g ∧ I1 n p g rn d th rd sl sn sc ft tr σ') := by
  refine xk_entry cX6_many 2 (some .int) (by decide) rfl (Nat.le_of_ble_eq_true rfl) ?_
  intro pP eE sS mM below meth cC hx hb hml hr hts hown hlk hP hK hX hS ls hl
  have hl : lv_has ls 2 [(0, .ref (ad 0)), (1, .int (nI 2))] := hl
  obtain ⟨hT, hR, hRd, hSh, hnp, hft, htr⟩ := id hJ
  have hn5 := hT.2.2.1
  have hg9 := hT.2.2.2.1
  have hp6 := hR.2.1
  have hrn8 := hRd.2.1
  refine lv_iload_n hx hb dX6_many_0 rfl (lv_at hl 1 rfl) ?_
  refine lv_tableIn (tgt := 45) hx hb dX6_many_1 (by decide) (by decide) (off := 44) (by decide) (by decide) ?_
  refine lv_aload_n hx hb dX6_many_45 rfl (lv_at hl 0 rfl) ?_
  refine xk_get hx hb hts (inX6_many_X6) hown hK hP 0 (by omega) (ci := 6) e1_well rfl 8 (by decide) (flX6_many_123 hts) rfl (.int (σ 0 8)) rfl dX6_many_46 ?_
  refine xn_eqi (y := nI g) hT.1 ?_
  exact xk_iret hx hb hr (vp_nar_int _) X1_ok hK hX hP hS hlk dX6_many_49 (⟨rfl, hJ⟩)

set_option maxRecDepth 20000 in
theorem flX6_many_181 {s : State} {av : Array Value} (hts : ∀ w ∈ wsX6_many, w.before av s = true) : (Cond.fieldLink RX6 181 "WellBack" "readingCount" "I").before av s = true := hts _ (by decide +kernel)
set_option maxHeartbeats 4000000 in
set_option maxRecDepth 100000 in
theorem a1_many_3 (l : Launch) {D : va_G} {ca : Nat → ClassId} {ad : Nat → Nat} (hI : Ij ad 34) {σ : Sg} {n p g rn : Nat} {d : Nat → Nat} {th rd : Nat → Nat → Nat} {sl sn : Nat → Nat} {sc : Nat → Nat → Int32} {ft tr : Int32} (hJ : I1 n p g rn d th rd sl sn sc ft tr σ) : C1i l D ca ad yX6_many wsX6_many { frames := 0, cells := 0, slots := 0, locals := 0 } [.ref (ad 0), .int (nI 3)] σ (fun r σ' => r = nI rn ∧ I1 n p g rn d th rd sl sn sc ft tr σ') := by
  refine xk_entry cX6_many 2 (some .int) (by decide) rfl (Nat.le_of_ble_eq_true rfl) ?_
  intro pP eE sS mM below meth cC hx hb hml hr hts hown hlk hP hK hX hS ls hl
  have hl : lv_has ls 2 [(0, .ref (ad 0)), (1, .int (nI 3))] := hl
  obtain ⟨hT, hR, hRd, hSh, hnp, hft, htr⟩ := id hJ
  have hn5 := hT.2.2.1
  have hg9 := hT.2.2.2.1
  have hp6 := hR.2.1
  have hrn8 := hRd.2.1
  refine lv_iload_n hx hb dX6_many_0 rfl (lv_at hl 1 rfl) ?_
  refine lv_tableIn (tgt := 50) hx hb dX6_many_1 (by decide) (by decide) (off := 49) (by decide) (by decide) ?_
  refine lv_aload_n hx hb dX6_many_50 rfl (lv_at hl 0 rfl) ?_
  refine xk_get hx hb hts (inX6_many_X6) hown hK hP 0 (by omega) (ci := 6) e1_well rfl 10 (by decide) (flX6_many_181 hts) rfl (.int (σ 0 10)) rfl dX6_many_51 ?_
  refine xn_eqi (y := nI rn) hRd.1 ?_
  exact xk_iret hx hb hr (vp_nar_int _) X1_ok hK hX hP hS hlk dX6_many_54 (⟨rfl, hJ⟩)

set_option maxHeartbeats 4000000 in
set_option maxRecDepth 100000 in
theorem a1_many_o (l : Launch) {D : va_G} {ca : Nat → ClassId} {ad : Nat → Nat} (hI : Ij ad 34) {σ : Sg} {n p g rn : Nat} {d : Nat → Nat} {th rd : Nat → Nat → Nat} {sl sn : Nat → Nat} {sc : Nat → Nat → Int32} {ft tr : Int32} {w : Int32} (hJ : I1 n p g rn d th rd sl sn sc ft tr σ) (hw : ¬ (nI 0 ≤ w ∧ w ≤ nI 3)) : C1i l D ca ad yX6_many wsX6_many { frames := 0, cells := 0, slots := 0, locals := 0 } [.ref (ad 0), .int w] σ (fun r σ' => r = -2 ∧ I1 n p g rn d th rd sl sn sc ft tr σ') := by
  refine xk_entry cX6_many 2 (some .int) (by decide) rfl (Nat.le_of_ble_eq_true rfl) ?_
  intro pP eE sS mM below meth cC hx hb hml hr hts hown hlk hP hK hX hS ls hl
  have hl : lv_has ls 2 [(0, .ref (ad 0)), (1, .int w)] := hl
  obtain ⟨hT, hR, hRd, hSh, hnp, hft, htr⟩ := id hJ
  have hn5 := hT.2.2.1
  have hg9 := hT.2.2.2.1
  have hp6 := hR.2.1
  have hrn8 := hRd.2.1
  refine lv_iload_n hx hb dX6_many_0 rfl (lv_at hl 1 rfl) ?_
  refine lv_tableOut (tgt := 55) hx hb dX6_many_1 (xn_tab hw) (by decide) ?_
  refine lv_bipush (v := (-2)) hx hb dX6_many_55 (by decide) ?_
  exact xk_iret hx hb hr (vp_nar_int _) X1_ok hK hX hP hS hlk dX6_many_57 (⟨rfl, hJ⟩)

set_option maxRecDepth 20000 in
theorem flX6_trace_258 {s : State} {av : Array Value} (hts : ∀ w ∈ wsX6_trace, w.before av s = true) : (Cond.fieldLink RX6 258 "WellBack" "traceNumber" "I").before av s = true := hts _ (by decide +kernel)
set_option maxRecDepth 20000 in
theorem inX6_trace_X6 : ∀ w ∈ u_ws RX6 TX6 13, w ∈ wsX6_trace := by decide +kernel
set_option maxHeartbeats 4000000 in
set_option maxRecDepth 100000 in
theorem a1_trace (l : Launch) {D : va_G} {ca : Nat → ClassId} {ad : Nat → Nat} (hI : Ij ad 34) {σ : Sg} {n p g rn : Nat} {d : Nat → Nat} {th rd : Nat → Nat → Nat} {sl sn : Nat → Nat} {sc : Nat → Nat → Int32} {ft tr : Int32} (hJ : I1 n p g rn d th rd sl sn sc ft tr σ) : C1i l D ca ad yX6_trace wsX6_trace { frames := 0, cells := 0, slots := 0, locals := 0 } [.ref (ad 0)] σ (fun r σ' => r = tr ∧ I1 n p g rn d th rd sl sn sc ft tr σ') := by
  refine xk_entry cX6_trace 1 (some .int) (by decide) rfl (Nat.le_of_ble_eq_true rfl) ?_
  intro pP eE sS mM below meth cC hx hb hml hr hts hown hlk hP hK hX hS ls hl
  have hl : lv_has ls 1 [(0, .ref (ad 0))] := hl
  obtain ⟨hT, hR, hRd, hSh, hnp, hft, htr⟩ := id hJ
  have hn5 := hT.2.2.1
  have hg9 := hT.2.2.2.1
  have hp6 := hR.2.1
  have hrn8 := hRd.2.1
  refine lv_aload_n hx hb dX6_trace_0 rfl (lv_at hl 0 rfl) ?_
  refine xk_get hx hb hts (inX6_trace_X6) hown hK hP 0 (by omega) (ci := 6) e1_well rfl 12 (by decide) (flX6_trace_258 hts) rfl (.int (σ 0 12)) rfl dX6_trace_1 ?_
  refine xn_eqi (y := tr) htr ?_
  exact xk_iret hx hb hr (vp_nar_int _) X1_ok hK hX hP hS hlk dX6_trace_4 (⟨rfl, hJ⟩)

set_option maxRecDepth 20000 in
theorem flX6_fault_59 {s : State} {av : Array Value} (hts : ∀ w ∈ wsX6_fault, w.before av s = true) : (Cond.fieldLink RX6 59 "WellBack" "latestFault" "I").before av s = true := hts _ (by decide +kernel)
set_option maxRecDepth 20000 in
theorem inX6_fault_X6 : ∀ w ∈ u_ws RX6 TX6 13, w ∈ wsX6_fault := by decide +kernel
set_option maxHeartbeats 4000000 in
set_option maxRecDepth 100000 in
theorem a1_fault (l : Launch) {D : va_G} {ca : Nat → ClassId} {ad : Nat → Nat} (hI : Ij ad 34) {σ : Sg} {n p g rn : Nat} {d : Nat → Nat} {th rd : Nat → Nat → Nat} {sl sn : Nat → Nat} {sc : Nat → Nat → Int32} {ft tr : Int32} (hJ : I1 n p g rn d th rd sl sn sc ft tr σ) : C1i l D ca ad yX6_fault wsX6_fault { frames := 0, cells := 0, slots := 0, locals := 0 } [.ref (ad 0)] σ (fun r σ' => r = ft ∧ I1 n p g rn d th rd sl sn sc ft tr σ') := by
  refine xk_entry cX6_fault 1 (some .int) (by decide) rfl (Nat.le_of_ble_eq_true rfl) ?_
  intro pP eE sS mM below meth cC hx hb hml hr hts hown hlk hP hK hX hS ls hl
  have hl : lv_has ls 1 [(0, .ref (ad 0))] := hl
  obtain ⟨hT, hR, hRd, hSh, hnp, hft, htr⟩ := id hJ
  have hn5 := hT.2.2.1
  have hg9 := hT.2.2.2.1
  have hp6 := hR.2.1
  have hrn8 := hRd.2.1
  refine lv_aload_n hx hb dX6_fault_0 rfl (lv_at hl 0 rfl) ?_
  refine xk_get hx hb hts (inX6_fault_X6) hown hK hP 0 (by omega) (ci := 6) e1_well rfl 11 (by decide) (flX6_fault_59 hts) rfl (.int (σ 0 11)) rfl dX6_fault_1 ?_
  refine xn_eqi (y := ft) hft ?_
  exact xk_iret hx hb hr (vp_nar_int _) X1_ok hK hX hP hS hlk dX6_fault_4 (⟨rfl, hJ⟩)

set_option maxHeartbeats 4000000 in
set_option maxRecDepth 100000 in
theorem a1_ofThing_xo (l : Launch) {D : va_G} {ca : Nat → ClassId} {ad : Nat → Nat} (hI : Ij ad 34) {σ : Sg} {n p g rn : Nat} {d : Nat → Nat} {th rd : Nat → Nat → Nat} {sl sn : Nat → Nat} {sc : Nat → Nat → Int32} {ft tr : Int32} {x : Int32} {w : Int32} (hJ : I1 n p g rn d th rd sl sn sc ft tr σ) (hxx : ∀ j, j < n → x ≠ nI j) : C1i l D ca ad yX6_ofThing wsX6_ofThing { frames := 3, cells := 0, slots := 0, locals := 84 } [.ref (ad 0), .int x, .int w] σ (fun r σ' => r = -1 ∧ I1 n p g rn d th rd sl sn sc ft tr σ') := by
  refine xk_entry cX6_ofThing 4 (some .int) (by decide) rfl (Nat.le_of_ble_eq_true rfl) ?_
  intro pP eE sS mM below meth cC hx hb hml hr hts hown hlk hP hK hX hS ls hl
  have hl : lv_has ls 4 [(0, .ref (ad 0)), (1, .int x), (2, .int w)] := hl
  obtain ⟨hT, hR, hRd, hSh, hnp, hft, htr⟩ := id hJ
  have hn5 := hT.2.2.1
  have hg9 := hT.2.2.2.1
  have hp6 := hR.2.1
  have hrn8 := hRd.2.1
  refine lv_aload_n hx hb dX6_ofThing_0 rfl (lv_at hl 0 rfl) ?_
  refine lv_iload_n hx hb dX6_ofThing_1 rfl (lv_at hl 1 rfl) ?_
  refine xk_fz (va_runV (As := [.int x]) (rest := []) ⟨hx, hb, hml, hown, hts⟩ (k1_thingAt_out l hI (x := x) hT.2.1 hn5 (by assumption)) (cwV 1 hts gX6_ofThing_X6_thingAt rfl rfl rfl (by decide +kernel) ⟨Nat.le_of_ble_eq_true rfl, Nat.le_of_ble_eq_true rfl⟩) (xk_preV X1_ok hK hX hP (xk_recv hK hP 0 (by omega) (ci := 6) e1_well rfl)) rfl rfl hl.1 rfl (lv_room (Nat.le_of_ble_eq_true rfl)) dX6_ofThing_2 ⟨Nat.le_of_ble_eq_true rfl, Nat.le_of_ble_eq_true rfl⟩) hS (fun H locs hP hS => ?_)
  refine lv_astore_nN (lv' := [(3, .null), (0, .ref (ad 0)), (1, .int x), (2, .int w)]) hx hb dX6_ofThing_5 rfl hl (by decide) rfl (fun ls hl => ?_)
  refine lv_aload_nN hx hb dX6_ofThing_6 rfl (lv_at hl 0 rfl) ?_
  refine lv_ifnonnullN hx hb dX6_ofThing_7 ?_
  refine lv_iconst (v := (-1)) hx hb dX6_ofThing_10 (by decide) ?_
  exact xk_iret hx hb hr (vp_nar_int _) X1_ok hK hX hP hS hlk dX6_ofThing_11 (⟨rfl, hJ⟩)

set_option maxRecDepth 20000 in
theorem flX6_ofThing_97 {s : State} {av : Array Value} (hts : ∀ w ∈ wsX6_ofThing, w.before av s = true) : (Cond.fieldLink RX6 97 "WellBack$Thing" "kind" "I").before av s = true := hts _ (by decide +kernel)
set_option maxRecDepth 20000 in
theorem inX6_ofThing_X4 : ∀ w ∈ u_ws RX4 TX4 5, w ∈ wsX6_ofThing := by decide +kernel
set_option maxHeartbeats 4000000 in
set_option maxRecDepth 100000 in
theorem a1_ofThing_0 (l : Launch) {D : va_G} {ca : Nat → ClassId} {ad : Nat → Nat} (hI : Ij ad 34) {σ : Sg} {n p g rn : Nat} {d : Nat → Nat} {th rd : Nat → Nat → Nat} {sl sn : Nat → Nat} {sc : Nat → Nat → Int32} {ft tr : Int32} {x : Nat} (hJ : I1 n p g rn d th rd sl sn sc ft tr σ) (hxn : x < n) : C1i l D ca ad yX6_ofThing wsX6_ofThing { frames := 3, cells := 0, slots := 0, locals := 84 } [.ref (ad 0), .int (nI x), .int (nI 0)] σ (fun r σ' => r = nI (th x 0) ∧ I1 n p g rn d th rd sl sn sc ft tr σ') := by
  refine xk_entry cX6_ofThing 4 (some .int) (by decide) rfl (Nat.le_of_ble_eq_true rfl) ?_
  intro pP eE sS mM below meth cC hx hb hml hr hts hown hlk hP hK hX hS ls hl
  have hl : lv_has ls 4 [(0, .ref (ad 0)), (1, .int (nI x)), (2, .int (nI 0))] := hl
  obtain ⟨hT, hR, hRd, hSh, hnp, hft, htr⟩ := id hJ
  have hn5 := hT.2.2.1
  have hg9 := hT.2.2.2.1
  have hp6 := hR.2.1
  have hrn8 := hRd.2.1
  have hXx := hT.2.2.2.2 x hxn
  obtain ⟨ho0, ho1, ho2, ho3, ho4⟩ := hXx.2
  refine lv_aload_n hx hb dX6_ofThing_0 rfl (lv_at hl 0 rfl) ?_
  refine lv_iload_n hx hb dX6_ofThing_1 rfl (lv_at hl 1 rfl) ?_
  refine xk_fa (va_runV (As := [.int (nI x)]) (rest := []) ⟨hx, hb, hml, hown, hts⟩ (k1_thingAt_in l hI (x := x) hT.2.1 hn5 (by omega)) (cwV 1 hts gX6_ofThing_X6_thingAt rfl rfl rfl (by decide +kernel) ⟨Nat.le_of_ble_eq_true rfl, Nat.le_of_ble_eq_true rfl⟩) (xk_preV X1_ok hK hX hP (xk_recv hK hP 0 (by omega) (ci := 6) e1_well rfl)) rfl rfl hl.1 rfl (lv_room (Nat.le_of_ble_eq_true rfl)) dX6_ofThing_2 ⟨Nat.le_of_ble_eq_true rfl, Nat.le_of_ble_eq_true rfl⟩) hS (fun H locs hP hS => ?_)
  refine lv_astore_n (lv' := [(3, .ref (ad (9 + x))), (0, .ref (ad 0)), (1, .int (nI x)), (2, .int (nI 0))]) hx hb dX6_ofThing_5 rfl hl (by decide) rfl (fun ls hl => ?_)
  refine lv_aload_n hx hb dX6_ofThing_6 rfl (lv_at hl 0 rfl) ?_
  refine lv_ifnonnull (tgt := 12) hx hb dX6_ofThing_7 (by decide) ?_
  refine lv_iload_n hx hb dX6_ofThing_12 rfl (lv_at hl 3 rfl) ?_
  refine lv_tableIn (tgt := 52) hx hb dX6_ofThing_13 (by decide) (by decide) (off := 39) (by decide) (by decide) ?_
  refine lv_aload_n hx hb dX6_ofThing_52 rfl (lv_at hl 0 rfl) ?_
  refine xk_get hx hb hts (inX6_ofThing_X4) hown hK hP (9 + x) (by omega) (ci := 4) (e1_thing (by omega) (by omega)) rfl 0 (by decide) (flX6_ofThing_97 hts) rfl (.int (σ (9 + x) 0)) rfl dX6_ofThing_53 ?_
  refine xn_eqi (y := nI (th x 0)) (hXx.1 0 (by omega)) ?_
  exact xk_iret hx hb hr (vp_nar_int _) X1_ok hK hX hP hS hlk dX6_ofThing_56 (⟨rfl, hJ⟩)

set_option maxRecDepth 20000 in
theorem flX6_ofThing_100 {s : State} {av : Array Value} (hts : ∀ w ∈ wsX6_ofThing, w.before av s = true) : (Cond.fieldLink RX6 100 "WellBack$Thing" "weight" "I").before av s = true := hts _ (by decide +kernel)
set_option maxHeartbeats 4000000 in
set_option maxRecDepth 100000 in
theorem a1_ofThing_1 (l : Launch) {D : va_G} {ca : Nat → ClassId} {ad : Nat → Nat} (hI : Ij ad 34) {σ : Sg} {n p g rn : Nat} {d : Nat → Nat} {th rd : Nat → Nat → Nat} {sl sn : Nat → Nat} {sc : Nat → Nat → Int32} {ft tr : Int32} {x : Nat} (hJ : I1 n p g rn d th rd sl sn sc ft tr σ) (hxn : x < n) : C1i l D ca ad yX6_ofThing wsX6_ofThing { frames := 3, cells := 0, slots := 0, locals := 84 } [.ref (ad 0), .int (nI x), .int (nI 1)] σ (fun r σ' => r = nI (th x 1) ∧ I1 n p g rn d th rd sl sn sc ft tr σ') := by
  refine xk_entry cX6_ofThing 4 (some .int) (by decide) rfl (Nat.le_of_ble_eq_true rfl) ?_
  intro pP eE sS mM below meth cC hx hb hml hr hts hown hlk hP hK hX hS ls hl
  have hl : lv_has ls 4 [(0, .ref (ad 0)), (1, .int (nI x)), (2, .int (nI 1))] := hl
  obtain ⟨hT, hR, hRd, hSh, hnp, hft, htr⟩ := id hJ
  have hn5 := hT.2.2.1
  have hg9 := hT.2.2.2.1
  have hp6 := hR.2.1
  have hrn8 := hRd.2.1
  have hXx := hT.2.2.2.2 x hxn
  obtain ⟨ho0, ho1, ho2, ho3, ho4⟩ := hXx.2
  refine lv_aload_n hx hb dX6_ofThing_0 rfl (lv_at hl 0 rfl) ?_
  refine lv_iload_n hx hb dX6_ofThing_1 rfl (lv_at hl 1 rfl) ?_
  refine xk_fa (va_runV (As := [.int (nI x)]) (rest := []) ⟨hx, hb, hml, hown, hts⟩ (k1_thingAt_in l hI (x := x) hT.2.1 hn5 (by omega)) (cwV 1 hts gX6_ofThing_X6_thingAt rfl rfl rfl (by decide +kernel) ⟨Nat.le_of_ble_eq_true rfl, Nat.le_of_ble_eq_true rfl⟩) (xk_preV X1_ok hK hX hP (xk_recv hK hP 0 (by omega) (ci := 6) e1_well rfl)) rfl rfl hl.1 rfl (lv_room (Nat.le_of_ble_eq_true rfl)) dX6_ofThing_2 ⟨Nat.le_of_ble_eq_true rfl, Nat.le_of_ble_eq_true rfl⟩) hS (fun H locs hP hS => ?_)
  refine lv_astore_n (lv' := [(3, .ref (ad (9 + x))), (0, .ref (ad 0)), (1, .int (nI x)), (2, .int (nI 1))]) hx hb dX6_ofThing_5 rfl hl (by decide) rfl (fun ls hl => ?_)
  refine lv_aload_n hx hb dX6_ofThing_6 rfl (lv_at hl 0 rfl) ?_
  refine lv_ifnonnull (tgt := 12) hx hb dX6_ofThing_7 (by decide) ?_
  refine lv_iload_n hx hb dX6_ofThing_12 rfl (lv_at hl 3 rfl) ?_
  refine lv_tableIn (tgt := 57) hx hb dX6_ofThing_13 (by decide) (by decide) (off := 44) (by decide) (by decide) ?_
  refine lv_aload_n hx hb dX6_ofThing_57 rfl (lv_at hl 0 rfl) ?_
  refine xk_get hx hb hts (inX6_ofThing_X4) hown hK hP (9 + x) (by omega) (ci := 4) (e1_thing (by omega) (by omega)) rfl 1 (by decide) (flX6_ofThing_100 hts) rfl (.int (σ (9 + x) 1)) rfl dX6_ofThing_58 ?_
  refine xn_eqi (y := nI (th x 1)) (hXx.1 1 (by omega)) ?_
  exact xk_iret hx hb hr (vp_nar_int _) X1_ok hK hX hP hS hlk dX6_ofThing_61 (⟨rfl, hJ⟩)

set_option maxRecDepth 20000 in
theorem flX6_ofThing_103 {s : State} {av : Array Value} (hts : ∀ w ∈ wsX6_ofThing, w.before av s = true) : (Cond.fieldLink RX6 103 "WellBack$Thing" "owner" "I").before av s = true := hts _ (by decide +kernel)
set_option maxHeartbeats 4000000 in
set_option maxRecDepth 100000 in
theorem a1_ofThing_2 (l : Launch) {D : va_G} {ca : Nat → ClassId} {ad : Nat → Nat} (hI : Ij ad 34) {σ : Sg} {n p g rn : Nat} {d : Nat → Nat} {th rd : Nat → Nat → Nat} {sl sn : Nat → Nat} {sc : Nat → Nat → Int32} {ft tr : Int32} {x : Nat} (hJ : I1 n p g rn d th rd sl sn sc ft tr σ) (hxn : x < n) : C1i l D ca ad yX6_ofThing wsX6_ofThing { frames := 3, cells := 0, slots := 0, locals := 84 } [.ref (ad 0), .int (nI x), .int (nI 2)] σ (fun r σ' => r = nI (th x 2) ∧ I1 n p g rn d th rd sl sn sc ft tr σ') := by
  refine xk_entry cX6_ofThing 4 (some .int) (by decide) rfl (Nat.le_of_ble_eq_true rfl) ?_
  intro pP eE sS mM below meth cC hx hb hml hr hts hown hlk hP hK hX hS ls hl
  have hl : lv_has ls 4 [(0, .ref (ad 0)), (1, .int (nI x)), (2, .int (nI 2))] := hl
  obtain ⟨hT, hR, hRd, hSh, hnp, hft, htr⟩ := id hJ
  have hn5 := hT.2.2.1
  have hg9 := hT.2.2.2.1
  have hp6 := hR.2.1
  have hrn8 := hRd.2.1
  have hXx := hT.2.2.2.2 x hxn
  obtain ⟨ho0, ho1, ho2, ho3, ho4⟩ := hXx.2
  refine lv_aload_n hx hb dX6_ofThing_0 rfl (lv_at hl 0 rfl) ?_
  refine lv_iload_n hx hb dX6_ofThing_1 rfl (lv_at hl 1 rfl) ?_
  refine xk_fa (va_runV (As := [.int (nI x)]) (rest := []) ⟨hx, hb, hml, hown, hts⟩ (k1_thingAt_in l hI (x := x) hT.2.1 hn5 (by omega)) (cwV 1 hts gX6_ofThing_X6_thingAt rfl rfl rfl (by decide +kernel) ⟨Nat.le_of_ble_eq_true rfl, Nat.le_of_ble_eq_true rfl⟩) (xk_preV X1_ok hK hX hP (xk_recv hK hP 0 (by omega) (ci := 6) e1_well rfl)) rfl rfl hl.1 rfl (lv_room (Nat.le_of_ble_eq_true rfl)) dX6_ofThing_2 ⟨Nat.le_of_ble_eq_true rfl, Nat.le_of_ble_eq_true rfl⟩) hS (fun H locs hP hS => ?_)
  refine lv_astore_n (lv' := [(3, .ref (ad (9 + x))), (0, .ref (ad 0)), (1, .int (nI x)), (2, .int (nI 2))]) hx hb dX6_ofThing_5 rfl hl (by decide) rfl (fun ls hl => ?_)
  refine lv_aload_n hx hb dX6_ofThing_6 rfl (lv_at hl 0 rfl) ?_
  refine lv_ifnonnull (tgt := 12) hx hb dX6_ofThing_7 (by decide) ?_
  refine lv_iload_n hx hb dX6_ofThing_12 rfl (lv_at hl 3 rfl) ?_
  refine lv_tableIn (tgt := 62) hx hb dX6_ofThing_13 (by decide) (by decide) (off := 49) (by decide) (by decide) ?_
  refine lv_aload_n hx hb dX6_ofThing_62 rfl (lv_at hl 0 rfl) ?_
  refine xk_get hx hb hts (inX6_ofThing_X4) hown hK hP (9 + x) (by omega) (ci := 4) (e1_thing (by omega) (by omega)) rfl 2 (by decide) (flX6_ofThing_103 hts) rfl (.int (σ (9 + x) 2)) rfl dX6_ofThing_63 ?_
  refine xn_eqi (y := nI (th x 2)) (hXx.1 2 (by omega)) ?_
  exact xk_iret hx hb hr (vp_nar_int _) X1_ok hK hX hP hS hlk dX6_ofThing_66 (⟨rfl, hJ⟩)

set_option maxRecDepth 20000 in
theorem flX6_ofThing_106 {s : State} {av : Array Value} (hts : ∀ w ∈ wsX6_ofThing, w.before av s = true) : (Cond.fieldLink RX6 106 "WellBack$Thing" "goal" "I").before av s = true := hts _ (by decide +kernel)
set_option maxHeartbeats 4000000 in
set_option maxRecDepth 100000 in
theorem a1_ofThing_3 (l : Launch) {D : va_G} {ca : Nat → ClassId} {ad : Nat → Nat} (hI : Ij ad 34) {σ : Sg} {n p g rn : Nat} {d : Nat → Nat} {th rd : Nat → Nat → Nat} {sl sn : Nat → Nat} {sc : Nat → Nat → Int32} {ft tr : Int32} {x : Nat} (hJ : I1 n p g rn d th rd sl sn sc ft tr σ) (hxn : x < n) : C1i l D ca ad yX6_ofThing wsX6_ofThing { frames := 3, cells := 0, slots := 0, locals := 84 } [.ref (ad 0), .int (nI x), .int (nI 3)] σ (fun r σ' => r = nI (th x 3) ∧ I1 n p g rn d th rd sl sn sc ft tr σ') := by
  refine xk_entry cX6_ofThing 4 (some .int) (by decide) rfl (Nat.le_of_ble_eq_true rfl) ?_
  intro pP eE sS mM below meth cC hx hb hml hr hts hown hlk hP hK hX hS ls hl
  have hl : lv_has ls 4 [(0, .ref (ad 0)), (1, .int (nI x)), (2, .int (nI 3))] := hl
  obtain ⟨hT, hR, hRd, hSh, hnp, hft, htr⟩ := id hJ
  have hn5 := hT.2.2.1
  have hg9 := hT.2.2.2.1
  have hp6 := hR.2.1
  have hrn8 := hRd.2.1
  have hXx := hT.2.2.2.2 x hxn
  obtain ⟨ho0, ho1, ho2, ho3, ho4⟩ := hXx.2
  refine lv_aload_n hx hb dX6_ofThing_0 rfl (lv_at hl 0 rfl) ?_
  refine lv_iload_n hx hb dX6_ofThing_1 rfl (lv_at hl 1 rfl) ?_
  refine xk_fa (va_runV (As := [.int (nI x)]) (rest := []) ⟨hx, hb, hml, hown, hts⟩ (k1_thingAt_in l hI (x := x) hT.2.1 hn5 (by omega)) (cwV 1 hts gX6_ofThing_X6_thingAt rfl rfl rfl (by decide +kernel) ⟨Nat.le_of_ble_eq_true rfl, Nat.le_of_ble_eq_true rfl⟩) (xk_preV X1_ok hK hX hP (xk_recv hK hP 0 (by omega) (ci := 6) e1_well rfl)) rfl rfl hl.1 rfl (lv_room (Nat.le_of_ble_eq_true rfl)) dX6_ofThing_2 ⟨Nat.le_of_ble_eq_true rfl, Nat.le_of_ble_eq_true rfl⟩) hS (fun H locs hP hS => ?_)
  refine lv_astore_n (lv' := [(3, .ref (ad (9 + x))), (0, .ref (ad 0)), (1, .int (nI x)), (2, .int (nI 3))]) hx hb dX6_ofThing_5 rfl hl (by decide) rfl (fun ls hl => ?_)
  refine lv_aload_n hx hb dX6_ofThing_6 rfl (lv_at hl 0 rfl) ?_
  refine lv_ifnonnull (tgt := 12) hx hb dX6_ofThing_7 (by decide) ?_
  refine lv_iload_n hx hb dX6_ofThing_12 rfl (lv_at hl 3 rfl) ?_
  refine lv_tableIn (tgt := 67) hx hb dX6_ofThing_13 (by decide) (by decide) (off := 54) (by decide) (by decide) ?_
  refine lv_aload_n hx hb dX6_ofThing_67 rfl (lv_at hl 0 rfl) ?_
  refine xk_get hx hb hts (inX6_ofThing_X4) hown hK hP (9 + x) (by omega) (ci := 4) (e1_thing (by omega) (by omega)) rfl 3 (by decide) (flX6_ofThing_106 hts) rfl (.int (σ (9 + x) 3)) rfl dX6_ofThing_68 ?_
  refine xn_eqi (y := nI (th x 3)) (hXx.1 3 (by omega)) ?_
  exact xk_iret hx hb hr (vp_nar_int _) X1_ok hK hX hP hS hlk dX6_ofThing_71 (⟨rfl, hJ⟩)

set_option maxRecDepth 20000 in
theorem flX6_ofThing_109 {s : State} {av : Array Value} (hts : ∀ w ∈ wsX6_ofThing, w.before av s = true) : (Cond.fieldLink RX6 109 "WellBack$Thing" "hour" "I").before av s = true := hts _ (by decide +kernel)
set_option maxHeartbeats 4000000 in
set_option maxRecDepth 100000 in
theorem a1_ofThing_4 (l : Launch) {D : va_G} {ca : Nat → ClassId} {ad : Nat → Nat} (hI : Ij ad 34) {σ : Sg} {n p g rn : Nat} {d : Nat → Nat} {th rd : Nat → Nat → Nat} {sl sn : Nat → Nat} {sc : Nat → Nat → Int32} {ft tr : Int32} {x : Nat} (hJ : I1 n p g rn d th rd sl sn sc ft tr σ) (hxn : x < n) : C1i l D ca ad yX6_ofThing wsX6_ofThing { frames := 3, cells := 0, slots := 0, locals := 84 } [.ref (ad 0), .int (nI x), .int (nI 4)] σ (fun r σ' => r = nI (th x 4) ∧ I1 n p g rn d th rd sl sn sc ft tr σ') := by
  refine xk_entry cX6_ofThing 4 (some .int) (by decide) rfl (Nat.le_of_ble_eq_true rfl) ?_
  intro pP eE sS mM below meth cC hx hb hml hr hts hown hlk hP hK hX hS ls hl
  have hl : lv_has ls 4 [(0, .ref (ad 0)), (1, .int (nI x)), (2, .int (nI 4))] := hl
  obtain ⟨hT, hR, hRd, hSh, hnp, hft, htr⟩ := id hJ
  have hn5 := hT.2.2.1
  have hg9 := hT.2.2.2.1
  have hp6 := hR.2.1
  have hrn8 := hRd.2.1
  have hXx := hT.2.2.2.2 x hxn
  obtain ⟨ho0, ho1, ho2, ho3, ho4⟩ := hXx.2
  refine lv_aload_n hx hb dX6_ofThing_0 rfl (lv_at hl 0 rfl) ?_
  refine lv_iload_n hx hb dX6_ofThing_1 rfl (lv_at hl 1 rfl) ?_
  refine xk_fa (va_runV (As := [.int (nI x)]) (rest := []) ⟨hx, hb, hml, hown, hts⟩ (k1_thingAt_in l hI (x := x) hT.2.1 hn5 (by omega)) (cwV 1 hts gX6_ofThing_X6_thingAt rfl rfl rfl (by decide +kernel) ⟨Nat.le_of_ble_eq_true rfl, Nat.le_of_ble_eq_true rfl⟩) (xk_preV X1_ok hK hX hP (xk_recv hK hP 0 (by omega) (ci := 6) e1_well rfl)) rfl rfl hl.1 rfl (lv_room (Nat.le_of_ble_eq_true rfl)) dX6_ofThing_2 ⟨Nat.le_of_ble_eq_true rfl, Nat.le_of_ble_eq_true rfl⟩) hS (fun H locs hP hS => ?_)
  refine lv_astore_n (lv' := [(3, .ref (ad (9 + x))), (0, .ref (ad 0)), (1, .int (nI x)), (2, .int (nI 4))]) hx hb dX6_ofThing_5 rfl hl (by decide) rfl (fun ls hl => ?_)
  refine lv_aload_n hx hb dX6_ofThing_6 rfl (lv_at hl 0 rfl) ?_
  refine lv_ifnonnull (tgt := 12) hx hb dX6_ofThing_7 (by decide) ?_
  refine lv_iload_n hx hb dX6_ofThing_12 rfl (lv_at hl 3 rfl) ?_
  refine lv_tableIn (tgt := 72) hx hb dX6_ofThing_13 (by decide) (by decide) (off := 59) (by decide) (by decide) ?_
  refine lv_aload_n hx hb dX6_ofThing_72 rfl (lv_at hl 0 rfl) ?_
  refine xk_get hx hb hts (inX6_ofThing_X4) hown hK hP (9 + x) (by omega) (ci := 4) (e1_thing (by omega) (by omega)) rfl 4 (by decide) (flX6_ofThing_109 hts) rfl (.int (σ (9 + x) 4)) rfl dX6_ofThing_73 ?_
  refine xn_eqi (y := nI (th x 4)) (hXx.1 4 (by omega)) ?_
  exact xk_iret hx hb hr (vp_nar_int _) X1_ok hK hX hP hS hlk dX6_ofThing_76 (⟨rfl, hJ⟩)

set_option maxHeartbeats 4000000 in
set_option maxRecDepth 100000 in
theorem a1_ofThing_5 (l : Launch) {D : va_G} {ca : Nat → ClassId} {ad : Nat → Nat} (hI : Ij ad 34) {σ : Sg} {n p g rn : Nat} {d : Nat → Nat} {th rd : Nat → Nat → Nat} {sl sn : Nat → Nat} {sc : Nat → Nat → Int32} {ft tr : Int32} {x : Nat} (hJ : I1 n p g rn d th rd sl sn sc ft tr σ) (hxn : x < n) : C1i l D ca ad yX6_ofThing wsX6_ofThing { frames := 3, cells := 0, slots := 0, locals := 84 } [.ref (ad 0), .int (nI x), .int (nI 5)] σ (fun r σ' => r = nI (dl g th x) ∧ I1 n p g rn d th rd sl sn sc ft tr σ') := by
  refine xk_entry cX6_ofThing 4 (some .int) (by decide) rfl (Nat.le_of_ble_eq_true rfl) ?_
  intro pP eE sS mM below meth cC hx hb hml hr hts hown hlk hP hK hX hS ls hl
  have hl : lv_has ls 4 [(0, .ref (ad 0)), (1, .int (nI x)), (2, .int (nI 5))] := hl
  obtain ⟨hT, hR, hRd, hSh, hnp, hft, htr⟩ := id hJ
  have hn5 := hT.2.2.1
  have hg9 := hT.2.2.2.1
  have hp6 := hR.2.1
  have hrn8 := hRd.2.1
  have hXx := hT.2.2.2.2 x hxn
  obtain ⟨ho0, ho1, ho2, ho3, ho4⟩ := hXx.2
  refine lv_aload_n hx hb dX6_ofThing_0 rfl (lv_at hl 0 rfl) ?_
  refine lv_iload_n hx hb dX6_ofThing_1 rfl (lv_at hl 1 rfl) ?_
  refine xk_fa (va_runV (As := [.int (nI x)]) (rest := []) ⟨hx, hb, hml, hown, hts⟩ (k1_thingAt_in l hI (x := x) hT.2.1 hn5 (by omega)) (cwV 1 hts gX6_ofThing_X6_thingAt rfl rfl rfl (by decide +kernel) ⟨Nat.le_of_ble_eq_true rfl, Nat.le_of_ble_eq_true rfl⟩) (xk_preV X1_ok hK hX hP (xk_recv hK hP 0 (by omega) (ci := 6) e1_well rfl)) rfl rfl hl.1 rfl (lv_room (Nat.le_of_ble_eq_true rfl)) dX6_ofThing_2 ⟨Nat.le_of_ble_eq_true rfl, Nat.le_of_ble_eq_true rfl⟩) hS (fun H locs hP hS => ?_)
  refine lv_astore_n (lv' := [(3, .ref (ad (9 + x))), (0, .ref (ad 0)), (1, .int (nI x)), (2, .int (nI 5))]) hx hb dX6_ofThing_5 rfl hl (by decide) rfl (fun ls hl => ?_)
  refine lv_aload_n hx hb dX6_ofThing_6 rfl (lv_at hl 0 rfl) ?_
  refine lv_ifnonnull (tgt := 12) hx hb dX6_ofThing_7 (by decide) ?_
  refine lv_iload_n hx hb dX6_ofThing_12 rfl (lv_at hl 3 rfl) ?_
  refine lv_tableIn (tgt := 77) hx hb dX6_ofThing_13 (by decide) (by decide) (off := 64) (by decide) (by decide) ?_
  refine lv_aload_n hx hb dX6_ofThing_77 rfl (lv_at hl 1 rfl) ?_
  refine lv_aload_n hx hb dX6_ofThing_78 rfl (lv_at hl 0 rfl) ?_
  refine xk_fi (va_runV (As := [.ref (ad (9 + x))]) (rest := []) ⟨hx, hb, hml, hown, hts⟩ (k1_delayOf l hI (x := x) hT (by omega)) (cwV 1 hts gX6_ofThing_X6_delayOf rfl rfl rfl (by decide +kernel) ⟨Nat.le_of_ble_eq_true rfl, Nat.le_of_ble_eq_true rfl⟩) (xk_preV X1_ok hK hX hP (xk_recv hK hP 0 (by omega) (ci := 6) e1_well rfl)) rfl rfl hl.1 rfl (lv_room (Nat.le_of_ble_eq_true rfl)) dX6_ofThing_79 ⟨Nat.le_of_ble_eq_true rfl, Nat.le_of_ble_eq_true rfl⟩) hS (fun H locs hP hS => ?_)
  have hdl_79 : dl g th x ≤ 36 := dly_le hg9 ho1
  exact xk_iret hx hb hr (vp_nar_int _) X1_ok hK hX hP hS hlk dX6_ofThing_82 (⟨rfl, hJ⟩)

set_option maxHeartbeats 4000000 in
set_option maxRecDepth 100000 in
theorem a1_ofThing_wo (l : Launch) {D : va_G} {ca : Nat → ClassId} {ad : Nat → Nat} (hI : Ij ad 34) {σ : Sg} {n p g rn : Nat} {d : Nat → Nat} {th rd : Nat → Nat → Nat} {sl sn : Nat → Nat} {sc : Nat → Nat → Int32} {ft tr : Int32} {x : Nat} {w : Int32} (hJ : I1 n p g rn d th rd sl sn sc ft tr σ) (hxn : x < n) (hw : ¬ (nI 0 ≤ w ∧ w ≤ nI 5)) : C1i l D ca ad yX6_ofThing wsX6_ofThing { frames := 3, cells := 0, slots := 0, locals := 84 } [.ref (ad 0), .int (nI x), .int w] σ (fun r σ' => r = -2 ∧ I1 n p g rn d th rd sl sn sc ft tr σ') := by
  refine xk_entry cX6_ofThing 4 (some .int) (by decide) rfl (Nat.le_of_ble_eq_true rfl) ?_
  intro pP eE sS mM below meth cC hx hb hml hr hts hown hlk hP hK hX hS ls hl
  have hl : lv_has ls 4 [(0, .ref (ad 0)), (1, .int (nI x)), (2, .int w)] := hl
  obtain ⟨hT, hR, hRd, hSh, hnp, hft, htr⟩ := id hJ
  have hn5 := hT.2.2.1
  have hg9 := hT.2.2.2.1
  have hp6 := hR.2.1
  have hrn8 := hRd.2.1
  have hXx := hT.2.2.2.2 x hxn
  obtain ⟨ho0, ho1, ho2, ho3, ho4⟩ := hXx.2
  refine lv_aload_n hx hb dX6_ofThing_0 rfl (lv_at hl 0 rfl) ?_
  refine lv_iload_n hx hb dX6_ofThing_1 rfl (lv_at hl 1 rfl) ?_
  refine xk_fa (va_runV (As := [.int (nI x)]) (rest := []) ⟨hx, hb, hml, hown, hts⟩ (k1_thingAt_in l hI (x := x) hT.2.1 hn5 (by omega)) (cwV 1 hts gX6_ofThing_X6_thingAt rfl rfl rfl (by decide +kernel) ⟨Nat.le_of_ble_eq_true rfl, Nat.le_of_ble_eq_true rfl⟩) (xk_preV X1_ok hK hX hP (xk_recv hK hP 0 (by omega) (ci := 6) e1_well rfl)) rfl rfl hl.1 rfl (lv_room (Nat.le_of_ble_eq_true rfl)) dX6_ofThing_2 ⟨Nat.le_of_ble_eq_true rfl, Nat.le_of_ble_eq_true rfl⟩) hS (fun H locs hP hS => ?_)
  refine lv_astore_n (lv' := [(3, .ref (ad (9 + x))), (0, .ref (ad 0)), (1, .int (nI x)), (2, .int w)]) hx hb dX6_ofThing_5 rfl hl (by decide) rfl (fun ls hl => ?_)
  refine lv_aload_n hx hb dX6_ofThing_6 rfl (lv_at hl 0 rfl) ?_
  refine lv_ifnonnull (tgt := 12) hx hb dX6_ofThing_7 (by decide) ?_
  refine lv_iload_n hx hb dX6_ofThing_12 rfl (lv_at hl 3 rfl) ?_
  refine lv_tableOut (tgt := 83) hx hb dX6_ofThing_13 (xn_tab hw) (by decide) ?_
  refine lv_bipush (v := (-2)) hx hb dX6_ofThing_83 (by decide) ?_
  exact xk_iret hx hb hr (vp_nar_int _) X1_ok hK hX hP hS hlk dX6_ofThing_85 (⟨rfl, hJ⟩)

set_option maxHeartbeats 4000000 in
set_option maxRecDepth 100000 in
theorem a1_draws_no (l : Launch) {D : va_G} {ca : Nat → ClassId} {ad : Nat → Nat} (hI : Ij ad 34) {σ : Sg} {n p g rn : Nat} {d : Nat → Nat} {th rd : Nat → Nat → Nat} {sl sn : Nat → Nat} {sc : Nat → Nat → Int32} {ft tr : Int32} {h : Int32} (hJ : I1 n p g rn d th rd sl sn sc ft tr σ) (hn0 : n = 0) : C1i l D ca ad yX6_draws wsX6_draws { frames := 1, cells := 0, slots := 0, locals := 22 } [.ref (ad 0), .int h] σ (fun r σ' => r = -3 ∧ I1 n p g rn d th rd sl sn sc ft tr σ') := by
  refine xk_entry cX6_draws 2 (some .int) (by decide) rfl (Nat.le_of_ble_eq_true rfl) ?_
  intro pP eE sS mM below meth cC hx hb hml hr hts hown hlk hP hK hX hS ls hl
  have hl : lv_has ls 2 [(0, .ref (ad 0)), (1, .int h)] := hl
  obtain ⟨hT, hR, hRd, hSh, hnp, hft, htr⟩ := id hJ
  have hn5 := hT.2.2.1
  have hg9 := hT.2.2.2.1
  have hp6 := hR.2.1
  have hrn8 := hRd.2.1
  refine lv_aload_n hx hb dX6_draws_0 rfl (lv_at hl 0 rfl) ?_
  refine xk_fi (va_runV (As := []) (rest := []) ⟨hx, hb, hml, hown, hts⟩ (k1_hasWell_f l hI hT.2.1 hn5 (by omega)) (cwV 0 hts gX6_draws_X6_hasWell rfl rfl rfl (by decide +kernel) ⟨Nat.le_of_ble_eq_true rfl, Nat.le_of_ble_eq_true rfl⟩) (xk_preV X1_ok hK hX hP (xk_recv hK hP 0 (by omega) (ci := 6) e1_well rfl)) rfl rfl hl.1 rfl (lv_room (Nat.le_of_ble_eq_true rfl)) dX6_draws_1 ⟨Nat.le_of_ble_eq_true rfl, Nat.le_of_ble_eq_true rfl⟩) hS (fun H locs hP hS => ?_)
  refine xn_zne (tgt := 10) hx hb dX6_draws_4 (by decide) (by omega) (fun c_4 => absurd c_4 (by omega)) (fun c_4 => ?_)
  refine lv_bipush (v := (-3)) hx hb dX6_draws_7 (by decide) ?_
  exact xk_iret hx hb hr (vp_nar_int _) X1_ok hK hX hP hS hlk dX6_draws_9 (⟨rfl, hJ⟩)

set_option maxHeartbeats 4000000 in
set_option maxRecDepth 100000 in
theorem a1_draws_ho (l : Launch) {D : va_G} {ca : Nat → ClassId} {ad : Nat → Nat} (hI : Ij ad 34) {σ : Sg} {n p g rn : Nat} {d : Nat → Nat} {th rd : Nat → Nat → Nat} {sl sn : Nat → Nat} {sc : Nat → Nat → Int32} {ft tr : Int32} {h : Int32} (hJ : I1 n p g rn d th rd sl sn sc ft tr σ) (hn0 : 0 < n) (hho : ¬ (nI 0 ≤ h ∧ h ≤ nI 99)) : C1i l D ca ad yX6_draws wsX6_draws { frames := 1, cells := 0, slots := 0, locals := 22 } [.ref (ad 0), .int h] σ (fun r σ' => r = -2 ∧ I1 n p g rn d th rd sl sn sc ft tr σ') := by
  refine xk_entry cX6_draws 2 (some .int) (by decide) rfl (Nat.le_of_ble_eq_true rfl) ?_
  intro pP eE sS mM below meth cC hx hb hml hr hts hown hlk hP hK hX hS ls hl
  have hl : lv_has ls 2 [(0, .ref (ad 0)), (1, .int h)] := hl
  obtain ⟨hT, hR, hRd, hSh, hnp, hft, htr⟩ := id hJ
  have hn5 := hT.2.2.1
  have hg9 := hT.2.2.2.1
  have hp6 := hR.2.1
  have hrn8 := hRd.2.1
  have hp0 := hnp.mp hn0
  refine lv_aload_n hx hb dX6_draws_0 rfl (lv_at hl 0 rfl) ?_
  refine xk_fi (va_runV (As := []) (rest := []) ⟨hx, hb, hml, hown, hts⟩ (k1_hasWell_t l hI hT.2.1 hn5 (by omega)) (cwV 0 hts gX6_draws_X6_hasWell rfl rfl rfl (by decide +kernel) ⟨Nat.le_of_ble_eq_true rfl, Nat.le_of_ble_eq_true rfl⟩) (xk_preV X1_ok hK hX hP (xk_recv hK hP 0 (by omega) (ci := 6) e1_well rfl)) rfl rfl hl.1 rfl (lv_room (Nat.le_of_ble_eq_true rfl)) dX6_draws_1 ⟨Nat.le_of_ble_eq_true rfl, Nat.le_of_ble_eq_true rfl⟩) hS (fun H locs hP hS => ?_)
  refine xn_zne (tgt := 10) hx hb dX6_draws_4 (by decide) (by omega) (fun c_4 => ?_) (fun c_4 => absurd c_4 (by omega))
  refine lv_iload_n hx hb dX6_draws_10 rfl (lv_at hl 1 rfl) ?_
  refine lv_iconst (v := nI 0) hx hb dX6_draws_11 (by decide) ?_
  refine lv_bipush (v := nI 99) hx hb dX6_draws_12 (by decide) ?_
  refine xk_fi (va_runS (As := [.int h, .int (nI 0), .int (nI 99)]) (rest := []) ⟨hx, hb, hml, hown, hts⟩ (k1_within_f l hI h (nI 0) (nI 99) (by assumption)) (va_cwS 3 hts gX6_draws_X6_within rfl rfl rfl (by decide +kernel) ⟨Nat.le_of_ble_eq_true rfl, Nat.le_of_ble_eq_true rfl⟩) (xk_preS X1_ok hK hX hP) rfl rfl hl.1 rfl (lv_room (Nat.le_of_ble_eq_true rfl)) dX6_draws_14 ⟨Nat.le_of_ble_eq_true rfl, Nat.le_of_ble_eq_true rfl⟩) hS (fun H locs hP hS => ?_)
  refine xn_zeq (tgt := 31) hx hb dX6_draws_17 (by decide) (by omega) (fun c_17 => ?_) (fun c_17 => absurd c_17 (by omega))
  refine lv_bipush (v := (-2)) hx hb dX6_draws_31 (by decide) ?_
  exact xk_iret hx hb hr (vp_nar_int _) X1_ok hK hX hP hS hlk dX6_draws_33 (⟨rfl, hJ⟩)

set_option maxRecDepth 20000 in
theorem flX6_draws_32 {s : State} {av : Array Value} (hts : ∀ w ∈ wsX6_draws, w.before av s = true) : (Cond.fieldLink RX6 32 "WellBack" "rota" "LWellBack$Rota;").before av s = true := hts _ (by decide +kernel)
set_option maxRecDepth 20000 in
theorem inX6_draws_X6 : ∀ w ∈ u_ws RX6 TX6 13, w ∈ wsX6_draws := by decide +kernel
set_option maxHeartbeats 4000000 in
set_option maxRecDepth 100000 in
theorem a1_draws_ok (l : Launch) {D : va_G} {ca : Nat → ClassId} {ad : Nat → Nat} (hI : Ij ad 34) {σ : Sg} {n p g rn : Nat} {d : Nat → Nat} {th rd : Nat → Nat → Nat} {sl sn : Nat → Nat} {sc : Nat → Nat → Int32} {ft tr : Int32} {h : Nat} (hJ : I1 n p g rn d th rd sl sn sc ft tr σ) (hn0 : 0 < n) (hh : h ≤ 99) : C1i l D ca ad yX6_draws wsX6_draws { frames := 1, cells := 0, slots := 0, locals := 22 } [.ref (ad 0), .int (nI h)] σ (fun r σ' => r = nI (d (h % p)) ∧ I1 n p g rn d th rd sl sn sc ft tr σ') := by
  refine xk_entry cX6_draws 2 (some .int) (by decide) rfl (Nat.le_of_ble_eq_true rfl) ?_
  intro pP eE sS mM below meth cC hx hb hml hr hts hown hlk hP hK hX hS ls hl
  have hl : lv_has ls 2 [(0, .ref (ad 0)), (1, .int (nI h))] := hl
  obtain ⟨hT, hR, hRd, hSh, hnp, hft, htr⟩ := id hJ
  have hn5 := hT.2.2.1
  have hg9 := hT.2.2.2.1
  have hp6 := hR.2.1
  have hrn8 := hRd.2.1
  have hp0 := hnp.mp hn0
  refine lv_aload_n hx hb dX6_draws_0 rfl (lv_at hl 0 rfl) ?_
  refine xk_fi (va_runV (As := []) (rest := []) ⟨hx, hb, hml, hown, hts⟩ (k1_hasWell_t l hI hT.2.1 hn5 (by omega)) (cwV 0 hts gX6_draws_X6_hasWell rfl rfl rfl (by decide +kernel) ⟨Nat.le_of_ble_eq_true rfl, Nat.le_of_ble_eq_true rfl⟩) (xk_preV X1_ok hK hX hP (xk_recv hK hP 0 (by omega) (ci := 6) e1_well rfl)) rfl rfl hl.1 rfl (lv_room (Nat.le_of_ble_eq_true rfl)) dX6_draws_1 ⟨Nat.le_of_ble_eq_true rfl, Nat.le_of_ble_eq_true rfl⟩) hS (fun H locs hP hS => ?_)
  refine xn_zne (tgt := 10) hx hb dX6_draws_4 (by decide) (by omega) (fun c_4 => ?_) (fun c_4 => absurd c_4 (by omega))
  refine lv_iload_n hx hb dX6_draws_10 rfl (lv_at hl 1 rfl) ?_
  refine lv_iconst (v := nI 0) hx hb dX6_draws_11 (by decide) ?_
  refine lv_bipush (v := nI 99) hx hb dX6_draws_12 (by decide) ?_
  refine xk_fi (va_runS (As := [.int (nI h), .int (nI 0), .int (nI 99)]) (rest := []) ⟨hx, hb, hml, hown, hts⟩ (k1_within_t l hI (nI h) (nI 0) (nI 99) (xn_in (by omega) (by omega) (by omega))) (va_cwS 3 hts gX6_draws_X6_within rfl rfl rfl (by decide +kernel) ⟨Nat.le_of_ble_eq_true rfl, Nat.le_of_ble_eq_true rfl⟩) (xk_preS X1_ok hK hX hP) rfl rfl hl.1 rfl (lv_room (Nat.le_of_ble_eq_true rfl)) dX6_draws_14 ⟨Nat.le_of_ble_eq_true rfl, Nat.le_of_ble_eq_true rfl⟩) hS (fun H locs hP hS => ?_)
  refine xn_zeq (tgt := 31) hx hb dX6_draws_17 (by decide) (by omega) (fun c_17 => absurd c_17 (by omega)) (fun c_17 => ?_)
  refine lv_aload_n hx hb dX6_draws_20 rfl (lv_at hl 0 rfl) ?_
  refine xk_get hx hb hts (inX6_draws_X6) hown hK hP 0 (by omega) (ci := 6) e1_well rfl 3 (by decide) (flX6_draws_32 hts) rfl (.ref (ad 22)) rfl dX6_draws_21 ?_
  refine lv_iload_n hx hb dX6_draws_24 rfl (lv_at hl 1 rfl) ?_
  refine xk_fi (va_runV (As := [.int (nI h)]) (rest := []) ⟨hx, hb, hml, hown, hts⟩ (k1_drawerIn l hI (q := 22) (d := d) (h := h) (by omega) (by omega) hR (by omega) (by omega)) (cwV 1 hts gX6_draws_X1_drawerIn rfl rfl rfl (by decide +kernel) ⟨Nat.le_of_ble_eq_true rfl, Nat.le_of_ble_eq_true rfl⟩) (xk_preV X1_ok hK hX hP (xk_recv hK hP 22 (by omega) (ci := 1) (e1_rota (by omega) (by omega)) rfl)) rfl rfl hl.1 rfl (lv_room (Nat.le_of_ble_eq_true rfl)) dX6_draws_25 ⟨Nat.le_of_ble_eq_true rfl, Nat.le_of_ble_eq_true rfl⟩) hS (fun H locs hP hS => ?_)
  refine lv_goto (tgt := 33) hx hb dX6_draws_28 (by decide) ?_
  exact xk_iret hx hb hr (vp_nar_int _) X1_ok hK hX hP hS hlk dX6_draws_33 (⟨rfl, hJ⟩)

set_option maxHeartbeats 4000000 in
set_option maxRecDepth 100000 in
theorem a1_weigh_xo (l : Launch) {D : va_G} {ca : Nat → ClassId} {ad : Nat → Nat} (hI : Ij ad 34) {σ : Sg} {n p g rn : Nat} {d : Nat → Nat} {th rd : Nat → Nat → Nat} {sl sn : Nat → Nat} {sc : Nat → Nat → Int32} {ft tr : Int32} {x : Int32} {v : Int32} (hJ : I1 n p g rn d th rd sl sn sc ft tr σ) (hxx : ∀ j, j < n → x ≠ nI j) : C1i l D ca ad yX6_weigh wsX6_weigh { frames := 1, cells := 0, slots := 0, locals := 22 } [.ref (ad 0), .int x, .int v] σ (fun r σ' => r = -1 ∧ I1 n p g rn d th rd sl sn sc ft tr σ') := by
  refine xk_entry cX6_weigh 5 (some .int) (by decide) rfl (Nat.le_of_ble_eq_true rfl) ?_
  intro pP eE sS mM below meth cC hx hb hml hr hts hown hlk hP hK hX hS ls hl
  have hl : lv_has ls 5 [(0, .ref (ad 0)), (1, .int x), (2, .int v)] := hl
  obtain ⟨hT, hR, hRd, hSh, hnp, hft, htr⟩ := id hJ
  have hn5 := hT.2.2.1
  have hg9 := hT.2.2.2.1
  have hp6 := hR.2.1
  have hrn8 := hRd.2.1
  refine lv_aload_n hx hb dX6_weigh_0 rfl (lv_at hl 0 rfl) ?_
  refine lv_iload_n hx hb dX6_weigh_1 rfl (lv_at hl 1 rfl) ?_
  refine xk_fz (va_runV (As := [.int x]) (rest := []) ⟨hx, hb, hml, hown, hts⟩ (k1_thingAt_out l hI (x := x) hT.2.1 hn5 (by assumption)) (cwV 1 hts gX6_weigh_X6_thingAt rfl rfl rfl (by decide +kernel) ⟨Nat.le_of_ble_eq_true rfl, Nat.le_of_ble_eq_true rfl⟩) (xk_preV X1_ok hK hX hP (xk_recv hK hP 0 (by omega) (ci := 6) e1_well rfl)) rfl rfl hl.1 rfl (lv_room (Nat.le_of_ble_eq_true rfl)) dX6_weigh_2 ⟨Nat.le_of_ble_eq_true rfl, Nat.le_of_ble_eq_true rfl⟩) hS (fun H locs hP hS => ?_)
  refine lv_astore_nN (lv' := [(3, .null), (0, .ref (ad 0)), (1, .int x), (2, .int v)]) hx hb dX6_weigh_5 rfl hl (by decide) rfl (fun ls hl => ?_)
  refine lv_aload_nN hx hb dX6_weigh_6 rfl (lv_at hl 0 rfl) ?_
  refine lv_ifnonnullN hx hb dX6_weigh_7 ?_
  refine lv_iconst (v := (-1)) hx hb dX6_weigh_10 (by decide) ?_
  exact xk_iret hx hb hr (vp_nar_int _) X1_ok hK hX hP hS hlk dX6_weigh_11 (⟨rfl, hJ⟩)

set_option maxHeartbeats 4000000 in
set_option maxRecDepth 100000 in
theorem a1_weigh_vo (l : Launch) {D : va_G} {ca : Nat → ClassId} {ad : Nat → Nat} (hI : Ij ad 34) {σ : Sg} {n p g rn : Nat} {d : Nat → Nat} {th rd : Nat → Nat → Nat} {sl sn : Nat → Nat} {sc : Nat → Nat → Int32} {ft tr : Int32} {x : Nat} {v : Int32} (hJ : I1 n p g rn d th rd sl sn sc ft tr σ) (hxn : x < n) (hvo : ¬ (nI 0 ≤ v ∧ v ≤ nI 9)) : C1i l D ca ad yX6_weigh wsX6_weigh { frames := 1, cells := 0, slots := 0, locals := 22 } [.ref (ad 0), .int (nI x), .int v] σ (fun r σ' => r = -2 ∧ I1 n p g rn d th rd sl sn sc ft tr σ') := by
  refine xk_entry cX6_weigh 5 (some .int) (by decide) rfl (Nat.le_of_ble_eq_true rfl) ?_
  intro pP eE sS mM below meth cC hx hb hml hr hts hown hlk hP hK hX hS ls hl
  have hl : lv_has ls 5 [(0, .ref (ad 0)), (1, .int (nI x)), (2, .int v)] := hl
  obtain ⟨hT, hR, hRd, hSh, hnp, hft, htr⟩ := id hJ
  have hn5 := hT.2.2.1
  have hg9 := hT.2.2.2.1
  have hp6 := hR.2.1
  have hrn8 := hRd.2.1
  have hXx := hT.2.2.2.2 x hxn
  obtain ⟨ho0, ho1, ho2, ho3, ho4⟩ := hXx.2
  refine lv_aload_n hx hb dX6_weigh_0 rfl (lv_at hl 0 rfl) ?_
  refine lv_iload_n hx hb dX6_weigh_1 rfl (lv_at hl 1 rfl) ?_
  refine xk_fa (va_runV (As := [.int (nI x)]) (rest := []) ⟨hx, hb, hml, hown, hts⟩ (k1_thingAt_in l hI (x := x) hT.2.1 hn5 (by omega)) (cwV 1 hts gX6_weigh_X6_thingAt rfl rfl rfl (by decide +kernel) ⟨Nat.le_of_ble_eq_true rfl, Nat.le_of_ble_eq_true rfl⟩) (xk_preV X1_ok hK hX hP (xk_recv hK hP 0 (by omega) (ci := 6) e1_well rfl)) rfl rfl hl.1 rfl (lv_room (Nat.le_of_ble_eq_true rfl)) dX6_weigh_2 ⟨Nat.le_of_ble_eq_true rfl, Nat.le_of_ble_eq_true rfl⟩) hS (fun H locs hP hS => ?_)
  refine lv_astore_n (lv' := [(3, .ref (ad (9 + x))), (0, .ref (ad 0)), (1, .int (nI x)), (2, .int v)]) hx hb dX6_weigh_5 rfl hl (by decide) rfl (fun ls hl => ?_)
  refine lv_aload_n hx hb dX6_weigh_6 rfl (lv_at hl 0 rfl) ?_
  refine lv_ifnonnull (tgt := 12) hx hb dX6_weigh_7 (by decide) ?_
  refine lv_iload_n hx hb dX6_weigh_12 rfl (lv_at hl 3 rfl) ?_
  refine lv_iconst (v := nI 0) hx hb dX6_weigh_13 (by decide) ?_
  refine lv_bipush (v := nI 9) hx hb dX6_weigh_14 (by decide) ?_
  refine xk_fi (va_runS (As := [.int v, .int (nI 0), .int (nI 9)]) (rest := []) ⟨hx, hb, hml, hown, hts⟩ (k1_within_f l hI v (nI 0) (nI 9) (by assumption)) (va_cwS 3 hts gX6_weigh_X6_within rfl rfl rfl (by decide +kernel) ⟨Nat.le_of_ble_eq_true rfl, Nat.le_of_ble_eq_true rfl⟩) (xk_preS X1_ok hK hX hP) rfl rfl hl.1 rfl (lv_room (Nat.le_of_ble_eq_true rfl)) dX6_weigh_16 ⟨Nat.le_of_ble_eq_true rfl, Nat.le_of_ble_eq_true rfl⟩) hS (fun H locs hP hS => ?_)
  refine xn_zne (tgt := 25) hx hb dX6_weigh_19 (by decide) (by omega) (fun c_19 => absurd c_19 (by omega)) (fun c_19 => ?_)
  refine lv_bipush (v := (-2)) hx hb dX6_weigh_22 (by decide) ?_
  exact xk_iret hx hb hr (vp_nar_int _) X1_ok hK hX hP hS hlk dX6_weigh_24 (⟨rfl, hJ⟩)

set_option maxRecDepth 20000 in
theorem flX6_weigh_100 {s : State} {av : Array Value} (hts : ∀ w ∈ wsX6_weigh, w.before av s = true) : (Cond.fieldLink RX6 100 "WellBack$Thing" "weight" "I").before av s = true := hts _ (by decide +kernel)
set_option maxRecDepth 20000 in
theorem inX6_weigh_X4 : ∀ w ∈ u_ws RX4 TX4 5, w ∈ wsX6_weigh := by decide +kernel
set_option maxHeartbeats 4000000 in
set_option maxRecDepth 100000 in
theorem a1_weigh_ok (l : Launch) {D : va_G} {ca : Nat → ClassId} {ad : Nat → Nat} (hI : Ij ad 34) {σ : Sg} {n p g rn : Nat} {d : Nat → Nat} {th rd : Nat → Nat → Nat} {sl sn : Nat → Nat} {sc : Nat → Nat → Int32} {ft tr : Int32} {x : Nat} {v : Nat} (hJ : I1 n p g rn d th rd sl sn sc ft tr σ) (hxn : x < n) (hv9 : v ≤ 9) : C1i l D ca ad yX6_weigh wsX6_weigh { frames := 1, cells := 0, slots := 0, locals := 22 } [.ref (ad 0), .int (nI x), .int (nI v)] σ (fun r σ' => r = nI (th x 1) ∧ I1 n p g rn d (uth th x 1 v) rd sl sn sc ft tr σ') := by
  refine xk_entry cX6_weigh 5 (some .int) (by decide) rfl (Nat.le_of_ble_eq_true rfl) ?_
  intro pP eE sS mM below meth cC hx hb hml hr hts hown hlk hP hK hX hS ls hl
  have hl : lv_has ls 5 [(0, .ref (ad 0)), (1, .int (nI x)), (2, .int (nI v))] := hl
  obtain ⟨hT, hR, hRd, hSh, hnp, hft, htr⟩ := id hJ
  have hn5 := hT.2.2.1
  have hg9 := hT.2.2.2.1
  have hp6 := hR.2.1
  have hrn8 := hRd.2.1
  have hXx := hT.2.2.2.2 x hxn
  obtain ⟨ho0, ho1, ho2, ho3, ho4⟩ := hXx.2
  refine lv_aload_n hx hb dX6_weigh_0 rfl (lv_at hl 0 rfl) ?_
  refine lv_iload_n hx hb dX6_weigh_1 rfl (lv_at hl 1 rfl) ?_
  refine xk_fa (va_runV (As := [.int (nI x)]) (rest := []) ⟨hx, hb, hml, hown, hts⟩ (k1_thingAt_in l hI (x := x) hT.2.1 hn5 (by omega)) (cwV 1 hts gX6_weigh_X6_thingAt rfl rfl rfl (by decide +kernel) ⟨Nat.le_of_ble_eq_true rfl, Nat.le_of_ble_eq_true rfl⟩) (xk_preV X1_ok hK hX hP (xk_recv hK hP 0 (by omega) (ci := 6) e1_well rfl)) rfl rfl hl.1 rfl (lv_room (Nat.le_of_ble_eq_true rfl)) dX6_weigh_2 ⟨Nat.le_of_ble_eq_true rfl, Nat.le_of_ble_eq_true rfl⟩) hS (fun H locs hP hS => ?_)
  refine lv_astore_n (lv' := [(3, .ref (ad (9 + x))), (0, .ref (ad 0)), (1, .int (nI x)), (2, .int (nI v))]) hx hb dX6_weigh_5 rfl hl (by decide) rfl (fun ls hl => ?_)
  refine lv_aload_n hx hb dX6_weigh_6 rfl (lv_at hl 0 rfl) ?_
  refine lv_ifnonnull (tgt := 12) hx hb dX6_weigh_7 (by decide) ?_
  refine lv_iload_n hx hb dX6_weigh_12 rfl (lv_at hl 3 rfl) ?_
  refine lv_iconst (v := nI 0) hx hb dX6_weigh_13 (by decide) ?_
  refine lv_bipush (v := nI 9) hx hb dX6_weigh_14 (by decide) ?_
  refine xk_fi (va_runS (As := [.int (nI v), .int (nI 0), .int (nI 9)]) (rest := []) ⟨hx, hb, hml, hown, hts⟩ (k1_within_t l hI (nI v) (nI 0) (nI 9) (xn_in (by omega) (by omega) (by omega))) (va_cwS 3 hts gX6_weigh_X6_within rfl rfl rfl (by decide +kernel) ⟨Nat.le_of_ble_eq_true rfl, Nat.le_of_ble_eq_true rfl⟩) (xk_preS X1_ok hK hX hP) rfl rfl hl.1 rfl (lv_room (Nat.le_of_ble_eq_true rfl)) dX6_weigh_16 ⟨Nat.le_of_ble_eq_true rfl, Nat.le_of_ble_eq_true rfl⟩) hS (fun H locs hP hS => ?_)
  refine xn_zne (tgt := 25) hx hb dX6_weigh_19 (by decide) (by omega) (fun c_19 => ?_) (fun c_19 => absurd c_19 (by omega))
  refine lv_aload_n hx hb dX6_weigh_25 rfl (lv_at hl 0 rfl) ?_
  refine xk_get hx hb hts (inX6_weigh_X4) hown hK hP (9 + x) (by omega) (ci := 4) (e1_thing (by omega) (by omega)) rfl 1 (by decide) (flX6_weigh_100 hts) rfl (.int (σ (9 + x) 1)) rfl dX6_weigh_26 ?_
  refine xn_eqi (y := nI (th x 1)) (hXx.1 1 (by omega)) ?_
  refine lv_istore (lv' := [(4, .int (nI (th x 1))), (3, .ref (ad (9 + x))), (0, .ref (ad 0)), (1, .int (nI x)), (2, .int (nI v))]) hx hb dX6_weigh_29 hl (by decide) rfl (fun ls hl => ?_)
  refine lv_aload_n hx hb dX6_weigh_31 rfl (lv_at hl 1 rfl) ?_
  refine lv_iload_n hx hb dX6_weigh_32 rfl (lv_at hl 4 rfl) ?_
  refine xk_put hx hb hts (inX6_weigh_X4) tyX4 tyX4_ok nmX4 hown hK hI hP hS (9 + x) (by omega) (ci := 4) (e1_thing (by omega) (by omega)) rfl 1 (by decide) (flX6_weigh_100 hts) rfl rfl (by decide +kernel) (Nat.le_of_ble_eq_true rfl) e1_loc (by rw [e1_thing (by omega) (by omega)]; simp [up]) dX6_weigh_33 (fun H locs hP hS => ?_)
  refine lv_iload hx hb dX6_weigh_36 (lv_at hl 0 rfl) ?_
  exact xk_iret hx hb hr (vp_nar_int _) X1_ok hK hX hP hS hlk dX6_weigh_38 (⟨rfl, I1_w hJ hxn hv9⟩)

set_option maxHeartbeats 4000000 in
set_option maxRecDepth 100000 in
theorem a1_dig_vo (l : Launch) {D : va_G} {ca : Nat → ClassId} {ad : Nat → Nat} (hI : Ij ad 34) {σ : Sg} {n p g rn : Nat} {d : Nat → Nat} {th rd : Nat → Nat → Nat} {sl sn : Nat → Nat} {sc : Nat → Nat → Int32} {ft tr : Int32} {v : Int32} (hJ : I1 n p g rn d th rd sl sn sc ft tr σ) (hvo : ¬ (nI 0 ≤ v ∧ v ≤ nI 9)) : C1i l D ca ad yX6_dig wsX6_dig { frames := 1, cells := 0, slots := 0, locals := 22 } [.ref (ad 0), .int v] σ (fun r σ' => r = -2 ∧ I1 n p g rn d th rd sl sn sc ft tr σ') := by
  refine xk_entry cX6_dig 3 (some .int) (by decide) rfl (Nat.le_of_ble_eq_true rfl) ?_
  intro pP eE sS mM below meth cC hx hb hml hr hts hown hlk hP hK hX hS ls hl
  have hl : lv_has ls 3 [(0, .ref (ad 0)), (1, .int v)] := hl
  obtain ⟨hT, hR, hRd, hSh, hnp, hft, htr⟩ := id hJ
  have hn5 := hT.2.2.1
  have hg9 := hT.2.2.2.1
  have hp6 := hR.2.1
  have hrn8 := hRd.2.1
  refine lv_iload_n hx hb dX6_dig_0 rfl (lv_at hl 1 rfl) ?_
  refine lv_iconst (v := nI 0) hx hb dX6_dig_1 (by decide) ?_
  refine lv_bipush (v := nI 9) hx hb dX6_dig_2 (by decide) ?_
  refine xk_fi (va_runS (As := [.int v, .int (nI 0), .int (nI 9)]) (rest := []) ⟨hx, hb, hml, hown, hts⟩ (k1_within_f l hI v (nI 0) (nI 9) (by assumption)) (va_cwS 3 hts gX6_dig_X6_within rfl rfl rfl (by decide +kernel) ⟨Nat.le_of_ble_eq_true rfl, Nat.le_of_ble_eq_true rfl⟩) (xk_preS X1_ok hK hX hP) rfl rfl hl.1 rfl (lv_room (Nat.le_of_ble_eq_true rfl)) dX6_dig_4 ⟨Nat.le_of_ble_eq_true rfl, Nat.le_of_ble_eq_true rfl⟩) hS (fun H locs hP hS => ?_)
  refine xn_zne (tgt := 13) hx hb dX6_dig_7 (by decide) (by omega) (fun c_7 => absurd c_7 (by omega)) (fun c_7 => ?_)
  refine lv_bipush (v := (-2)) hx hb dX6_dig_10 (by decide) ?_
  exact xk_iret hx hb hr (vp_nar_int _) X1_ok hK hX hP hS hlk dX6_dig_12 (⟨rfl, hJ⟩)

set_option maxHeartbeats 4000000 in
set_option maxRecDepth 100000 in
theorem a1_dig_no (l : Launch) {D : va_G} {ca : Nat → ClassId} {ad : Nat → Nat} (hI : Ij ad 34) {σ : Sg} {n p g rn : Nat} {d : Nat → Nat} {th rd : Nat → Nat → Nat} {sl sn : Nat → Nat} {sc : Nat → Nat → Int32} {ft tr : Int32} {v : Nat} (hJ : I1 n p g rn d th rd sl sn sc ft tr σ) (hv9 : v ≤ 9) (hn0 : n = 0) : C1i l D ca ad yX6_dig wsX6_dig { frames := 1, cells := 0, slots := 0, locals := 22 } [.ref (ad 0), .int (nI v)] σ (fun r σ' => r = -3 ∧ I1 n p g rn d th rd sl sn sc ft tr σ') := by
  refine xk_entry cX6_dig 3 (some .int) (by decide) rfl (Nat.le_of_ble_eq_true rfl) ?_
  intro pP eE sS mM below meth cC hx hb hml hr hts hown hlk hP hK hX hS ls hl
  have hl : lv_has ls 3 [(0, .ref (ad 0)), (1, .int (nI v))] := hl
  obtain ⟨hT, hR, hRd, hSh, hnp, hft, htr⟩ := id hJ
  have hn5 := hT.2.2.1
  have hg9 := hT.2.2.2.1
  have hp6 := hR.2.1
  have hrn8 := hRd.2.1
  refine lv_iload_n hx hb dX6_dig_0 rfl (lv_at hl 1 rfl) ?_
  refine lv_iconst (v := nI 0) hx hb dX6_dig_1 (by decide) ?_
  refine lv_bipush (v := nI 9) hx hb dX6_dig_2 (by decide) ?_
  refine xk_fi (va_runS (As := [.int (nI v), .int (nI 0), .int (nI 9)]) (rest := []) ⟨hx, hb, hml, hown, hts⟩ (k1_within_t l hI (nI v) (nI 0) (nI 9) (xn_in (by omega) (by omega) (by omega))) (va_cwS 3 hts gX6_dig_X6_within rfl rfl rfl (by decide +kernel) ⟨Nat.le_of_ble_eq_true rfl, Nat.le_of_ble_eq_true rfl⟩) (xk_preS X1_ok hK hX hP) rfl rfl hl.1 rfl (lv_room (Nat.le_of_ble_eq_true rfl)) dX6_dig_4 ⟨Nat.le_of_ble_eq_true rfl, Nat.le_of_ble_eq_true rfl⟩) hS (fun H locs hP hS => ?_)
  refine xn_zne (tgt := 13) hx hb dX6_dig_7 (by decide) (by omega) (fun c_7 => ?_) (fun c_7 => absurd c_7 (by omega))
  refine lv_aload_n hx hb dX6_dig_13 rfl (lv_at hl 0 rfl) ?_
  refine xk_fi (va_runV (As := []) (rest := []) ⟨hx, hb, hml, hown, hts⟩ (k1_hasWell_f l hI hT.2.1 hn5 (by omega)) (cwV 0 hts gX6_dig_X6_hasWell rfl rfl rfl (by decide +kernel) ⟨Nat.le_of_ble_eq_true rfl, Nat.le_of_ble_eq_true rfl⟩) (xk_preV X1_ok hK hX hP (xk_recv hK hP 0 (by omega) (ci := 6) e1_well rfl)) rfl rfl hl.1 rfl (lv_room (Nat.le_of_ble_eq_true rfl)) dX6_dig_14 ⟨Nat.le_of_ble_eq_true rfl, Nat.le_of_ble_eq_true rfl⟩) hS (fun H locs hP hS => ?_)
  refine xn_zne (tgt := 23) hx hb dX6_dig_17 (by decide) (by omega) (fun c_17 => absurd c_17 (by omega)) (fun c_17 => ?_)
  refine lv_bipush (v := (-3)) hx hb dX6_dig_20 (by decide) ?_
  exact xk_iret hx hb hr (vp_nar_int _) X1_ok hK hX hP hS hlk dX6_dig_22 (⟨rfl, hJ⟩)

set_option maxRecDepth 20000 in
theorem flX6_dig_123 {s : State} {av : Array Value} (hts : ∀ w ∈ wsX6_dig, w.before av s = true) : (Cond.fieldLink RX6 123 "WellBack" "depth" "I").before av s = true := hts _ (by decide +kernel)
set_option maxRecDepth 20000 in
theorem inX6_dig_X6 : ∀ w ∈ u_ws RX6 TX6 13, w ∈ wsX6_dig := by decide +kernel
set_option maxHeartbeats 4000000 in
set_option maxRecDepth 100000 in
theorem a1_dig_ok (l : Launch) {D : va_G} {ca : Nat → ClassId} {ad : Nat → Nat} (hI : Ij ad 34) {σ : Sg} {n p g rn : Nat} {d : Nat → Nat} {th rd : Nat → Nat → Nat} {sl sn : Nat → Nat} {sc : Nat → Nat → Int32} {ft tr : Int32} {v : Nat} (hJ : I1 n p g rn d th rd sl sn sc ft tr σ) (hv9 : v ≤ 9) (hn0 : 0 < n) : C1i l D ca ad yX6_dig wsX6_dig { frames := 1, cells := 0, slots := 0, locals := 22 } [.ref (ad 0), .int (nI v)] σ (fun r σ' => r = nI g ∧ I1 n p v rn d th rd sl sn sc ft tr σ') := by
  refine xk_entry cX6_dig 3 (some .int) (by decide) rfl (Nat.le_of_ble_eq_true rfl) ?_
  intro pP eE sS mM below meth cC hx hb hml hr hts hown hlk hP hK hX hS ls hl
  have hl : lv_has ls 3 [(0, .ref (ad 0)), (1, .int (nI v))] := hl
  obtain ⟨hT, hR, hRd, hSh, hnp, hft, htr⟩ := id hJ
  have hn5 := hT.2.2.1
  have hg9 := hT.2.2.2.1
  have hp6 := hR.2.1
  have hrn8 := hRd.2.1
  refine lv_iload_n hx hb dX6_dig_0 rfl (lv_at hl 1 rfl) ?_
  refine lv_iconst (v := nI 0) hx hb dX6_dig_1 (by decide) ?_
  refine lv_bipush (v := nI 9) hx hb dX6_dig_2 (by decide) ?_
  refine xk_fi (va_runS (As := [.int (nI v), .int (nI 0), .int (nI 9)]) (rest := []) ⟨hx, hb, hml, hown, hts⟩ (k1_within_t l hI (nI v) (nI 0) (nI 9) (xn_in (by omega) (by omega) (by omega))) (va_cwS 3 hts gX6_dig_X6_within rfl rfl rfl (by decide +kernel) ⟨Nat.le_of_ble_eq_true rfl, Nat.le_of_ble_eq_true rfl⟩) (xk_preS X1_ok hK hX hP) rfl rfl hl.1 rfl (lv_room (Nat.le_of_ble_eq_true rfl)) dX6_dig_4 ⟨Nat.le_of_ble_eq_true rfl, Nat.le_of_ble_eq_true rfl⟩) hS (fun H locs hP hS => ?_)
  refine xn_zne (tgt := 13) hx hb dX6_dig_7 (by decide) (by omega) (fun c_7 => ?_) (fun c_7 => absurd c_7 (by omega))
  refine lv_aload_n hx hb dX6_dig_13 rfl (lv_at hl 0 rfl) ?_
  refine xk_fi (va_runV (As := []) (rest := []) ⟨hx, hb, hml, hown, hts⟩ (k1_hasWell_t l hI hT.2.1 hn5 (by omega)) (cwV 0 hts gX6_dig_X6_hasWell rfl rfl rfl (by decide +kernel) ⟨Nat.le_of_ble_eq_true rfl, Nat.le_of_ble_eq_true rfl⟩) (xk_preV X1_ok hK hX hP (xk_recv hK hP 0 (by omega) (ci := 6) e1_well rfl)) rfl rfl hl.1 rfl (lv_room (Nat.le_of_ble_eq_true rfl)) dX6_dig_14 ⟨Nat.le_of_ble_eq_true rfl, Nat.le_of_ble_eq_true rfl⟩) hS (fun H locs hP hS => ?_)
  refine xn_zne (tgt := 23) hx hb dX6_dig_17 (by decide) (by omega) (fun c_17 => ?_) (fun c_17 => absurd c_17 (by omega))
  refine lv_aload_n hx hb dX6_dig_23 rfl (lv_at hl 0 rfl) ?_
  refine xk_get hx hb hts (inX6_dig_X6) hown hK hP 0 (by omega) (ci := 6) e1_well rfl 8 (by decide) (flX6_dig_123 hts) rfl (.int (σ 0 8)) rfl dX6_dig_24 ?_
  refine xn_eqi (y := nI g) hT.1 ?_
  refine lv_istore_n (lv' := [(2, .int (nI g)), (0, .ref (ad 0)), (1, .int (nI v))]) hx hb dX6_dig_27 rfl hl (by decide) rfl (fun ls hl => ?_)
  refine lv_aload_n hx hb dX6_dig_28 rfl (lv_at hl 1 rfl) ?_
  refine lv_iload_n hx hb dX6_dig_29 rfl (lv_at hl 2 rfl) ?_
  refine xk_put hx hb hts (inX6_dig_X6) tyX6 tyX6_ok nmX6 hown hK hI hP hS 0 (by omega) (ci := 6) e1_well rfl 8 (by decide) (flX6_dig_123 hts) rfl rfl (by decide +kernel) (Nat.le_of_ble_eq_true rfl) e1_loc (by rw [e1_well]; simp [up]) dX6_dig_30 (fun H locs hP hS => ?_)
  refine lv_iload_n hx hb dX6_dig_33 rfl (lv_at hl 0 rfl) ?_
  exact xk_iret hx hb hr (vp_nar_int _) X1_ok hK hX hP hS hlk dX6_dig_34 (⟨rfl, I1_g hJ hv9⟩)

set_option maxRecDepth 20000 in
theorem flX6_hire_32 {s : State} {av : Array Value} (hts : ∀ w ∈ wsX6_hire, w.before av s = true) : (Cond.fieldLink RX6 32 "WellBack" "rota" "LWellBack$Rota;").before av s = true := hts _ (by decide +kernel)
set_option maxRecDepth 20000 in
theorem inX6_hire_X6 : ∀ w ∈ u_ws RX6 TX6 13, w ∈ wsX6_hire := by decide +kernel
set_option maxHeartbeats 4000000 in
set_option maxRecDepth 100000 in
theorem a1_hire_ko (l : Launch) {D : va_G} {ca : Nat → ClassId} {ad : Nat → Nat} (hI : Ij ad 34) {σ : Sg} {n p g rn : Nat} {d : Nat → Nat} {th rd : Nat → Nat → Nat} {sl sn : Nat → Nat} {sc : Nat → Nat → Int32} {ft tr : Int32} {k e : Int32} (hJ : I1 n p g rn d th rd sl sn sc ft tr σ) (hko : ∀ j, j < p → k ≠ nI j) : C1i l D ca ad yX6_hire wsX6_hire { frames := 2, cells := 0, slots := 0, locals := 43 } [.ref (ad 0), .int k, .int e] σ (fun r σ' => r = -1 ∧ I1 n p g rn d th rd sl sn sc ft tr σ') := by
  refine xk_entry cX6_hire 4 (some .int) (by decide) rfl (Nat.le_of_ble_eq_true rfl) ?_
  intro pP eE sS mM below meth cC hx hb hml hr hts hown hlk hP hK hX hS ls hl
  have hl : lv_has ls 4 [(0, .ref (ad 0)), (1, .int k), (2, .int e)] := hl
  obtain ⟨hT, hR, hRd, hSh, hnp, hft, htr⟩ := id hJ
  have hn5 := hT.2.2.1
  have hg9 := hT.2.2.2.1
  have hp6 := hR.2.1
  have hrn8 := hRd.2.1
  refine lv_aload_n hx hb dX6_hire_0 rfl (lv_at hl 0 rfl) ?_
  refine xk_get hx hb hts (inX6_hire_X6) hown hK hP 0 (by omega) (ci := 6) e1_well rfl 3 (by decide) (flX6_hire_32 hts) rfl (.ref (ad 22)) rfl dX6_hire_1 ?_
  refine lv_iload_n hx hb dX6_hire_4 rfl (lv_at hl 1 rfl) ?_
  refine xk_fi (va_runV (As := [.int k]) (rest := []) ⟨hx, hb, hml, hown, hts⟩ (k1_hasPlace_out l hI (x := k) (by omega) (by omega) hR.1 hp6 hko) (cwV 1 hts gX6_hire_X1_hasPlace rfl rfl rfl (by decide +kernel) ⟨Nat.le_of_ble_eq_true rfl, Nat.le_of_ble_eq_true rfl⟩) (xk_preV X1_ok hK hX hP (xk_recv hK hP 22 (by omega) (ci := 1) (e1_rota (by omega) (by omega)) rfl)) rfl rfl hl.1 rfl (lv_room (Nat.le_of_ble_eq_true rfl)) dX6_hire_5 ⟨Nat.le_of_ble_eq_true rfl, Nat.le_of_ble_eq_true rfl⟩) hS (fun H locs hP hS => ?_)
  refine xn_zeq (tgt := 18) hx hb dX6_hire_8 (by decide) (by omega) (fun c_8 => ?_) (fun c_8 => absurd c_8 (by omega))
  refine lv_iconst (v := (-1)) hx hb dX6_hire_18 (by decide) ?_
  exact xk_iret hx hb hr (vp_nar_int _) X1_ok hK hX hP hS hlk dX6_hire_19 (⟨rfl, hJ⟩)

set_option maxHeartbeats 4000000 in
set_option maxRecDepth 100000 in
theorem a1_hire_do (l : Launch) {D : va_G} {ca : Nat → ClassId} {ad : Nat → Nat} (hI : Ij ad 34) {σ : Sg} {n p g rn : Nat} {d : Nat → Nat} {th rd : Nat → Nat → Nat} {sl sn : Nat → Nat} {sc : Nat → Nat → Int32} {ft tr : Int32} {k : Nat} {e : Int32} (hJ : I1 n p g rn d th rd sl sn sc ft tr σ) (hkp : k < p) (heo : ¬ (nI 0 ≤ e ∧ e ≤ nI 4)) : C1i l D ca ad yX6_hire wsX6_hire { frames := 2, cells := 0, slots := 0, locals := 43 } [.ref (ad 0), .int (nI k), .int e] σ (fun r σ' => r = -1 ∧ I1 n p g rn d th rd sl sn sc ft tr σ') := by
  refine xk_entry cX6_hire 4 (some .int) (by decide) rfl (Nat.le_of_ble_eq_true rfl) ?_
  intro pP eE sS mM below meth cC hx hb hml hr hts hown hlk hP hK hX hS ls hl
  have hl : lv_has ls 4 [(0, .ref (ad 0)), (1, .int (nI k)), (2, .int e)] := hl
  obtain ⟨hT, hR, hRd, hSh, hnp, hft, htr⟩ := id hJ
  have hn5 := hT.2.2.1
  have hg9 := hT.2.2.2.1
  have hp6 := hR.2.1
  have hrn8 := hRd.2.1
  refine lv_aload_n hx hb dX6_hire_0 rfl (lv_at hl 0 rfl) ?_
  refine xk_get hx hb hts (inX6_hire_X6) hown hK hP 0 (by omega) (ci := 6) e1_well rfl 3 (by decide) (flX6_hire_32 hts) rfl (.ref (ad 22)) rfl dX6_hire_1 ?_
  refine lv_iload_n hx hb dX6_hire_4 rfl (lv_at hl 1 rfl) ?_
  refine xk_fi (va_runV (As := [.int (nI k)]) (rest := []) ⟨hx, hb, hml, hown, hts⟩ (k1_hasPlace_in l hI (k := k) (by omega) (by omega) hR.1 hp6 (by omega)) (cwV 1 hts gX6_hire_X1_hasPlace rfl rfl rfl (by decide +kernel) ⟨Nat.le_of_ble_eq_true rfl, Nat.le_of_ble_eq_true rfl⟩) (xk_preV X1_ok hK hX hP (xk_recv hK hP 22 (by omega) (ci := 1) (e1_rota (by omega) (by omega)) rfl)) rfl rfl hl.1 rfl (lv_room (Nat.le_of_ble_eq_true rfl)) dX6_hire_5 ⟨Nat.le_of_ble_eq_true rfl, Nat.le_of_ble_eq_true rfl⟩) hS (fun H locs hP hS => ?_)
  refine xn_zeq (tgt := 18) hx hb dX6_hire_8 (by decide) (by omega) (fun c_8 => absurd c_8 (by omega)) (fun c_8 => ?_)
  refine lv_iload_n hx hb dX6_hire_11 rfl (lv_at hl 2 rfl) ?_
  refine xk_fi (va_runS (As := [.int e]) (rest := []) ⟨hx, hb, hml, hown, hts⟩ (k1_isDrawer_f l hI e (by assumption)) (va_cwS 1 hts gX6_hire_X6_isDrawer rfl rfl rfl (by decide +kernel) ⟨Nat.le_of_ble_eq_true rfl, Nat.le_of_ble_eq_true rfl⟩) (xk_preS X1_ok hK hX hP) rfl rfl hl.1 rfl (lv_room (Nat.le_of_ble_eq_true rfl)) dX6_hire_12 ⟨Nat.le_of_ble_eq_true rfl, Nat.le_of_ble_eq_true rfl⟩) hS (fun H locs hP hS => ?_)
  refine xn_zne (tgt := 20) hx hb dX6_hire_15 (by decide) (by omega) (fun c_15 => absurd c_15 (by omega)) (fun c_15 => ?_)
  refine lv_iconst (v := (-1)) hx hb dX6_hire_18 (by decide) ?_
  exact xk_iret hx hb hr (vp_nar_int _) X1_ok hK hX hP hS hlk dX6_hire_19 (⟨rfl, hJ⟩)

set_option maxHeartbeats 4000000 in
set_option maxRecDepth 100000 in
theorem a1_hire_ok (l : Launch) {D : va_G} {ca : Nat → ClassId} {ad : Nat → Nat} (hI : Ij ad 34) {σ : Sg} {n p g rn : Nat} {d : Nat → Nat} {th rd : Nat → Nat → Nat} {sl sn : Nat → Nat} {sc : Nat → Nat → Int32} {ft tr : Int32} {k e : Nat} (hJ : I1 n p g rn d th rd sl sn sc ft tr σ) (hkp : k < p) (he4 : e ≤ 4) : C1i l D ca ad yX6_hire wsX6_hire { frames := 2, cells := 0, slots := 0, locals := 43 } [.ref (ad 0), .int (nI k), .int (nI e)] σ (fun r σ' => r = nI (d k) ∧ I1 n p g rn (fun j => if j = k then e else d j) th rd sl sn sc ft tr σ') := by
  refine xk_entry cX6_hire 4 (some .int) (by decide) rfl (Nat.le_of_ble_eq_true rfl) ?_
  intro pP eE sS mM below meth cC hx hb hml hr hts hown hlk hP hK hX hS ls hl
  have hl : lv_has ls 4 [(0, .ref (ad 0)), (1, .int (nI k)), (2, .int (nI e))] := hl
  obtain ⟨hT, hR, hRd, hSh, hnp, hft, htr⟩ := id hJ
  have hn5 := hT.2.2.1
  have hg9 := hT.2.2.2.1
  have hp6 := hR.2.1
  have hrn8 := hRd.2.1
  refine lv_aload_n hx hb dX6_hire_0 rfl (lv_at hl 0 rfl) ?_
  refine xk_get hx hb hts (inX6_hire_X6) hown hK hP 0 (by omega) (ci := 6) e1_well rfl 3 (by decide) (flX6_hire_32 hts) rfl (.ref (ad 22)) rfl dX6_hire_1 ?_
  refine lv_iload_n hx hb dX6_hire_4 rfl (lv_at hl 1 rfl) ?_
  refine xk_fi (va_runV (As := [.int (nI k)]) (rest := []) ⟨hx, hb, hml, hown, hts⟩ (k1_hasPlace_in l hI (k := k) (by omega) (by omega) hR.1 hp6 (by omega)) (cwV 1 hts gX6_hire_X1_hasPlace rfl rfl rfl (by decide +kernel) ⟨Nat.le_of_ble_eq_true rfl, Nat.le_of_ble_eq_true rfl⟩) (xk_preV X1_ok hK hX hP (xk_recv hK hP 22 (by omega) (ci := 1) (e1_rota (by omega) (by omega)) rfl)) rfl rfl hl.1 rfl (lv_room (Nat.le_of_ble_eq_true rfl)) dX6_hire_5 ⟨Nat.le_of_ble_eq_true rfl, Nat.le_of_ble_eq_true rfl⟩) hS (fun H locs hP hS => ?_)
  refine xn_zeq (tgt := 18) hx hb dX6_hire_8 (by decide) (by omega) (fun c_8 => absurd c_8 (by omega)) (fun c_8 => ?_)
  refine lv_iload_n hx hb dX6_hire_11 rfl (lv_at hl 2 rfl) ?_
  refine xk_fi (va_runS (As := [.int (nI e)]) (rest := []) ⟨hx, hb, hml, hown, hts⟩ (k1_isDrawer_t l hI (nI e) (xn_in (by omega) (by omega) (by omega))) (va_cwS 1 hts gX6_hire_X6_isDrawer rfl rfl rfl (by decide +kernel) ⟨Nat.le_of_ble_eq_true rfl, Nat.le_of_ble_eq_true rfl⟩) (xk_preS X1_ok hK hX hP) rfl rfl hl.1 rfl (lv_room (Nat.le_of_ble_eq_true rfl)) dX6_hire_12 ⟨Nat.le_of_ble_eq_true rfl, Nat.le_of_ble_eq_true rfl⟩) hS (fun H locs hP hS => ?_)
  refine xn_zne (tgt := 20) hx hb dX6_hire_15 (by decide) (by omega) (fun c_15 => ?_) (fun c_15 => absurd c_15 (by omega))
  refine lv_aload_n hx hb dX6_hire_20 rfl (lv_at hl 0 rfl) ?_
  refine xk_get hx hb hts (inX6_hire_X6) hown hK hP 0 (by omega) (ci := 6) e1_well rfl 3 (by decide) (flX6_hire_32 hts) rfl (.ref (ad 22)) rfl dX6_hire_21 ?_
  refine lv_iload_n hx hb dX6_hire_24 rfl (lv_at hl 1 rfl) ?_
  refine xk_fi (va_runV (As := [.int (nI k)]) (rest := []) ⟨hx, hb, hml, hown, hts⟩ (k1_drawerIn l hI (q := 22) (d := d) (h := k) (by omega) (by omega) hR (by omega) (by omega)) (cwV 1 hts gX6_hire_X1_drawerIn rfl rfl rfl (by decide +kernel) ⟨Nat.le_of_ble_eq_true rfl, Nat.le_of_ble_eq_true rfl⟩) (xk_preV X1_ok hK hX hP (xk_recv hK hP 22 (by omega) (ci := 1) (e1_rota (by omega) (by omega)) rfl)) rfl rfl hl.1 rfl (lv_room (Nat.le_of_ble_eq_true rfl)) dX6_hire_25 ⟨Nat.le_of_ble_eq_true rfl, Nat.le_of_ble_eq_true rfl⟩) hS (fun H locs hP hS => ?_)
  rw [Nat.mod_eq_of_lt hkp]
  refine lv_istore_n (lv' := [(3, .int (nI (d k))), (0, .ref (ad 0)), (1, .int (nI k)), (2, .int (nI e))]) hx hb dX6_hire_28 rfl hl (by decide) rfl (fun ls hl => ?_)
  refine lv_aload_n hx hb dX6_hire_29 rfl (lv_at hl 1 rfl) ?_
  refine xk_get hx hb hts (inX6_hire_X6) hown hK hP 0 (by omega) (ci := 6) e1_well rfl 3 (by decide) (flX6_hire_32 hts) rfl (.ref (ad 22)) rfl dX6_hire_30 ?_
  refine lv_iload_n hx hb dX6_hire_33 rfl (lv_at hl 2 rfl) ?_
  refine lv_iload_n hx hb dX6_hire_34 rfl (lv_at hl 3 rfl) ?_
  refine xk_fv (va_runV (As := [.int (nI k), .int (nI e)]) (rest := []) ⟨hx, hb, hml, hown, hts⟩ (k1_setPlace l hI (q := 22) (k := k) (w := e) (by omega) (by omega) hR.1 hp6 (by omega)) (cwV 2 hts gX6_hire_X1_setPlace rfl rfl rfl (by decide +kernel) ⟨Nat.le_of_ble_eq_true rfl, Nat.le_of_ble_eq_true rfl⟩) (xk_preV X1_ok hK hX hP (xk_recv hK hP 22 (by omega) (ci := 1) (e1_rota (by omega) (by omega)) rfl)) rfl rfl hl.1 rfl (lv_room (Nat.le_of_ble_eq_true rfl)) dX6_hire_35 ⟨Nat.le_of_ble_eq_true rfl, Nat.le_of_ble_eq_true rfl⟩) hS (fun H locs hP hS => ?_)
  refine lv_iload_n hx hb dX6_hire_38 rfl (lv_at hl 0 rfl) ?_
  exact xk_iret hx hb hr (vp_nar_int _) X1_ok hK hX hP hS hlk dX6_hire_39 (⟨rfl, I1_d hJ he4⟩)

set_option maxHeartbeats 4000000 in
set_option maxRecDepth 100000 in
theorem a1_drop_xo (l : Launch) {D : va_G} {ca : Nat → ClassId} {ad : Nat → Nat} (hI : Ij ad 34) {σ : Sg} {n p g rn : Nat} {d : Nat → Nat} {th rd : Nat → Nat → Nat} {sl sn : Nat → Nat} {sc : Nat → Nat → Int32} {ft tr : Int32} {x : Int32} {e h w : Int32} (hJ : I1 n p g rn d th rd sl sn sc ft tr σ) (hxx : ∀ j, j < n → x ≠ nI j) : C1i l D ca ad yX6_drop wsX6_drop { frames := 3, cells := 0, slots := 0, locals := 84 } [.ref (ad 0), .int x, .int e, .int h, .int w] σ (fun r σ' => r = -1 ∧ I1 n p g rn d th rd sl sn sc ft tr σ') := by
  refine xk_entry cX6_drop 9 (some .int) (by decide) rfl (Nat.le_of_ble_eq_true rfl) ?_
  intro pP eE sS mM below meth cC hx hb hml hr hts hown hlk hP hK hX hS ls hl
  have hl : lv_has ls 9 [(0, .ref (ad 0)), (1, .int x), (2, .int e), (3, .int h), (4, .int w)] := hl
  obtain ⟨hT, hR, hRd, hSh, hnp, hft, htr⟩ := id hJ
  have hn5 := hT.2.2.1
  have hg9 := hT.2.2.2.1
  have hp6 := hR.2.1
  have hrn8 := hRd.2.1
  refine lv_aload_n hx hb dX6_drop_0 rfl (lv_at hl 0 rfl) ?_
  refine lv_iload_n hx hb dX6_drop_1 rfl (lv_at hl 1 rfl) ?_
  refine xk_fz (va_runV (As := [.int x]) (rest := []) ⟨hx, hb, hml, hown, hts⟩ (k1_thingAt_out l hI (x := x) hT.2.1 hn5 (by assumption)) (cwV 1 hts gX6_drop_X6_thingAt rfl rfl rfl (by decide +kernel) ⟨Nat.le_of_ble_eq_true rfl, Nat.le_of_ble_eq_true rfl⟩) (xk_preV X1_ok hK hX hP (xk_recv hK hP 0 (by omega) (ci := 6) e1_well rfl)) rfl rfl hl.1 rfl (lv_room (Nat.le_of_ble_eq_true rfl)) dX6_drop_2 ⟨Nat.le_of_ble_eq_true rfl, Nat.le_of_ble_eq_true rfl⟩) hS (fun H locs hP hS => ?_)
  refine lv_astoreN (lv' := [(5, .null), (0, .ref (ad 0)), (1, .int x), (2, .int e), (3, .int h), (4, .int w)]) hx hb dX6_drop_5 hl (by decide) rfl (fun ls hl => ?_)
  refine lv_aloadN hx hb dX6_drop_7 (lv_at hl 0 rfl) ?_
  refine lv_ifnullN (tgt := 19) hx hb dX6_drop_9 (by decide) ?_
  refine lv_iconst (v := (-1)) hx hb dX6_drop_19 (by decide) ?_
  exact xk_iret hx hb hr (vp_nar_int _) X1_ok hK hX hP hS hlk dX6_drop_20 (⟨rfl, hJ⟩)

set_option maxHeartbeats 4000000 in
set_option maxRecDepth 100000 in
theorem a1_drop_do (l : Launch) {D : va_G} {ca : Nat → ClassId} {ad : Nat → Nat} (hI : Ij ad 34) {σ : Sg} {n p g rn : Nat} {d : Nat → Nat} {th rd : Nat → Nat → Nat} {sl sn : Nat → Nat} {sc : Nat → Nat → Int32} {ft tr : Int32} {x : Nat} {e h w : Int32} (hJ : I1 n p g rn d th rd sl sn sc ft tr σ) (hxn : x < n) (heo : ¬ (nI 0 ≤ e ∧ e ≤ nI 4)) : C1i l D ca ad yX6_drop wsX6_drop { frames := 3, cells := 0, slots := 0, locals := 84 } [.ref (ad 0), .int (nI x), .int e, .int h, .int w] σ (fun r σ' => r = -1 ∧ I1 n p g rn d th rd sl sn sc ft tr σ') := by
  refine xk_entry cX6_drop 9 (some .int) (by decide) rfl (Nat.le_of_ble_eq_true rfl) ?_
  intro pP eE sS mM below meth cC hx hb hml hr hts hown hlk hP hK hX hS ls hl
  have hl : lv_has ls 9 [(0, .ref (ad 0)), (1, .int (nI x)), (2, .int e), (3, .int h), (4, .int w)] := hl
  obtain ⟨hT, hR, hRd, hSh, hnp, hft, htr⟩ := id hJ
  have hn5 := hT.2.2.1
  have hg9 := hT.2.2.2.1
  have hp6 := hR.2.1
  have hrn8 := hRd.2.1
  have hXx := hT.2.2.2.2 x hxn
  obtain ⟨ho0, ho1, ho2, ho3, ho4⟩ := hXx.2
  have hp0 := hnp.mp (by omega)
  refine lv_aload_n hx hb dX6_drop_0 rfl (lv_at hl 0 rfl) ?_
  refine lv_iload_n hx hb dX6_drop_1 rfl (lv_at hl 1 rfl) ?_
  refine xk_fa (va_runV (As := [.int (nI x)]) (rest := []) ⟨hx, hb, hml, hown, hts⟩ (k1_thingAt_in l hI (x := x) hT.2.1 hn5 (by omega)) (cwV 1 hts gX6_drop_X6_thingAt rfl rfl rfl (by decide +kernel) ⟨Nat.le_of_ble_eq_true rfl, Nat.le_of_ble_eq_true rfl⟩) (xk_preV X1_ok hK hX hP (xk_recv hK hP 0 (by omega) (ci := 6) e1_well rfl)) rfl rfl hl.1 rfl (lv_room (Nat.le_of_ble_eq_true rfl)) dX6_drop_2 ⟨Nat.le_of_ble_eq_true rfl, Nat.le_of_ble_eq_true rfl⟩) hS (fun H locs hP hS => ?_)
  refine lv_astore (lv' := [(5, .ref (ad (9 + x))), (0, .ref (ad 0)), (1, .int (nI x)), (2, .int e), (3, .int h), (4, .int w)]) hx hb dX6_drop_5 hl (by decide) rfl (fun ls hl => ?_)
  refine lv_aload hx hb dX6_drop_7 (lv_at hl 0 rfl) ?_
  refine lv_ifnull hx hb dX6_drop_9 ?_
  refine lv_iload_n hx hb dX6_drop_12 rfl (lv_at hl 3 rfl) ?_
  refine xk_fi (va_runS (As := [.int e]) (rest := []) ⟨hx, hb, hml, hown, hts⟩ (k1_isDrawer_f l hI e (by assumption)) (va_cwS 1 hts gX6_drop_X6_isDrawer rfl rfl rfl (by decide +kernel) ⟨Nat.le_of_ble_eq_true rfl, Nat.le_of_ble_eq_true rfl⟩) (xk_preS X1_ok hK hX hP) rfl rfl hl.1 rfl (lv_room (Nat.le_of_ble_eq_true rfl)) dX6_drop_13 ⟨Nat.le_of_ble_eq_true rfl, Nat.le_of_ble_eq_true rfl⟩) hS (fun H locs hP hS => ?_)
  refine xn_zne (tgt := 21) hx hb dX6_drop_16 (by decide) (by omega) (fun c_16 => absurd c_16 (by omega)) (fun c_16 => ?_)
  refine lv_iconst (v := (-1)) hx hb dX6_drop_19 (by decide) ?_
  exact xk_iret hx hb hr (vp_nar_int _) X1_ok hK hX hP hS hlk dX6_drop_20 (⟨rfl, hJ⟩)

set_option maxHeartbeats 4000000 in
set_option maxRecDepth 100000 in
theorem a1_drop_ho (l : Launch) {D : va_G} {ca : Nat → ClassId} {ad : Nat → Nat} (hI : Ij ad 34) {σ : Sg} {n p g rn : Nat} {d : Nat → Nat} {th rd : Nat → Nat → Nat} {sl sn : Nat → Nat} {sc : Nat → Nat → Int32} {ft tr : Int32} {x : Nat} {e : Nat} {h w : Int32} (hJ : I1 n p g rn d th rd sl sn sc ft tr σ) (hxn : x < n) (he4 : e ≤ 4) (hho : ¬ (nI 0 ≤ h ∧ h ≤ nI 99)) : C1i l D ca ad yX6_drop wsX6_drop { frames := 3, cells := 0, slots := 0, locals := 84 } [.ref (ad 0), .int (nI x), .int (nI e), .int h, .int w] σ (fun r σ' => r = -2 ∧ I1 n p g rn d th rd sl sn sc ft tr σ') := by
  refine xk_entry cX6_drop 9 (some .int) (by decide) rfl (Nat.le_of_ble_eq_true rfl) ?_
  intro pP eE sS mM below meth cC hx hb hml hr hts hown hlk hP hK hX hS ls hl
  have hl : lv_has ls 9 [(0, .ref (ad 0)), (1, .int (nI x)), (2, .int (nI e)), (3, .int h), (4, .int w)] := hl
  obtain ⟨hT, hR, hRd, hSh, hnp, hft, htr⟩ := id hJ
  have hn5 := hT.2.2.1
  have hg9 := hT.2.2.2.1
  have hp6 := hR.2.1
  have hrn8 := hRd.2.1
  have hXx := hT.2.2.2.2 x hxn
  obtain ⟨ho0, ho1, ho2, ho3, ho4⟩ := hXx.2
  have hp0 := hnp.mp (by omega)
  refine lv_aload_n hx hb dX6_drop_0 rfl (lv_at hl 0 rfl) ?_
  refine lv_iload_n hx hb dX6_drop_1 rfl (lv_at hl 1 rfl) ?_
  refine xk_fa (va_runV (As := [.int (nI x)]) (rest := []) ⟨hx, hb, hml, hown, hts⟩ (k1_thingAt_in l hI (x := x) hT.2.1 hn5 (by omega)) (cwV 1 hts gX6_drop_X6_thingAt rfl rfl rfl (by decide +kernel) ⟨Nat.le_of_ble_eq_true rfl, Nat.le_of_ble_eq_true rfl⟩) (xk_preV X1_ok hK hX hP (xk_recv hK hP 0 (by omega) (ci := 6) e1_well rfl)) rfl rfl hl.1 rfl (lv_room (Nat.le_of_ble_eq_true rfl)) dX6_drop_2 ⟨Nat.le_of_ble_eq_true rfl, Nat.le_of_ble_eq_true rfl⟩) hS (fun H locs hP hS => ?_)
  refine lv_astore (lv' := [(5, .ref (ad (9 + x))), (0, .ref (ad 0)), (1, .int (nI x)), (2, .int (nI e)), (3, .int h), (4, .int w)]) hx hb dX6_drop_5 hl (by decide) rfl (fun ls hl => ?_)
  refine lv_aload hx hb dX6_drop_7 (lv_at hl 0 rfl) ?_
  refine lv_ifnull hx hb dX6_drop_9 ?_
  refine lv_iload_n hx hb dX6_drop_12 rfl (lv_at hl 3 rfl) ?_
  refine xk_fi (va_runS (As := [.int (nI e)]) (rest := []) ⟨hx, hb, hml, hown, hts⟩ (k1_isDrawer_t l hI (nI e) (xn_in (by omega) (by omega) (by omega))) (va_cwS 1 hts gX6_drop_X6_isDrawer rfl rfl rfl (by decide +kernel) ⟨Nat.le_of_ble_eq_true rfl, Nat.le_of_ble_eq_true rfl⟩) (xk_preS X1_ok hK hX hP) rfl rfl hl.1 rfl (lv_room (Nat.le_of_ble_eq_true rfl)) dX6_drop_13 ⟨Nat.le_of_ble_eq_true rfl, Nat.le_of_ble_eq_true rfl⟩) hS (fun H locs hP hS => ?_)
  refine xn_zne (tgt := 21) hx hb dX6_drop_16 (by decide) (by omega) (fun c_16 => ?_) (fun c_16 => absurd c_16 (by omega))
  refine lv_iload_n hx hb dX6_drop_21 rfl (lv_at hl 4 rfl) ?_
  refine lv_iconst (v := nI 0) hx hb dX6_drop_22 (by decide) ?_
  refine lv_bipush (v := nI 99) hx hb dX6_drop_23 (by decide) ?_
  refine xk_fi (va_runS (As := [.int h, .int (nI 0), .int (nI 99)]) (rest := []) ⟨hx, hb, hml, hown, hts⟩ (k1_within_f l hI h (nI 0) (nI 99) (by assumption)) (va_cwS 3 hts gX6_drop_X6_within rfl rfl rfl (by decide +kernel) ⟨Nat.le_of_ble_eq_true rfl, Nat.le_of_ble_eq_true rfl⟩) (xk_preS X1_ok hK hX hP) rfl rfl hl.1 rfl (lv_room (Nat.le_of_ble_eq_true rfl)) dX6_drop_25 ⟨Nat.le_of_ble_eq_true rfl, Nat.le_of_ble_eq_true rfl⟩) hS (fun H locs hP hS => ?_)
  refine xn_zeq (tgt := 41) hx hb dX6_drop_28 (by decide) (by omega) (fun c_28 => ?_) (fun c_28 => absurd c_28 (by omega))
  refine lv_bipush (v := (-2)) hx hb dX6_drop_41 (by decide) ?_
  exact xk_iret hx hb hr (vp_nar_int _) X1_ok hK hX hP hS hlk dX6_drop_43 (⟨rfl, hJ⟩)

set_option maxHeartbeats 4000000 in
set_option maxRecDepth 100000 in
theorem a1_drop_wo (l : Launch) {D : va_G} {ca : Nat → ClassId} {ad : Nat → Nat} (hI : Ij ad 34) {σ : Sg} {n p g rn : Nat} {d : Nat → Nat} {th rd : Nat → Nat → Nat} {sl sn : Nat → Nat} {sc : Nat → Nat → Int32} {ft tr : Int32} {x : Nat} {e h : Nat} {w : Int32} (hJ : I1 n p g rn d th rd sl sn sc ft tr σ) (hxn : x < n) (he4 : e ≤ 4) (hh : h ≤ 99) (hwo : ¬ (nI 0 ≤ w ∧ w ≤ nI 2)) : C1i l D ca ad yX6_drop wsX6_drop { frames := 3, cells := 0, slots := 0, locals := 84 } [.ref (ad 0), .int (nI x), .int (nI e), .int (nI h), .int w] σ (fun r σ' => r = -2 ∧ I1 n p g rn d th rd sl sn sc ft tr σ') := by
  refine xk_entry cX6_drop 9 (some .int) (by decide) rfl (Nat.le_of_ble_eq_true rfl) ?_
  intro pP eE sS mM below meth cC hx hb hml hr hts hown hlk hP hK hX hS ls hl
  have hl : lv_has ls 9 [(0, .ref (ad 0)), (1, .int (nI x)), (2, .int (nI e)), (3, .int (nI h)), (4, .int w)] := hl
  obtain ⟨hT, hR, hRd, hSh, hnp, hft, htr⟩ := id hJ
  have hn5 := hT.2.2.1
  have hg9 := hT.2.2.2.1
  have hp6 := hR.2.1
  have hrn8 := hRd.2.1
  have hXx := hT.2.2.2.2 x hxn
  obtain ⟨ho0, ho1, ho2, ho3, ho4⟩ := hXx.2
  have hp0 := hnp.mp (by omega)
  refine lv_aload_n hx hb dX6_drop_0 rfl (lv_at hl 0 rfl) ?_
  refine lv_iload_n hx hb dX6_drop_1 rfl (lv_at hl 1 rfl) ?_
  refine xk_fa (va_runV (As := [.int (nI x)]) (rest := []) ⟨hx, hb, hml, hown, hts⟩ (k1_thingAt_in l hI (x := x) hT.2.1 hn5 (by omega)) (cwV 1 hts gX6_drop_X6_thingAt rfl rfl rfl (by decide +kernel) ⟨Nat.le_of_ble_eq_true rfl, Nat.le_of_ble_eq_true rfl⟩) (xk_preV X1_ok hK hX hP (xk_recv hK hP 0 (by omega) (ci := 6) e1_well rfl)) rfl rfl hl.1 rfl (lv_room (Nat.le_of_ble_eq_true rfl)) dX6_drop_2 ⟨Nat.le_of_ble_eq_true rfl, Nat.le_of_ble_eq_true rfl⟩) hS (fun H locs hP hS => ?_)
  refine lv_astore (lv' := [(5, .ref (ad (9 + x))), (0, .ref (ad 0)), (1, .int (nI x)), (2, .int (nI e)), (3, .int (nI h)), (4, .int w)]) hx hb dX6_drop_5 hl (by decide) rfl (fun ls hl => ?_)
  refine lv_aload hx hb dX6_drop_7 (lv_at hl 0 rfl) ?_
  refine lv_ifnull hx hb dX6_drop_9 ?_
  refine lv_iload_n hx hb dX6_drop_12 rfl (lv_at hl 3 rfl) ?_
  refine xk_fi (va_runS (As := [.int (nI e)]) (rest := []) ⟨hx, hb, hml, hown, hts⟩ (k1_isDrawer_t l hI (nI e) (xn_in (by omega) (by omega) (by omega))) (va_cwS 1 hts gX6_drop_X6_isDrawer rfl rfl rfl (by decide +kernel) ⟨Nat.le_of_ble_eq_true rfl, Nat.le_of_ble_eq_true rfl⟩) (xk_preS X1_ok hK hX hP) rfl rfl hl.1 rfl (lv_room (Nat.le_of_ble_eq_true rfl)) dX6_drop_13 ⟨Nat.le_of_ble_eq_true rfl, Nat.le_of_ble_eq_true rfl⟩) hS (fun H locs hP hS => ?_)
  refine xn_zne (tgt := 21) hx hb dX6_drop_16 (by decide) (by omega) (fun c_16 => ?_) (fun c_16 => absurd c_16 (by omega))
  refine lv_iload_n hx hb dX6_drop_21 rfl (lv_at hl 4 rfl) ?_
  refine lv_iconst (v := nI 0) hx hb dX6_drop_22 (by decide) ?_
  refine lv_bipush (v := nI 99) hx hb dX6_drop_23 (by decide) ?_
  refine xk_fi (va_runS (As := [.int (nI h), .int (nI 0), .int (nI 99)]) (rest := []) ⟨hx, hb, hml, hown, hts⟩ (k1_within_t l hI (nI h) (nI 0) (nI 99) (xn_in (by omega) (by omega) (by omega))) (va_cwS 3 hts gX6_drop_X6_within rfl rfl rfl (by decide +kernel) ⟨Nat.le_of_ble_eq_true rfl, Nat.le_of_ble_eq_true rfl⟩) (xk_preS X1_ok hK hX hP) rfl rfl hl.1 rfl (lv_room (Nat.le_of_ble_eq_true rfl)) dX6_drop_25 ⟨Nat.le_of_ble_eq_true rfl, Nat.le_of_ble_eq_true rfl⟩) hS (fun H locs hP hS => ?_)
  refine xn_zeq (tgt := 41) hx hb dX6_drop_28 (by decide) (by omega) (fun c_28 => absurd c_28 (by omega)) (fun c_28 => ?_)
  refine lv_iload hx hb dX6_drop_31 (lv_at hl 5 rfl) ?_
  refine lv_iconst (v := nI 0) hx hb dX6_drop_33 (by decide) ?_
  refine lv_iconst (v := nI 2) hx hb dX6_drop_34 (by decide) ?_
  refine xk_fi (va_runS (As := [.int w, .int (nI 0), .int (nI 2)]) (rest := []) ⟨hx, hb, hml, hown, hts⟩ (k1_within_f l hI w (nI 0) (nI 2) (by assumption)) (va_cwS 3 hts gX6_drop_X6_within rfl rfl rfl (by decide +kernel) ⟨Nat.le_of_ble_eq_true rfl, Nat.le_of_ble_eq_true rfl⟩) (xk_preS X1_ok hK hX hP) rfl rfl hl.1 rfl (lv_room (Nat.le_of_ble_eq_true rfl)) dX6_drop_35 ⟨Nat.le_of_ble_eq_true rfl, Nat.le_of_ble_eq_true rfl⟩) hS (fun H locs hP hS => ?_)
  refine xn_zne (tgt := 44) hx hb dX6_drop_38 (by decide) (by omega) (fun c_38 => absurd c_38 (by omega)) (fun c_38 => ?_)
  refine lv_bipush (v := (-2)) hx hb dX6_drop_41 (by decide) ?_
  exact xk_iret hx hb hr (vp_nar_int _) X1_ok hK hX hP hS hlk dX6_drop_43 (⟨rfl, hJ⟩)

set_option maxRecDepth 20000 in
theorem flX6_drop_32 {s : State} {av : Array Value} (hts : ∀ w ∈ wsX6_drop, w.before av s = true) : (Cond.fieldLink RX6 32 "WellBack" "rota" "LWellBack$Rota;").before av s = true := hts _ (by decide +kernel)
set_option maxRecDepth 20000 in
theorem inX6_drop_X6 : ∀ w ∈ u_ws RX6 TX6 13, w ∈ wsX6_drop := by decide +kernel
set_option maxHeartbeats 4000000 in
set_option maxRecDepth 100000 in
theorem a1_drop_z0 (l : Launch) {D : va_G} {ca : Nat → ClassId} {ad : Nat → Nat} (hI : Ij ad 34) {σ : Sg} {n p g rn : Nat} {d : Nat → Nat} {th rd : Nat → Nat → Nat} {sl sn : Nat → Nat} {sc : Nat → Nat → Int32} {ft tr : Int32} {x : Nat} {e h : Nat} (hJ : I1 n p g rn d th rd sl sn sc ft tr σ) (hxn : x < n) (he4 : e ≤ 4) (hh : h ≤ 99) (hc : cta p d e h (dl g th x) p 1 = 0) : C1i l D ca ad yX6_drop wsX6_drop { frames := 3, cells := 0, slots := 0, locals := 84 } [.ref (ad 0), .int (nI x), .int (nI e), .int (nI h), .int (nI 0)] σ (fun r σ' => r = -9 ∧ I1 n p g rn d th rd sl sn sc ft tr σ') := by
  refine xk_entry cX6_drop 9 (some .int) (by decide) rfl (Nat.le_of_ble_eq_true rfl) ?_
  intro pP eE sS mM below meth cC hx hb hml hr hts hown hlk hP hK hX hS ls hl
  have hl : lv_has ls 9 [(0, .ref (ad 0)), (1, .int (nI x)), (2, .int (nI e)), (3, .int (nI h)), (4, .int (nI 0))] := hl
  obtain ⟨hT, hR, hRd, hSh, hnp, hft, htr⟩ := id hJ
  have hn5 := hT.2.2.1
  have hg9 := hT.2.2.2.1
  have hp6 := hR.2.1
  have hrn8 := hRd.2.1
  have hXx := hT.2.2.2.2 x hxn
  obtain ⟨ho0, ho1, ho2, ho3, ho4⟩ := hXx.2
  have hp0 := hnp.mp (by omega)
  refine lv_aload_n hx hb dX6_drop_0 rfl (lv_at hl 0 rfl) ?_
  refine lv_iload_n hx hb dX6_drop_1 rfl (lv_at hl 1 rfl) ?_
  refine xk_fa (va_runV (As := [.int (nI x)]) (rest := []) ⟨hx, hb, hml, hown, hts⟩ (k1_thingAt_in l hI (x := x) hT.2.1 hn5 (by omega)) (cwV 1 hts gX6_drop_X6_thingAt rfl rfl rfl (by decide +kernel) ⟨Nat.le_of_ble_eq_true rfl, Nat.le_of_ble_eq_true rfl⟩) (xk_preV X1_ok hK hX hP (xk_recv hK hP 0 (by omega) (ci := 6) e1_well rfl)) rfl rfl hl.1 rfl (lv_room (Nat.le_of_ble_eq_true rfl)) dX6_drop_2 ⟨Nat.le_of_ble_eq_true rfl, Nat.le_of_ble_eq_true rfl⟩) hS (fun H locs hP hS => ?_)
  refine lv_astore (lv' := [(5, .ref (ad (9 + x))), (0, .ref (ad 0)), (1, .int (nI x)), (2, .int (nI e)), (3, .int (nI h)), (4, .int (nI 0))]) hx hb dX6_drop_5 hl (by decide) rfl (fun ls hl => ?_)
  refine lv_aload hx hb dX6_drop_7 (lv_at hl 0 rfl) ?_
  refine lv_ifnull hx hb dX6_drop_9 ?_
  refine lv_iload_n hx hb dX6_drop_12 rfl (lv_at hl 3 rfl) ?_
  refine xk_fi (va_runS (As := [.int (nI e)]) (rest := []) ⟨hx, hb, hml, hown, hts⟩ (k1_isDrawer_t l hI (nI e) (xn_in (by omega) (by omega) (by omega))) (va_cwS 1 hts gX6_drop_X6_isDrawer rfl rfl rfl (by decide +kernel) ⟨Nat.le_of_ble_eq_true rfl, Nat.le_of_ble_eq_true rfl⟩) (xk_preS X1_ok hK hX hP) rfl rfl hl.1 rfl (lv_room (Nat.le_of_ble_eq_true rfl)) dX6_drop_13 ⟨Nat.le_of_ble_eq_true rfl, Nat.le_of_ble_eq_true rfl⟩) hS (fun H locs hP hS => ?_)
  refine xn_zne (tgt := 21) hx hb dX6_drop_16 (by decide) (by omega) (fun c_16 => ?_) (fun c_16 => absurd c_16 (by omega))
  refine lv_iload_n hx hb dX6_drop_21 rfl (lv_at hl 4 rfl) ?_
  refine lv_iconst (v := nI 0) hx hb dX6_drop_22 (by decide) ?_
  refine lv_bipush (v := nI 99) hx hb dX6_drop_23 (by decide) ?_
  refine xk_fi (va_runS (As := [.int (nI h), .int (nI 0), .int (nI 99)]) (rest := []) ⟨hx, hb, hml, hown, hts⟩ (k1_within_t l hI (nI h) (nI 0) (nI 99) (xn_in (by omega) (by omega) (by omega))) (va_cwS 3 hts gX6_drop_X6_within rfl rfl rfl (by decide +kernel) ⟨Nat.le_of_ble_eq_true rfl, Nat.le_of_ble_eq_true rfl⟩) (xk_preS X1_ok hK hX hP) rfl rfl hl.1 rfl (lv_room (Nat.le_of_ble_eq_true rfl)) dX6_drop_25 ⟨Nat.le_of_ble_eq_true rfl, Nat.le_of_ble_eq_true rfl⟩) hS (fun H locs hP hS => ?_)
  refine xn_zeq (tgt := 41) hx hb dX6_drop_28 (by decide) (by omega) (fun c_28 => absurd c_28 (by omega)) (fun c_28 => ?_)
  refine lv_iload hx hb dX6_drop_31 (lv_at hl 5 rfl) ?_
  refine lv_iconst (v := nI 0) hx hb dX6_drop_33 (by decide) ?_
  refine lv_iconst (v := nI 2) hx hb dX6_drop_34 (by decide) ?_
  refine xk_fi (va_runS (As := [.int (nI 0), .int (nI 0), .int (nI 2)]) (rest := []) ⟨hx, hb, hml, hown, hts⟩ (k1_within_t l hI (nI 0) (nI 0) (nI 2) (xn_in (by omega) (by omega) (by omega))) (va_cwS 3 hts gX6_drop_X6_within rfl rfl rfl (by decide +kernel) ⟨Nat.le_of_ble_eq_true rfl, Nat.le_of_ble_eq_true rfl⟩) (xk_preS X1_ok hK hX hP) rfl rfl hl.1 rfl (lv_room (Nat.le_of_ble_eq_true rfl)) dX6_drop_35 ⟨Nat.le_of_ble_eq_true rfl, Nat.le_of_ble_eq_true rfl⟩) hS (fun H locs hP hS => ?_)
  refine xn_zne (tgt := 44) hx hb dX6_drop_38 (by decide) (by omega) (fun c_38 => ?_) (fun c_38 => absurd c_38 (by omega))
  refine lv_aload_n hx hb dX6_drop_44 rfl (lv_at hl 1 rfl) ?_
  refine lv_aload hx hb dX6_drop_45 (lv_at hl 0 rfl) ?_
  refine xk_fi (va_runV (As := [.ref (ad (9 + x))]) (rest := []) ⟨hx, hb, hml, hown, hts⟩ (k1_delayOf l hI (x := x) hT (by omega)) (cwV 1 hts gX6_drop_X6_delayOf rfl rfl rfl (by decide +kernel) ⟨Nat.le_of_ble_eq_true rfl, Nat.le_of_ble_eq_true rfl⟩) (xk_preV X1_ok hK hX hP (xk_recv hK hP 0 (by omega) (ci := 6) e1_well rfl)) rfl rfl hl.1 rfl (lv_room (Nat.le_of_ble_eq_true rfl)) dX6_drop_47 ⟨Nat.le_of_ble_eq_true rfl, Nat.le_of_ble_eq_true rfl⟩) hS (fun H locs hP hS => ?_)
  have hdl_47 : dl g th x ≤ 36 := dly_le hg9 ho1
  refine lv_istore (lv' := [(6, .int (nI (dl g th x))), (5, .ref (ad (9 + x))), (0, .ref (ad 0)), (1, .int (nI x)), (2, .int (nI e)), (3, .int (nI h)), (4, .int (nI 0))]) hx hb dX6_drop_50 hl (by decide) rfl (fun ls hl => ?_)
  refine lv_aload_n hx hb dX6_drop_52 rfl (lv_at hl 2 rfl) ?_
  refine xk_get hx hb hts (inX6_drop_X6) hown hK hP 0 (by omega) (ci := 6) e1_well rfl 3 (by decide) (flX6_drop_32 hts) rfl (.ref (ad 22)) rfl dX6_drop_53 ?_
  refine lv_iload_n hx hb dX6_drop_56 rfl (lv_at hl 4 rfl) ?_
  refine lv_iload_n hx hb dX6_drop_57 rfl (lv_at hl 5 rfl) ?_
  refine lv_iload hx hb dX6_drop_58 (lv_at hl 0 rfl) ?_
  refine xk_fi (va_runV (As := [.int (nI e), .int (nI h), .int (nI (dl g th x))]) (rest := []) ⟨hx, hb, hml, hown, hts⟩ (k1_comings l hI (q := 22) (d := d) (e := e) (h := h) (y := dl g th x) (by omega) (by omega) hR (by omega) (by omega) (by omega)) (cwV 3 hts gX6_drop_X1_comingsTillAnother rfl rfl rfl (by decide +kernel) ⟨Nat.le_of_ble_eq_true rfl, Nat.le_of_ble_eq_true rfl⟩) (xk_preV X1_ok hK hX hP (xk_recv hK hP 22 (by omega) (ci := 1) (e1_rota (by omega) (by omega)) rfl)) rfl rfl hl.1 rfl (lv_room (Nat.le_of_ble_eq_true rfl)) dX6_drop_60 ⟨Nat.le_of_ble_eq_true rfl, Nat.le_of_ble_eq_true rfl⟩) hS (fun H locs hP hS => ?_)
  have hct := cta_le p d e h (dl g th x) p 1
  have hm := Nat.mul_le_mul (show cta p d e h (dl g th x) p 1 ≤ 6 by omega) hdl_47
  refine lv_istore (lv' := [(7, .int (nI (cta p d e h (dl g th x) p 1))), (6, .int (nI (dl g th x))), (5, .ref (ad (9 + x))), (0, .ref (ad 0)), (1, .int (nI x)), (2, .int (nI e)), (3, .int (nI h)), (4, .int (nI 0))]) hx hb dX6_drop_63 hl (by decide) rfl (fun ls hl => ?_)
  refine lv_iload hx hb dX6_drop_65 (lv_at hl 0 rfl) ?_
  refine xn_zne (tgt := 73) hx hb dX6_drop_67 (by decide) (by omega) (fun c_67 => absurd c_67 (by omega)) (fun c_67 => ?_)
  refine lv_bipush (v := (-9)) hx hb dX6_drop_70 (by decide) ?_
  exact xk_iret hx hb hr (vp_nar_int _) X1_ok hK hX hP hS hlk dX6_drop_72 (⟨rfl, hJ⟩)

set_option maxHeartbeats 4000000 in
set_option maxRecDepth 100000 in
theorem a1_drop_n0 (l : Launch) {D : va_G} {ca : Nat → ClassId} {ad : Nat → Nat} (hI : Ij ad 34) {σ : Sg} {n p g rn : Nat} {d : Nat → Nat} {th rd : Nat → Nat → Nat} {sl sn : Nat → Nat} {sc : Nat → Nat → Int32} {ft tr : Int32} {x : Nat} {e h : Nat} (hJ : I1 n p g rn d th rd sl sn sc ft tr σ) (hxn : x < n) (he4 : e ≤ 4) (hh : h ≤ 99) (hc : ¬ cta p d e h (dl g th x) p 1 = 0) : C1i l D ca ad yX6_drop wsX6_drop { frames := 3, cells := 0, slots := 0, locals := 84 } [.ref (ad 0), .int (nI x), .int (nI e), .int (nI h), .int (nI 0)] σ (fun r σ' => r = nI (d ((h + cta p d e h (dl g th x) p 1 * dl g th x) % p)) ∧ I1 n p g rn d th rd sl sn sc ft tr σ') := by
  refine xk_entry cX6_drop 9 (some .int) (by decide) rfl (Nat.le_of_ble_eq_true rfl) ?_
  intro pP eE sS mM below meth cC hx hb hml hr hts hown hlk hP hK hX hS ls hl
  have hl : lv_has ls 9 [(0, .ref (ad 0)), (1, .int (nI x)), (2, .int (nI e)), (3, .int (nI h)), (4, .int (nI 0))] := hl
  obtain ⟨hT, hR, hRd, hSh, hnp, hft, htr⟩ := id hJ
  have hn5 := hT.2.2.1
  have hg9 := hT.2.2.2.1
  have hp6 := hR.2.1
  have hrn8 := hRd.2.1
  have hXx := hT.2.2.2.2 x hxn
  obtain ⟨ho0, ho1, ho2, ho3, ho4⟩ := hXx.2
  have hp0 := hnp.mp (by omega)
  refine lv_aload_n hx hb dX6_drop_0 rfl (lv_at hl 0 rfl) ?_
  refine lv_iload_n hx hb dX6_drop_1 rfl (lv_at hl 1 rfl) ?_
  refine xk_fa (va_runV (As := [.int (nI x)]) (rest := []) ⟨hx, hb, hml, hown, hts⟩ (k1_thingAt_in l hI (x := x) hT.2.1 hn5 (by omega)) (cwV 1 hts gX6_drop_X6_thingAt rfl rfl rfl (by decide +kernel) ⟨Nat.le_of_ble_eq_true rfl, Nat.le_of_ble_eq_true rfl⟩) (xk_preV X1_ok hK hX hP (xk_recv hK hP 0 (by omega) (ci := 6) e1_well rfl)) rfl rfl hl.1 rfl (lv_room (Nat.le_of_ble_eq_true rfl)) dX6_drop_2 ⟨Nat.le_of_ble_eq_true rfl, Nat.le_of_ble_eq_true rfl⟩) hS (fun H locs hP hS => ?_)
  refine lv_astore (lv' := [(5, .ref (ad (9 + x))), (0, .ref (ad 0)), (1, .int (nI x)), (2, .int (nI e)), (3, .int (nI h)), (4, .int (nI 0))]) hx hb dX6_drop_5 hl (by decide) rfl (fun ls hl => ?_)
  refine lv_aload hx hb dX6_drop_7 (lv_at hl 0 rfl) ?_
  refine lv_ifnull hx hb dX6_drop_9 ?_
  refine lv_iload_n hx hb dX6_drop_12 rfl (lv_at hl 3 rfl) ?_
  refine xk_fi (va_runS (As := [.int (nI e)]) (rest := []) ⟨hx, hb, hml, hown, hts⟩ (k1_isDrawer_t l hI (nI e) (xn_in (by omega) (by omega) (by omega))) (va_cwS 1 hts gX6_drop_X6_isDrawer rfl rfl rfl (by decide +kernel) ⟨Nat.le_of_ble_eq_true rfl, Nat.le_of_ble_eq_true rfl⟩) (xk_preS X1_ok hK hX hP) rfl rfl hl.1 rfl (lv_room (Nat.le_of_ble_eq_true rfl)) dX6_drop_13 ⟨Nat.le_of_ble_eq_true rfl, Nat.le_of_ble_eq_true rfl⟩) hS (fun H locs hP hS => ?_)
  refine xn_zne (tgt := 21) hx hb dX6_drop_16 (by decide) (by omega) (fun c_16 => ?_) (fun c_16 => absurd c_16 (by omega))
  refine lv_iload_n hx hb dX6_drop_21 rfl (lv_at hl 4 rfl) ?_
  refine lv_iconst (v := nI 0) hx hb dX6_drop_22 (by decide) ?_
  refine lv_bipush (v := nI 99) hx hb dX6_drop_23 (by decide) ?_
  refine xk_fi (va_runS (As := [.int (nI h), .int (nI 0), .int (nI 99)]) (rest := []) ⟨hx, hb, hml, hown, hts⟩ (k1_within_t l hI (nI h) (nI 0) (nI 99) (xn_in (by omega) (by omega) (by omega))) (va_cwS 3 hts gX6_drop_X6_within rfl rfl rfl (by decide +kernel) ⟨Nat.le_of_ble_eq_true rfl, Nat.le_of_ble_eq_true rfl⟩) (xk_preS X1_ok hK hX hP) rfl rfl hl.1 rfl (lv_room (Nat.le_of_ble_eq_true rfl)) dX6_drop_25 ⟨Nat.le_of_ble_eq_true rfl, Nat.le_of_ble_eq_true rfl⟩) hS (fun H locs hP hS => ?_)
  refine xn_zeq (tgt := 41) hx hb dX6_drop_28 (by decide) (by omega) (fun c_28 => absurd c_28 (by omega)) (fun c_28 => ?_)
  refine lv_iload hx hb dX6_drop_31 (lv_at hl 5 rfl) ?_
  refine lv_iconst (v := nI 0) hx hb dX6_drop_33 (by decide) ?_
  refine lv_iconst (v := nI 2) hx hb dX6_drop_34 (by decide) ?_
  refine xk_fi (va_runS (As := [.int (nI 0), .int (nI 0), .int (nI 2)]) (rest := []) ⟨hx, hb, hml, hown, hts⟩ (k1_within_t l hI (nI 0) (nI 0) (nI 2) (xn_in (by omega) (by omega) (by omega))) (va_cwS 3 hts gX6_drop_X6_within rfl rfl rfl (by decide +kernel) ⟨Nat.le_of_ble_eq_true rfl, Nat.le_of_ble_eq_true rfl⟩) (xk_preS X1_ok hK hX hP) rfl rfl hl.1 rfl (lv_room (Nat.le_of_ble_eq_true rfl)) dX6_drop_35 ⟨Nat.le_of_ble_eq_true rfl, Nat.le_of_ble_eq_true rfl⟩) hS (fun H locs hP hS => ?_)
  refine xn_zne (tgt := 44) hx hb dX6_drop_38 (by decide) (by omega) (fun c_38 => ?_) (fun c_38 => absurd c_38 (by omega))
  refine lv_aload_n hx hb dX6_drop_44 rfl (lv_at hl 1 rfl) ?_
  refine lv_aload hx hb dX6_drop_45 (lv_at hl 0 rfl) ?_
  refine xk_fi (va_runV (As := [.ref (ad (9 + x))]) (rest := []) ⟨hx, hb, hml, hown, hts⟩ (k1_delayOf l hI (x := x) hT (by omega)) (cwV 1 hts gX6_drop_X6_delayOf rfl rfl rfl (by decide +kernel) ⟨Nat.le_of_ble_eq_true rfl, Nat.le_of_ble_eq_true rfl⟩) (xk_preV X1_ok hK hX hP (xk_recv hK hP 0 (by omega) (ci := 6) e1_well rfl)) rfl rfl hl.1 rfl (lv_room (Nat.le_of_ble_eq_true rfl)) dX6_drop_47 ⟨Nat.le_of_ble_eq_true rfl, Nat.le_of_ble_eq_true rfl⟩) hS (fun H locs hP hS => ?_)
  have hdl_47 : dl g th x ≤ 36 := dly_le hg9 ho1
  refine lv_istore (lv' := [(6, .int (nI (dl g th x))), (5, .ref (ad (9 + x))), (0, .ref (ad 0)), (1, .int (nI x)), (2, .int (nI e)), (3, .int (nI h)), (4, .int (nI 0))]) hx hb dX6_drop_50 hl (by decide) rfl (fun ls hl => ?_)
  refine lv_aload_n hx hb dX6_drop_52 rfl (lv_at hl 2 rfl) ?_
  refine xk_get hx hb hts (inX6_drop_X6) hown hK hP 0 (by omega) (ci := 6) e1_well rfl 3 (by decide) (flX6_drop_32 hts) rfl (.ref (ad 22)) rfl dX6_drop_53 ?_
  refine lv_iload_n hx hb dX6_drop_56 rfl (lv_at hl 4 rfl) ?_
  refine lv_iload_n hx hb dX6_drop_57 rfl (lv_at hl 5 rfl) ?_
  refine lv_iload hx hb dX6_drop_58 (lv_at hl 0 rfl) ?_
  refine xk_fi (va_runV (As := [.int (nI e), .int (nI h), .int (nI (dl g th x))]) (rest := []) ⟨hx, hb, hml, hown, hts⟩ (k1_comings l hI (q := 22) (d := d) (e := e) (h := h) (y := dl g th x) (by omega) (by omega) hR (by omega) (by omega) (by omega)) (cwV 3 hts gX6_drop_X1_comingsTillAnother rfl rfl rfl (by decide +kernel) ⟨Nat.le_of_ble_eq_true rfl, Nat.le_of_ble_eq_true rfl⟩) (xk_preV X1_ok hK hX hP (xk_recv hK hP 22 (by omega) (ci := 1) (e1_rota (by omega) (by omega)) rfl)) rfl rfl hl.1 rfl (lv_room (Nat.le_of_ble_eq_true rfl)) dX6_drop_60 ⟨Nat.le_of_ble_eq_true rfl, Nat.le_of_ble_eq_true rfl⟩) hS (fun H locs hP hS => ?_)
  have hct := cta_le p d e h (dl g th x) p 1
  have hm := Nat.mul_le_mul (show cta p d e h (dl g th x) p 1 ≤ 6 by omega) hdl_47
  refine lv_istore (lv' := [(7, .int (nI (cta p d e h (dl g th x) p 1))), (6, .int (nI (dl g th x))), (5, .ref (ad (9 + x))), (0, .ref (ad 0)), (1, .int (nI x)), (2, .int (nI e)), (3, .int (nI h)), (4, .int (nI 0))]) hx hb dX6_drop_63 hl (by decide) rfl (fun ls hl => ?_)
  refine lv_iload hx hb dX6_drop_65 (lv_at hl 0 rfl) ?_
  refine xn_zne (tgt := 73) hx hb dX6_drop_67 (by decide) (by omega) (fun c_67 => ?_) (fun c_67 => absurd c_67 (by omega))
  refine lv_iload_n hx hb dX6_drop_73 rfl (lv_at hl 6 rfl) ?_
  refine lv_iload hx hb dX6_drop_74 (lv_at hl 0 rfl) ?_
  refine lv_iload hx hb dX6_drop_76 (lv_at hl 1 rfl) ?_
  refine xn_imul hx hb dX6_drop_78 ?_
  refine xn_iadd hx hb dX6_drop_79 ?_
  refine lv_istore (lv' := [(8, .int (nI (h + ((cta p d e h (dl g th x) p 1) * (dl g th x))))), (7, .int (nI (cta p d e h (dl g th x) p 1))), (6, .int (nI (dl g th x))), (5, .ref (ad (9 + x))), (0, .ref (ad 0)), (1, .int (nI x)), (2, .int (nI e)), (3, .int (nI h)), (4, .int (nI 0))]) hx hb dX6_drop_80 hl (by decide) rfl (fun ls hl => ?_)
  refine lv_iload hx hb dX6_drop_82 (lv_at hl 8 rfl) ?_
  refine xn_zne (tgt := 97) hx hb dX6_drop_84 (by decide) (by omega) (fun c_84 => absurd c_84 (by omega)) (fun c_84 => ?_)
  refine lv_aload_n hx hb dX6_drop_87 rfl (lv_at hl 4 rfl) ?_
  refine xk_get hx hb hts (inX6_drop_X6) hown hK hP 0 (by omega) (ci := 6) e1_well rfl 3 (by decide) (flX6_drop_32 hts) rfl (.ref (ad 22)) rfl dX6_drop_88 ?_
  refine lv_iload hx hb dX6_drop_91 (lv_at hl 0 rfl) ?_
  refine xk_fi (va_runV (As := [.int (nI (h + ((cta p d e h (dl g th x) p 1) * (dl g th x))))]) (rest := []) ⟨hx, hb, hml, hown, hts⟩ (k1_drawerIn l hI (q := 22) (d := d) (h := h + ((cta p d e h (dl g th x) p 1) * (dl g th x))) (by omega) (by omega) hR (by omega) (by omega)) (cwV 1 hts gX6_drop_X1_drawerIn rfl rfl rfl (by decide +kernel) ⟨Nat.le_of_ble_eq_true rfl, Nat.le_of_ble_eq_true rfl⟩) (xk_preV X1_ok hK hX hP (xk_recv hK hP 22 (by omega) (ci := 1) (e1_rota (by omega) (by omega)) rfl)) rfl rfl hl.1 rfl (lv_room (Nat.le_of_ble_eq_true rfl)) dX6_drop_93 ⟨Nat.le_of_ble_eq_true rfl, Nat.le_of_ble_eq_true rfl⟩) hS (fun H locs hP hS => ?_)
  exact xk_iret hx hb hr (vp_nar_int _) X1_ok hK hX hP hS hlk dX6_drop_96 (⟨rfl, hJ⟩)

set_option maxHeartbeats 4000000 in
set_option maxRecDepth 100000 in
theorem a1_drop_z1 (l : Launch) {D : va_G} {ca : Nat → ClassId} {ad : Nat → Nat} (hI : Ij ad 34) {σ : Sg} {n p g rn : Nat} {d : Nat → Nat} {th rd : Nat → Nat → Nat} {sl sn : Nat → Nat} {sc : Nat → Nat → Int32} {ft tr : Int32} {x : Nat} {e h : Nat} (hJ : I1 n p g rn d th rd sl sn sc ft tr σ) (hxn : x < n) (he4 : e ≤ 4) (hh : h ≤ 99) (hc : cta p d e h (dl g th x) p 1 = 0) : C1i l D ca ad yX6_drop wsX6_drop { frames := 3, cells := 0, slots := 0, locals := 84 } [.ref (ad 0), .int (nI x), .int (nI e), .int (nI h), .int (nI 1)] σ (fun r σ' => r = -9 ∧ I1 n p g rn d th rd sl sn sc ft tr σ') := by
  refine xk_entry cX6_drop 9 (some .int) (by decide) rfl (Nat.le_of_ble_eq_true rfl) ?_
  intro pP eE sS mM below meth cC hx hb hml hr hts hown hlk hP hK hX hS ls hl
  have hl : lv_has ls 9 [(0, .ref (ad 0)), (1, .int (nI x)), (2, .int (nI e)), (3, .int (nI h)), (4, .int (nI 1))] := hl
  obtain ⟨hT, hR, hRd, hSh, hnp, hft, htr⟩ := id hJ
  have hn5 := hT.2.2.1
  have hg9 := hT.2.2.2.1
  have hp6 := hR.2.1
  have hrn8 := hRd.2.1
  have hXx := hT.2.2.2.2 x hxn
  obtain ⟨ho0, ho1, ho2, ho3, ho4⟩ := hXx.2
  have hp0 := hnp.mp (by omega)
  refine lv_aload_n hx hb dX6_drop_0 rfl (lv_at hl 0 rfl) ?_
  refine lv_iload_n hx hb dX6_drop_1 rfl (lv_at hl 1 rfl) ?_
  refine xk_fa (va_runV (As := [.int (nI x)]) (rest := []) ⟨hx, hb, hml, hown, hts⟩ (k1_thingAt_in l hI (x := x) hT.2.1 hn5 (by omega)) (cwV 1 hts gX6_drop_X6_thingAt rfl rfl rfl (by decide +kernel) ⟨Nat.le_of_ble_eq_true rfl, Nat.le_of_ble_eq_true rfl⟩) (xk_preV X1_ok hK hX hP (xk_recv hK hP 0 (by omega) (ci := 6) e1_well rfl)) rfl rfl hl.1 rfl (lv_room (Nat.le_of_ble_eq_true rfl)) dX6_drop_2 ⟨Nat.le_of_ble_eq_true rfl, Nat.le_of_ble_eq_true rfl⟩) hS (fun H locs hP hS => ?_)
  refine lv_astore (lv' := [(5, .ref (ad (9 + x))), (0, .ref (ad 0)), (1, .int (nI x)), (2, .int (nI e)), (3, .int (nI h)), (4, .int (nI 1))]) hx hb dX6_drop_5 hl (by decide) rfl (fun ls hl => ?_)
  refine lv_aload hx hb dX6_drop_7 (lv_at hl 0 rfl) ?_
  refine lv_ifnull hx hb dX6_drop_9 ?_
  refine lv_iload_n hx hb dX6_drop_12 rfl (lv_at hl 3 rfl) ?_
  refine xk_fi (va_runS (As := [.int (nI e)]) (rest := []) ⟨hx, hb, hml, hown, hts⟩ (k1_isDrawer_t l hI (nI e) (xn_in (by omega) (by omega) (by omega))) (va_cwS 1 hts gX6_drop_X6_isDrawer rfl rfl rfl (by decide +kernel) ⟨Nat.le_of_ble_eq_true rfl, Nat.le_of_ble_eq_true rfl⟩) (xk_preS X1_ok hK hX hP) rfl rfl hl.1 rfl (lv_room (Nat.le_of_ble_eq_true rfl)) dX6_drop_13 ⟨Nat.le_of_ble_eq_true rfl, Nat.le_of_ble_eq_true rfl⟩) hS (fun H locs hP hS => ?_)
  refine xn_zne (tgt := 21) hx hb dX6_drop_16 (by decide) (by omega) (fun c_16 => ?_) (fun c_16 => absurd c_16 (by omega))
  refine lv_iload_n hx hb dX6_drop_21 rfl (lv_at hl 4 rfl) ?_
  refine lv_iconst (v := nI 0) hx hb dX6_drop_22 (by decide) ?_
  refine lv_bipush (v := nI 99) hx hb dX6_drop_23 (by decide) ?_
  refine xk_fi (va_runS (As := [.int (nI h), .int (nI 0), .int (nI 99)]) (rest := []) ⟨hx, hb, hml, hown, hts⟩ (k1_within_t l hI (nI h) (nI 0) (nI 99) (xn_in (by omega) (by omega) (by omega))) (va_cwS 3 hts gX6_drop_X6_within rfl rfl rfl (by decide +kernel) ⟨Nat.le_of_ble_eq_true rfl, Nat.le_of_ble_eq_true rfl⟩) (xk_preS X1_ok hK hX hP) rfl rfl hl.1 rfl (lv_room (Nat.le_of_ble_eq_true rfl)) dX6_drop_25 ⟨Nat.le_of_ble_eq_true rfl, Nat.le_of_ble_eq_true rfl⟩) hS (fun H locs hP hS => ?_)
  refine xn_zeq (tgt := 41) hx hb dX6_drop_28 (by decide) (by omega) (fun c_28 => absurd c_28 (by omega)) (fun c_28 => ?_)
  refine lv_iload hx hb dX6_drop_31 (lv_at hl 5 rfl) ?_
  refine lv_iconst (v := nI 0) hx hb dX6_drop_33 (by decide) ?_
  refine lv_iconst (v := nI 2) hx hb dX6_drop_34 (by decide) ?_
  refine xk_fi (va_runS (As := [.int (nI 1), .int (nI 0), .int (nI 2)]) (rest := []) ⟨hx, hb, hml, hown, hts⟩ (k1_within_t l hI (nI 1) (nI 0) (nI 2) (xn_in (by omega) (by omega) (by omega))) (va_cwS 3 hts gX6_drop_X6_within rfl rfl rfl (by decide +kernel) ⟨Nat.le_of_ble_eq_true rfl, Nat.le_of_ble_eq_true rfl⟩) (xk_preS X1_ok hK hX hP) rfl rfl hl.1 rfl (lv_room (Nat.le_of_ble_eq_true rfl)) dX6_drop_35 ⟨Nat.le_of_ble_eq_true rfl, Nat.le_of_ble_eq_true rfl⟩) hS (fun H locs hP hS => ?_)
  refine xn_zne (tgt := 44) hx hb dX6_drop_38 (by decide) (by omega) (fun c_38 => ?_) (fun c_38 => absurd c_38 (by omega))
  refine lv_aload_n hx hb dX6_drop_44 rfl (lv_at hl 1 rfl) ?_
  refine lv_aload hx hb dX6_drop_45 (lv_at hl 0 rfl) ?_
  refine xk_fi (va_runV (As := [.ref (ad (9 + x))]) (rest := []) ⟨hx, hb, hml, hown, hts⟩ (k1_delayOf l hI (x := x) hT (by omega)) (cwV 1 hts gX6_drop_X6_delayOf rfl rfl rfl (by decide +kernel) ⟨Nat.le_of_ble_eq_true rfl, Nat.le_of_ble_eq_true rfl⟩) (xk_preV X1_ok hK hX hP (xk_recv hK hP 0 (by omega) (ci := 6) e1_well rfl)) rfl rfl hl.1 rfl (lv_room (Nat.le_of_ble_eq_true rfl)) dX6_drop_47 ⟨Nat.le_of_ble_eq_true rfl, Nat.le_of_ble_eq_true rfl⟩) hS (fun H locs hP hS => ?_)
  have hdl_47 : dl g th x ≤ 36 := dly_le hg9 ho1
  refine lv_istore (lv' := [(6, .int (nI (dl g th x))), (5, .ref (ad (9 + x))), (0, .ref (ad 0)), (1, .int (nI x)), (2, .int (nI e)), (3, .int (nI h)), (4, .int (nI 1))]) hx hb dX6_drop_50 hl (by decide) rfl (fun ls hl => ?_)
  refine lv_aload_n hx hb dX6_drop_52 rfl (lv_at hl 2 rfl) ?_
  refine xk_get hx hb hts (inX6_drop_X6) hown hK hP 0 (by omega) (ci := 6) e1_well rfl 3 (by decide) (flX6_drop_32 hts) rfl (.ref (ad 22)) rfl dX6_drop_53 ?_
  refine lv_iload_n hx hb dX6_drop_56 rfl (lv_at hl 4 rfl) ?_
  refine lv_iload_n hx hb dX6_drop_57 rfl (lv_at hl 5 rfl) ?_
  refine lv_iload hx hb dX6_drop_58 (lv_at hl 0 rfl) ?_
  refine xk_fi (va_runV (As := [.int (nI e), .int (nI h), .int (nI (dl g th x))]) (rest := []) ⟨hx, hb, hml, hown, hts⟩ (k1_comings l hI (q := 22) (d := d) (e := e) (h := h) (y := dl g th x) (by omega) (by omega) hR (by omega) (by omega) (by omega)) (cwV 3 hts gX6_drop_X1_comingsTillAnother rfl rfl rfl (by decide +kernel) ⟨Nat.le_of_ble_eq_true rfl, Nat.le_of_ble_eq_true rfl⟩) (xk_preV X1_ok hK hX hP (xk_recv hK hP 22 (by omega) (ci := 1) (e1_rota (by omega) (by omega)) rfl)) rfl rfl hl.1 rfl (lv_room (Nat.le_of_ble_eq_true rfl)) dX6_drop_60 ⟨Nat.le_of_ble_eq_true rfl, Nat.le_of_ble_eq_true rfl⟩) hS (fun H locs hP hS => ?_)
  have hct := cta_le p d e h (dl g th x) p 1
  have hm := Nat.mul_le_mul (show cta p d e h (dl g th x) p 1 ≤ 6 by omega) hdl_47
  refine lv_istore (lv' := [(7, .int (nI (cta p d e h (dl g th x) p 1))), (6, .int (nI (dl g th x))), (5, .ref (ad (9 + x))), (0, .ref (ad 0)), (1, .int (nI x)), (2, .int (nI e)), (3, .int (nI h)), (4, .int (nI 1))]) hx hb dX6_drop_63 hl (by decide) rfl (fun ls hl => ?_)
  refine lv_iload hx hb dX6_drop_65 (lv_at hl 0 rfl) ?_
  refine xn_zne (tgt := 73) hx hb dX6_drop_67 (by decide) (by omega) (fun c_67 => absurd c_67 (by omega)) (fun c_67 => ?_)
  refine lv_bipush (v := (-9)) hx hb dX6_drop_70 (by decide) ?_
  exact xk_iret hx hb hr (vp_nar_int _) X1_ok hK hX hP hS hlk dX6_drop_72 (⟨rfl, hJ⟩)

set_option maxHeartbeats 4000000 in
set_option maxRecDepth 100000 in
theorem a1_drop_n1 (l : Launch) {D : va_G} {ca : Nat → ClassId} {ad : Nat → Nat} (hI : Ij ad 34) {σ : Sg} {n p g rn : Nat} {d : Nat → Nat} {th rd : Nat → Nat → Nat} {sl sn : Nat → Nat} {sc : Nat → Nat → Int32} {ft tr : Int32} {x : Nat} {e h : Nat} (hJ : I1 n p g rn d th rd sl sn sc ft tr σ) (hxn : x < n) (he4 : e ≤ 4) (hh : h ≤ 99) (hc : ¬ cta p d e h (dl g th x) p 1 = 0) : C1i l D ca ad yX6_drop wsX6_drop { frames := 3, cells := 0, slots := 0, locals := 84 } [.ref (ad 0), .int (nI x), .int (nI e), .int (nI h), .int (nI 1)] σ (fun r σ' => r = nI (h + cta p d e h (dl g th x) p 1 * dl g th x) ∧ I1 n p g rn d th rd sl sn sc ft tr σ') := by
  refine xk_entry cX6_drop 9 (some .int) (by decide) rfl (Nat.le_of_ble_eq_true rfl) ?_
  intro pP eE sS mM below meth cC hx hb hml hr hts hown hlk hP hK hX hS ls hl
  have hl : lv_has ls 9 [(0, .ref (ad 0)), (1, .int (nI x)), (2, .int (nI e)), (3, .int (nI h)), (4, .int (nI 1))] := hl
  obtain ⟨hT, hR, hRd, hSh, hnp, hft, htr⟩ := id hJ
  have hn5 := hT.2.2.1
  have hg9 := hT.2.2.2.1
  have hp6 := hR.2.1
  have hrn8 := hRd.2.1
  have hXx := hT.2.2.2.2 x hxn
  obtain ⟨ho0, ho1, ho2, ho3, ho4⟩ := hXx.2
  have hp0 := hnp.mp (by omega)
  refine lv_aload_n hx hb dX6_drop_0 rfl (lv_at hl 0 rfl) ?_
  refine lv_iload_n hx hb dX6_drop_1 rfl (lv_at hl 1 rfl) ?_
  refine xk_fa (va_runV (As := [.int (nI x)]) (rest := []) ⟨hx, hb, hml, hown, hts⟩ (k1_thingAt_in l hI (x := x) hT.2.1 hn5 (by omega)) (cwV 1 hts gX6_drop_X6_thingAt rfl rfl rfl (by decide +kernel) ⟨Nat.le_of_ble_eq_true rfl, Nat.le_of_ble_eq_true rfl⟩) (xk_preV X1_ok hK hX hP (xk_recv hK hP 0 (by omega) (ci := 6) e1_well rfl)) rfl rfl hl.1 rfl (lv_room (Nat.le_of_ble_eq_true rfl)) dX6_drop_2 ⟨Nat.le_of_ble_eq_true rfl, Nat.le_of_ble_eq_true rfl⟩) hS (fun H locs hP hS => ?_)
  refine lv_astore (lv' := [(5, .ref (ad (9 + x))), (0, .ref (ad 0)), (1, .int (nI x)), (2, .int (nI e)), (3, .int (nI h)), (4, .int (nI 1))]) hx hb dX6_drop_5 hl (by decide) rfl (fun ls hl => ?_)
  refine lv_aload hx hb dX6_drop_7 (lv_at hl 0 rfl) ?_
  refine lv_ifnull hx hb dX6_drop_9 ?_
  refine lv_iload_n hx hb dX6_drop_12 rfl (lv_at hl 3 rfl) ?_
  refine xk_fi (va_runS (As := [.int (nI e)]) (rest := []) ⟨hx, hb, hml, hown, hts⟩ (k1_isDrawer_t l hI (nI e) (xn_in (by omega) (by omega) (by omega))) (va_cwS 1 hts gX6_drop_X6_isDrawer rfl rfl rfl (by decide +kernel) ⟨Nat.le_of_ble_eq_true rfl, Nat.le_of_ble_eq_true rfl⟩) (xk_preS X1_ok hK hX hP) rfl rfl hl.1 rfl (lv_room (Nat.le_of_ble_eq_true rfl)) dX6_drop_13 ⟨Nat.le_of_ble_eq_true rfl, Nat.le_of_ble_eq_true rfl⟩) hS (fun H locs hP hS => ?_)
  refine xn_zne (tgt := 21) hx hb dX6_drop_16 (by decide) (by omega) (fun c_16 => ?_) (fun c_16 => absurd c_16 (by omega))
  refine lv_iload_n hx hb dX6_drop_21 rfl (lv_at hl 4 rfl) ?_
  refine lv_iconst (v := nI 0) hx hb dX6_drop_22 (by decide) ?_
  refine lv_bipush (v := nI 99) hx hb dX6_drop_23 (by decide) ?_
  refine xk_fi (va_runS (As := [.int (nI h), .int (nI 0), .int (nI 99)]) (rest := []) ⟨hx, hb, hml, hown, hts⟩ (k1_within_t l hI (nI h) (nI 0) (nI 99) (xn_in (by omega) (by omega) (by omega))) (va_cwS 3 hts gX6_drop_X6_within rfl rfl rfl (by decide +kernel) ⟨Nat.le_of_ble_eq_true rfl, Nat.le_of_ble_eq_true rfl⟩) (xk_preS X1_ok hK hX hP) rfl rfl hl.1 rfl (lv_room (Nat.le_of_ble_eq_true rfl)) dX6_drop_25 ⟨Nat.le_of_ble_eq_true rfl, Nat.le_of_ble_eq_true rfl⟩) hS (fun H locs hP hS => ?_)
  refine xn_zeq (tgt := 41) hx hb dX6_drop_28 (by decide) (by omega) (fun c_28 => absurd c_28 (by omega)) (fun c_28 => ?_)
  refine lv_iload hx hb dX6_drop_31 (lv_at hl 5 rfl) ?_
  refine lv_iconst (v := nI 0) hx hb dX6_drop_33 (by decide) ?_
  refine lv_iconst (v := nI 2) hx hb dX6_drop_34 (by decide) ?_
  refine xk_fi (va_runS (As := [.int (nI 1), .int (nI 0), .int (nI 2)]) (rest := []) ⟨hx, hb, hml, hown, hts⟩ (k1_within_t l hI (nI 1) (nI 0) (nI 2) (xn_in (by omega) (by omega) (by omega))) (va_cwS 3 hts gX6_drop_X6_within rfl rfl rfl (by decide +kernel) ⟨Nat.le_of_ble_eq_true rfl, Nat.le_of_ble_eq_true rfl⟩) (xk_preS X1_ok hK hX hP) rfl rfl hl.1 rfl (lv_room (Nat.le_of_ble_eq_true rfl)) dX6_drop_35 ⟨Nat.le_of_ble_eq_true rfl, Nat.le_of_ble_eq_true rfl⟩) hS (fun H locs hP hS => ?_)
  refine xn_zne (tgt := 44) hx hb dX6_drop_38 (by decide) (by omega) (fun c_38 => ?_) (fun c_38 => absurd c_38 (by omega))
  refine lv_aload_n hx hb dX6_drop_44 rfl (lv_at hl 1 rfl) ?_
  refine lv_aload hx hb dX6_drop_45 (lv_at hl 0 rfl) ?_
  refine xk_fi (va_runV (As := [.ref (ad (9 + x))]) (rest := []) ⟨hx, hb, hml, hown, hts⟩ (k1_delayOf l hI (x := x) hT (by omega)) (cwV 1 hts gX6_drop_X6_delayOf rfl rfl rfl (by decide +kernel) ⟨Nat.le_of_ble_eq_true rfl, Nat.le_of_ble_eq_true rfl⟩) (xk_preV X1_ok hK hX hP (xk_recv hK hP 0 (by omega) (ci := 6) e1_well rfl)) rfl rfl hl.1 rfl (lv_room (Nat.le_of_ble_eq_true rfl)) dX6_drop_47 ⟨Nat.le_of_ble_eq_true rfl, Nat.le_of_ble_eq_true rfl⟩) hS (fun H locs hP hS => ?_)
  have hdl_47 : dl g th x ≤ 36 := dly_le hg9 ho1
  refine lv_istore (lv' := [(6, .int (nI (dl g th x))), (5, .ref (ad (9 + x))), (0, .ref (ad 0)), (1, .int (nI x)), (2, .int (nI e)), (3, .int (nI h)), (4, .int (nI 1))]) hx hb dX6_drop_50 hl (by decide) rfl (fun ls hl => ?_)
  refine lv_aload_n hx hb dX6_drop_52 rfl (lv_at hl 2 rfl) ?_
  refine xk_get hx hb hts (inX6_drop_X6) hown hK hP 0 (by omega) (ci := 6) e1_well rfl 3 (by decide) (flX6_drop_32 hts) rfl (.ref (ad 22)) rfl dX6_drop_53 ?_
  refine lv_iload_n hx hb dX6_drop_56 rfl (lv_at hl 4 rfl) ?_
  refine lv_iload_n hx hb dX6_drop_57 rfl (lv_at hl 5 rfl) ?_
  refine lv_iload hx hb dX6_drop_58 (lv_at hl 0 rfl) ?_
  refine xk_fi (va_runV (As := [.int (nI e), .int (nI h), .int (nI (dl g th x))]) (rest := []) ⟨hx, hb, hml, hown, hts⟩ (k1_comings l hI (q := 22) (d := d) (e := e) (h := h) (y := dl g th x) (by omega) (by omega) hR (by omega) (by omega) (by omega)) (cwV 3 hts gX6_drop_X1_comingsTillAnother rfl rfl rfl (by decide +kernel) ⟨Nat.le_of_ble_eq_true rfl, Nat.le_of_ble_eq_true rfl⟩) (xk_preV X1_ok hK hX hP (xk_recv hK hP 22 (by omega) (ci := 1) (e1_rota (by omega) (by omega)) rfl)) rfl rfl hl.1 rfl (lv_room (Nat.le_of_ble_eq_true rfl)) dX6_drop_60 ⟨Nat.le_of_ble_eq_true rfl, Nat.le_of_ble_eq_true rfl⟩) hS (fun H locs hP hS => ?_)
  have hct := cta_le p d e h (dl g th x) p 1
  have hm := Nat.mul_le_mul (show cta p d e h (dl g th x) p 1 ≤ 6 by omega) hdl_47
  refine lv_istore (lv' := [(7, .int (nI (cta p d e h (dl g th x) p 1))), (6, .int (nI (dl g th x))), (5, .ref (ad (9 + x))), (0, .ref (ad 0)), (1, .int (nI x)), (2, .int (nI e)), (3, .int (nI h)), (4, .int (nI 1))]) hx hb dX6_drop_63 hl (by decide) rfl (fun ls hl => ?_)
  refine lv_iload hx hb dX6_drop_65 (lv_at hl 0 rfl) ?_
  refine xn_zne (tgt := 73) hx hb dX6_drop_67 (by decide) (by omega) (fun c_67 => ?_) (fun c_67 => absurd c_67 (by omega))
  refine lv_iload_n hx hb dX6_drop_73 rfl (lv_at hl 6 rfl) ?_
  refine lv_iload hx hb dX6_drop_74 (lv_at hl 0 rfl) ?_
  refine lv_iload hx hb dX6_drop_76 (lv_at hl 1 rfl) ?_
  refine xn_imul hx hb dX6_drop_78 ?_
  refine xn_iadd hx hb dX6_drop_79 ?_
  refine lv_istore (lv' := [(8, .int (nI (h + ((cta p d e h (dl g th x) p 1) * (dl g th x))))), (7, .int (nI (cta p d e h (dl g th x) p 1))), (6, .int (nI (dl g th x))), (5, .ref (ad (9 + x))), (0, .ref (ad 0)), (1, .int (nI x)), (2, .int (nI e)), (3, .int (nI h)), (4, .int (nI 1))]) hx hb dX6_drop_80 hl (by decide) rfl (fun ls hl => ?_)
  refine lv_iload hx hb dX6_drop_82 (lv_at hl 8 rfl) ?_
  refine xn_zne (tgt := 97) hx hb dX6_drop_84 (by decide) (by omega) (fun c_84 => ?_) (fun c_84 => absurd c_84 (by omega))
  refine lv_iload hx hb dX6_drop_97 (lv_at hl 8 rfl) ?_
  refine lv_iconst (v := nI 1) hx hb dX6_drop_99 (by decide) ?_
  refine xn_ine (tgt := 108) hx hb dX6_drop_100 (by decide) (by omega) (by omega) (fun c_100 => absurd c_100 (by omega)) (fun c_100 => ?_)
  refine lv_iload hx hb dX6_drop_103 (lv_at hl 0 rfl) ?_
  refine lv_goto (tgt := 110) hx hb dX6_drop_105 (by decide) ?_
  exact xk_iret hx hb hr (vp_nar_int _) X1_ok hK hX hP hS hlk dX6_drop_110 (⟨rfl, hJ⟩)

set_option maxHeartbeats 4000000 in
set_option maxRecDepth 100000 in
theorem a1_drop_z2 (l : Launch) {D : va_G} {ca : Nat → ClassId} {ad : Nat → Nat} (hI : Ij ad 34) {σ : Sg} {n p g rn : Nat} {d : Nat → Nat} {th rd : Nat → Nat → Nat} {sl sn : Nat → Nat} {sc : Nat → Nat → Int32} {ft tr : Int32} {x : Nat} {e h : Nat} (hJ : I1 n p g rn d th rd sl sn sc ft tr σ) (hxn : x < n) (he4 : e ≤ 4) (hh : h ≤ 99) (hc : cta p d e h (dl g th x) p 1 = 0) : C1i l D ca ad yX6_drop wsX6_drop { frames := 3, cells := 0, slots := 0, locals := 84 } [.ref (ad 0), .int (nI x), .int (nI e), .int (nI h), .int (nI 2)] σ (fun r σ' => r = -9 ∧ I1 n p g rn d th rd sl sn sc ft tr σ') := by
  refine xk_entry cX6_drop 9 (some .int) (by decide) rfl (Nat.le_of_ble_eq_true rfl) ?_
  intro pP eE sS mM below meth cC hx hb hml hr hts hown hlk hP hK hX hS ls hl
  have hl : lv_has ls 9 [(0, .ref (ad 0)), (1, .int (nI x)), (2, .int (nI e)), (3, .int (nI h)), (4, .int (nI 2))] := hl
  obtain ⟨hT, hR, hRd, hSh, hnp, hft, htr⟩ := id hJ
  have hn5 := hT.2.2.1
  have hg9 := hT.2.2.2.1
  have hp6 := hR.2.1
  have hrn8 := hRd.2.1
  have hXx := hT.2.2.2.2 x hxn
  obtain ⟨ho0, ho1, ho2, ho3, ho4⟩ := hXx.2
  have hp0 := hnp.mp (by omega)
  refine lv_aload_n hx hb dX6_drop_0 rfl (lv_at hl 0 rfl) ?_
  refine lv_iload_n hx hb dX6_drop_1 rfl (lv_at hl 1 rfl) ?_
  refine xk_fa (va_runV (As := [.int (nI x)]) (rest := []) ⟨hx, hb, hml, hown, hts⟩ (k1_thingAt_in l hI (x := x) hT.2.1 hn5 (by omega)) (cwV 1 hts gX6_drop_X6_thingAt rfl rfl rfl (by decide +kernel) ⟨Nat.le_of_ble_eq_true rfl, Nat.le_of_ble_eq_true rfl⟩) (xk_preV X1_ok hK hX hP (xk_recv hK hP 0 (by omega) (ci := 6) e1_well rfl)) rfl rfl hl.1 rfl (lv_room (Nat.le_of_ble_eq_true rfl)) dX6_drop_2 ⟨Nat.le_of_ble_eq_true rfl, Nat.le_of_ble_eq_true rfl⟩) hS (fun H locs hP hS => ?_)
  refine lv_astore (lv' := [(5, .ref (ad (9 + x))), (0, .ref (ad 0)), (1, .int (nI x)), (2, .int (nI e)), (3, .int (nI h)), (4, .int (nI 2))]) hx hb dX6_drop_5 hl (by decide) rfl (fun ls hl => ?_)
  refine lv_aload hx hb dX6_drop_7 (lv_at hl 0 rfl) ?_
  refine lv_ifnull hx hb dX6_drop_9 ?_
  refine lv_iload_n hx hb dX6_drop_12 rfl (lv_at hl 3 rfl) ?_
  refine xk_fi (va_runS (As := [.int (nI e)]) (rest := []) ⟨hx, hb, hml, hown, hts⟩ (k1_isDrawer_t l hI (nI e) (xn_in (by omega) (by omega) (by omega))) (va_cwS 1 hts gX6_drop_X6_isDrawer rfl rfl rfl (by decide +kernel) ⟨Nat.le_of_ble_eq_true rfl, Nat.le_of_ble_eq_true rfl⟩) (xk_preS X1_ok hK hX hP) rfl rfl hl.1 rfl (lv_room (Nat.le_of_ble_eq_true rfl)) dX6_drop_13 ⟨Nat.le_of_ble_eq_true rfl, Nat.le_of_ble_eq_true rfl⟩) hS (fun H locs hP hS => ?_)
  refine xn_zne (tgt := 21) hx hb dX6_drop_16 (by decide) (by omega) (fun c_16 => ?_) (fun c_16 => absurd c_16 (by omega))
  refine lv_iload_n hx hb dX6_drop_21 rfl (lv_at hl 4 rfl) ?_
  refine lv_iconst (v := nI 0) hx hb dX6_drop_22 (by decide) ?_
  refine lv_bipush (v := nI 99) hx hb dX6_drop_23 (by decide) ?_
  refine xk_fi (va_runS (As := [.int (nI h), .int (nI 0), .int (nI 99)]) (rest := []) ⟨hx, hb, hml, hown, hts⟩ (k1_within_t l hI (nI h) (nI 0) (nI 99) (xn_in (by omega) (by omega) (by omega))) (va_cwS 3 hts gX6_drop_X6_within rfl rfl rfl (by decide +kernel) ⟨Nat.le_of_ble_eq_true rfl, Nat.le_of_ble_eq_true rfl⟩) (xk_preS X1_ok hK hX hP) rfl rfl hl.1 rfl (lv_room (Nat.le_of_ble_eq_true rfl)) dX6_drop_25 ⟨Nat.le_of_ble_eq_true rfl, Nat.le_of_ble_eq_true rfl⟩) hS (fun H locs hP hS => ?_)
  refine xn_zeq (tgt := 41) hx hb dX6_drop_28 (by decide) (by omega) (fun c_28 => absurd c_28 (by omega)) (fun c_28 => ?_)
  refine lv_iload hx hb dX6_drop_31 (lv_at hl 5 rfl) ?_
  refine lv_iconst (v := nI 0) hx hb dX6_drop_33 (by decide) ?_
  refine lv_iconst (v := nI 2) hx hb dX6_drop_34 (by decide) ?_
  refine xk_fi (va_runS (As := [.int (nI 2), .int (nI 0), .int (nI 2)]) (rest := []) ⟨hx, hb, hml, hown, hts⟩ (k1_within_t l hI (nI 2) (nI 0) (nI 2) (xn_in (by omega) (by omega) (by omega))) (va_cwS 3 hts gX6_drop_X6_within rfl rfl rfl (by decide +kernel) ⟨Nat.le_of_ble_eq_true rfl, Nat.le_of_ble_eq_true rfl⟩) (xk_preS X1_ok hK hX hP) rfl rfl hl.1 rfl (lv_room (Nat.le_of_ble_eq_true rfl)) dX6_drop_35 ⟨Nat.le_of_ble_eq_true rfl, Nat.le_of_ble_eq_true rfl⟩) hS (fun H locs hP hS => ?_)
  refine xn_zne (tgt := 44) hx hb dX6_drop_38 (by decide) (by omega) (fun c_38 => ?_) (fun c_38 => absurd c_38 (by omega))
  refine lv_aload_n hx hb dX6_drop_44 rfl (lv_at hl 1 rfl) ?_
  refine lv_aload hx hb dX6_drop_45 (lv_at hl 0 rfl) ?_
  refine xk_fi (va_runV (As := [.ref (ad (9 + x))]) (rest := []) ⟨hx, hb, hml, hown, hts⟩ (k1_delayOf l hI (x := x) hT (by omega)) (cwV 1 hts gX6_drop_X6_delayOf rfl rfl rfl (by decide +kernel) ⟨Nat.le_of_ble_eq_true rfl, Nat.le_of_ble_eq_true rfl⟩) (xk_preV X1_ok hK hX hP (xk_recv hK hP 0 (by omega) (ci := 6) e1_well rfl)) rfl rfl hl.1 rfl (lv_room (Nat.le_of_ble_eq_true rfl)) dX6_drop_47 ⟨Nat.le_of_ble_eq_true rfl, Nat.le_of_ble_eq_true rfl⟩) hS (fun H locs hP hS => ?_)
  have hdl_47 : dl g th x ≤ 36 := dly_le hg9 ho1
  refine lv_istore (lv' := [(6, .int (nI (dl g th x))), (5, .ref (ad (9 + x))), (0, .ref (ad 0)), (1, .int (nI x)), (2, .int (nI e)), (3, .int (nI h)), (4, .int (nI 2))]) hx hb dX6_drop_50 hl (by decide) rfl (fun ls hl => ?_)
  refine lv_aload_n hx hb dX6_drop_52 rfl (lv_at hl 2 rfl) ?_
  refine xk_get hx hb hts (inX6_drop_X6) hown hK hP 0 (by omega) (ci := 6) e1_well rfl 3 (by decide) (flX6_drop_32 hts) rfl (.ref (ad 22)) rfl dX6_drop_53 ?_
  refine lv_iload_n hx hb dX6_drop_56 rfl (lv_at hl 4 rfl) ?_
  refine lv_iload_n hx hb dX6_drop_57 rfl (lv_at hl 5 rfl) ?_
  refine lv_iload hx hb dX6_drop_58 (lv_at hl 0 rfl) ?_
  refine xk_fi (va_runV (As := [.int (nI e), .int (nI h), .int (nI (dl g th x))]) (rest := []) ⟨hx, hb, hml, hown, hts⟩ (k1_comings l hI (q := 22) (d := d) (e := e) (h := h) (y := dl g th x) (by omega) (by omega) hR (by omega) (by omega) (by omega)) (cwV 3 hts gX6_drop_X1_comingsTillAnother rfl rfl rfl (by decide +kernel) ⟨Nat.le_of_ble_eq_true rfl, Nat.le_of_ble_eq_true rfl⟩) (xk_preV X1_ok hK hX hP (xk_recv hK hP 22 (by omega) (ci := 1) (e1_rota (by omega) (by omega)) rfl)) rfl rfl hl.1 rfl (lv_room (Nat.le_of_ble_eq_true rfl)) dX6_drop_60 ⟨Nat.le_of_ble_eq_true rfl, Nat.le_of_ble_eq_true rfl⟩) hS (fun H locs hP hS => ?_)
  have hct := cta_le p d e h (dl g th x) p 1
  have hm := Nat.mul_le_mul (show cta p d e h (dl g th x) p 1 ≤ 6 by omega) hdl_47
  refine lv_istore (lv' := [(7, .int (nI (cta p d e h (dl g th x) p 1))), (6, .int (nI (dl g th x))), (5, .ref (ad (9 + x))), (0, .ref (ad 0)), (1, .int (nI x)), (2, .int (nI e)), (3, .int (nI h)), (4, .int (nI 2))]) hx hb dX6_drop_63 hl (by decide) rfl (fun ls hl => ?_)
  refine lv_iload hx hb dX6_drop_65 (lv_at hl 0 rfl) ?_
  refine xn_zne (tgt := 73) hx hb dX6_drop_67 (by decide) (by omega) (fun c_67 => absurd c_67 (by omega)) (fun c_67 => ?_)
  refine lv_bipush (v := (-9)) hx hb dX6_drop_70 (by decide) ?_
  exact xk_iret hx hb hr (vp_nar_int _) X1_ok hK hX hP hS hlk dX6_drop_72 (⟨rfl, hJ⟩)

set_option maxHeartbeats 4000000 in
set_option maxRecDepth 100000 in
theorem a1_drop_n2 (l : Launch) {D : va_G} {ca : Nat → ClassId} {ad : Nat → Nat} (hI : Ij ad 34) {σ : Sg} {n p g rn : Nat} {d : Nat → Nat} {th rd : Nat → Nat → Nat} {sl sn : Nat → Nat} {sc : Nat → Nat → Int32} {ft tr : Int32} {x : Nat} {e h : Nat} (hJ : I1 n p g rn d th rd sl sn sc ft tr σ) (hxn : x < n) (he4 : e ≤ 4) (hh : h ≤ 99) (hc : ¬ cta p d e h (dl g th x) p 1 = 0) : C1i l D ca ad yX6_drop wsX6_drop { frames := 3, cells := 0, slots := 0, locals := 84 } [.ref (ad 0), .int (nI x), .int (nI e), .int (nI h), .int (nI 2)] σ (fun r σ' => r = nI (cta p d e h (dl g th x) p 1) ∧ I1 n p g rn d th rd sl sn sc ft tr σ') := by
  refine xk_entry cX6_drop 9 (some .int) (by decide) rfl (Nat.le_of_ble_eq_true rfl) ?_
  intro pP eE sS mM below meth cC hx hb hml hr hts hown hlk hP hK hX hS ls hl
  have hl : lv_has ls 9 [(0, .ref (ad 0)), (1, .int (nI x)), (2, .int (nI e)), (3, .int (nI h)), (4, .int (nI 2))] := hl
  obtain ⟨hT, hR, hRd, hSh, hnp, hft, htr⟩ := id hJ
  have hn5 := hT.2.2.1
  have hg9 := hT.2.2.2.1
  have hp6 := hR.2.1
  have hrn8 := hRd.2.1
  have hXx := hT.2.2.2.2 x hxn
  obtain ⟨ho0, ho1, ho2, ho3, ho4⟩ := hXx.2
  have hp0 := hnp.mp (by omega)
  refine lv_aload_n hx hb dX6_drop_0 rfl (lv_at hl 0 rfl) ?_
  refine lv_iload_n hx hb dX6_drop_1 rfl (lv_at hl 1 rfl) ?_
  refine xk_fa (va_runV (As := [.int (nI x)]) (rest := []) ⟨hx, hb, hml, hown, hts⟩ (k1_thingAt_in l hI (x := x) hT.2.1 hn5 (by omega)) (cwV 1 hts gX6_drop_X6_thingAt rfl rfl rfl (by decide +kernel) ⟨Nat.le_of_ble_eq_true rfl, Nat.le_of_ble_eq_true rfl⟩) (xk_preV X1_ok hK hX hP (xk_recv hK hP 0 (by omega) (ci := 6) e1_well rfl)) rfl rfl hl.1 rfl (lv_room (Nat.le_of_ble_eq_true rfl)) dX6_drop_2 ⟨Nat.le_of_ble_eq_true rfl, Nat.le_of_ble_eq_true rfl⟩) hS (fun H locs hP hS => ?_)
  refine lv_astore (lv' := [(5, .ref (ad (9 + x))), (0, .ref (ad 0)), (1, .int (nI x)), (2, .int (nI e)), (3, .int (nI h)), (4, .int (nI 2))]) hx hb dX6_drop_5 hl (by decide) rfl (fun ls hl => ?_)
  refine lv_aload hx hb dX6_drop_7 (lv_at hl 0 rfl) ?_
  refine lv_ifnull hx hb dX6_drop_9 ?_
  refine lv_iload_n hx hb dX6_drop_12 rfl (lv_at hl 3 rfl) ?_
  refine xk_fi (va_runS (As := [.int (nI e)]) (rest := []) ⟨hx, hb, hml, hown, hts⟩ (k1_isDrawer_t l hI (nI e) (xn_in (by omega) (by omega) (by omega))) (va_cwS 1 hts gX6_drop_X6_isDrawer rfl rfl rfl (by decide +kernel) ⟨Nat.le_of_ble_eq_true rfl, Nat.le_of_ble_eq_true rfl⟩) (xk_preS X1_ok hK hX hP) rfl rfl hl.1 rfl (lv_room (Nat.le_of_ble_eq_true rfl)) dX6_drop_13 ⟨Nat.le_of_ble_eq_true rfl, Nat.le_of_ble_eq_true rfl⟩) hS (fun H locs hP hS => ?_)
  refine xn_zne (tgt := 21) hx hb dX6_drop_16 (by decide) (by omega) (fun c_16 => ?_) (fun c_16 => absurd c_16 (by omega))
  refine lv_iload_n hx hb dX6_drop_21 rfl (lv_at hl 4 rfl) ?_
  refine lv_iconst (v := nI 0) hx hb dX6_drop_22 (by decide) ?_
  refine lv_bipush (v := nI 99) hx hb dX6_drop_23 (by decide) ?_
  refine xk_fi (va_runS (As := [.int (nI h), .int (nI 0), .int (nI 99)]) (rest := []) ⟨hx, hb, hml, hown, hts⟩ (k1_within_t l hI (nI h) (nI 0) (nI 99) (xn_in (by omega) (by omega) (by omega))) (va_cwS 3 hts gX6_drop_X6_within rfl rfl rfl (by decide +kernel) ⟨Nat.le_of_ble_eq_true rfl, Nat.le_of_ble_eq_true rfl⟩) (xk_preS X1_ok hK hX hP) rfl rfl hl.1 rfl (lv_room (Nat.le_of_ble_eq_true rfl)) dX6_drop_25 ⟨Nat.le_of_ble_eq_true rfl, Nat.le_of_ble_eq_true rfl⟩) hS (fun H locs hP hS => ?_)
  refine xn_zeq (tgt := 41) hx hb dX6_drop_28 (by decide) (by omega) (fun c_28 => absurd c_28 (by omega)) (fun c_28 => ?_)
  refine lv_iload hx hb dX6_drop_31 (lv_at hl 5 rfl) ?_
  refine lv_iconst (v := nI 0) hx hb dX6_drop_33 (by decide) ?_
  refine lv_iconst (v := nI 2) hx hb dX6_drop_34 (by decide) ?_
  refine xk_fi (va_runS (As := [.int (nI 2), .int (nI 0), .int (nI 2)]) (rest := []) ⟨hx, hb, hml, hown, hts⟩ (k1_within_t l hI (nI 2) (nI 0) (nI 2) (xn_in (by omega) (by omega) (by omega))) (va_cwS 3 hts gX6_drop_X6_within rfl rfl rfl (by decide +kernel) ⟨Nat.le_of_ble_eq_true rfl, Nat.le_of_ble_eq_true rfl⟩) (xk_preS X1_ok hK hX hP) rfl rfl hl.1 rfl (lv_room (Nat.le_of_ble_eq_true rfl)) dX6_drop_35 ⟨Nat.le_of_ble_eq_true rfl, Nat.le_of_ble_eq_true rfl⟩) hS (fun H locs hP hS => ?_)
  refine xn_zne (tgt := 44) hx hb dX6_drop_38 (by decide) (by omega) (fun c_38 => ?_) (fun c_38 => absurd c_38 (by omega))
  refine lv_aload_n hx hb dX6_drop_44 rfl (lv_at hl 1 rfl) ?_
  refine lv_aload hx hb dX6_drop_45 (lv_at hl 0 rfl) ?_
  refine xk_fi (va_runV (As := [.ref (ad (9 + x))]) (rest := []) ⟨hx, hb, hml, hown, hts⟩ (k1_delayOf l hI (x := x) hT (by omega)) (cwV 1 hts gX6_drop_X6_delayOf rfl rfl rfl (by decide +kernel) ⟨Nat.le_of_ble_eq_true rfl, Nat.le_of_ble_eq_true rfl⟩) (xk_preV X1_ok hK hX hP (xk_recv hK hP 0 (by omega) (ci := 6) e1_well rfl)) rfl rfl hl.1 rfl (lv_room (Nat.le_of_ble_eq_true rfl)) dX6_drop_47 ⟨Nat.le_of_ble_eq_true rfl, Nat.le_of_ble_eq_true rfl⟩) hS (fun H locs hP hS => ?_)
  have hdl_47 : dl g th x ≤ 36 := dly_le hg9 ho1
  refine lv_istore (lv' := [(6, .int (nI (dl g th x))), (5, .ref (ad (9 + x))), (0, .ref (ad 0)), (1, .int (nI x)), (2, .int (nI e)), (3, .int (nI h)), (4, .int (nI 2))]) hx hb dX6_drop_50 hl (by decide) rfl (fun ls hl => ?_)
  refine lv_aload_n hx hb dX6_drop_52 rfl (lv_at hl 2 rfl) ?_
  refine xk_get hx hb hts (inX6_drop_X6) hown hK hP 0 (by omega) (ci := 6) e1_well rfl 3 (by decide) (flX6_drop_32 hts) rfl (.ref (ad 22)) rfl dX6_drop_53 ?_
  refine lv_iload_n hx hb dX6_drop_56 rfl (lv_at hl 4 rfl) ?_
  refine lv_iload_n hx hb dX6_drop_57 rfl (lv_at hl 5 rfl) ?_
  refine lv_iload hx hb dX6_drop_58 (lv_at hl 0 rfl) ?_
  refine xk_fi (va_runV (As := [.int (nI e), .int (nI h), .int (nI (dl g th x))]) (rest := []) ⟨hx, hb, hml, hown, hts⟩ (k1_comings l hI (q := 22) (d := d) (e := e) (h := h) (y := dl g th x) (by omega) (by omega) hR (by omega) (by omega) (by omega)) (cwV 3 hts gX6_drop_X1_comingsTillAnother rfl rfl rfl (by decide +kernel) ⟨Nat.le_of_ble_eq_true rfl, Nat.le_of_ble_eq_true rfl⟩) (xk_preV X1_ok hK hX hP (xk_recv hK hP 22 (by omega) (ci := 1) (e1_rota (by omega) (by omega)) rfl)) rfl rfl hl.1 rfl (lv_room (Nat.le_of_ble_eq_true rfl)) dX6_drop_60 ⟨Nat.le_of_ble_eq_true rfl, Nat.le_of_ble_eq_true rfl⟩) hS (fun H locs hP hS => ?_)
  have hct := cta_le p d e h (dl g th x) p 1
  have hm := Nat.mul_le_mul (show cta p d e h (dl g th x) p 1 ≤ 6 by omega) hdl_47
  refine lv_istore (lv' := [(7, .int (nI (cta p d e h (dl g th x) p 1))), (6, .int (nI (dl g th x))), (5, .ref (ad (9 + x))), (0, .ref (ad 0)), (1, .int (nI x)), (2, .int (nI e)), (3, .int (nI h)), (4, .int (nI 2))]) hx hb dX6_drop_63 hl (by decide) rfl (fun ls hl => ?_)
  refine lv_iload hx hb dX6_drop_65 (lv_at hl 0 rfl) ?_
  refine xn_zne (tgt := 73) hx hb dX6_drop_67 (by decide) (by omega) (fun c_67 => ?_) (fun c_67 => absurd c_67 (by omega))
  refine lv_iload_n hx hb dX6_drop_73 rfl (lv_at hl 6 rfl) ?_
  refine lv_iload hx hb dX6_drop_74 (lv_at hl 0 rfl) ?_
  refine lv_iload hx hb dX6_drop_76 (lv_at hl 1 rfl) ?_
  refine xn_imul hx hb dX6_drop_78 ?_
  refine xn_iadd hx hb dX6_drop_79 ?_
  refine lv_istore (lv' := [(8, .int (nI (h + ((cta p d e h (dl g th x) p 1) * (dl g th x))))), (7, .int (nI (cta p d e h (dl g th x) p 1))), (6, .int (nI (dl g th x))), (5, .ref (ad (9 + x))), (0, .ref (ad 0)), (1, .int (nI x)), (2, .int (nI e)), (3, .int (nI h)), (4, .int (nI 2))]) hx hb dX6_drop_80 hl (by decide) rfl (fun ls hl => ?_)
  refine lv_iload hx hb dX6_drop_82 (lv_at hl 8 rfl) ?_
  refine xn_zne (tgt := 97) hx hb dX6_drop_84 (by decide) (by omega) (fun c_84 => ?_) (fun c_84 => absurd c_84 (by omega))
  refine lv_iload hx hb dX6_drop_97 (lv_at hl 8 rfl) ?_
  refine lv_iconst (v := nI 1) hx hb dX6_drop_99 (by decide) ?_
  refine xn_ine (tgt := 108) hx hb dX6_drop_100 (by decide) (by omega) (by omega) (fun c_100 => ?_) (fun c_100 => absurd c_100 (by omega))
  refine lv_iload hx hb dX6_drop_108 (lv_at hl 1 rfl) ?_
  exact xk_iret hx hb hr (vp_nar_int _) X1_ok hK hX hP hS hlk dX6_drop_110 (⟨rfl, hJ⟩)

set_option maxHeartbeats 4000000 in
set_option maxRecDepth 100000 in
theorem a1_when_xo (l : Launch) {D : va_G} {ca : Nat → ClassId} {ad : Nat → Nat} (hI : Ij ad 34) {σ : Sg} {n p g rn : Nat} {d : Nat → Nat} {th rd : Nat → Nat → Nat} {sl sn : Nat → Nat} {sc : Nat → Nat → Int32} {ft tr : Int32} {x : Int32} {e : Int32} (hJ : I1 n p g rn d th rd sl sn sc ft tr σ) (hxx : ∀ j, j < n → x ≠ nI j) : C1i l D ca ad yX6_when wsX6_when { frames := 3, cells := 0, slots := 0, locals := 84 } [.ref (ad 0), .int x, .int e] σ (fun r σ' => r = -1 ∧ I1 n p g rn d th rd sl sn sc ft tr σ') := by
  refine xk_entry cX6_when 6 (some .int) (by decide) rfl (Nat.le_of_ble_eq_true rfl) ?_
  intro pP eE sS mM below meth cC hx hb hml hr hts hown hlk hP hK hX hS ls hl
  have hl : lv_has ls 6 [(0, .ref (ad 0)), (1, .int x), (2, .int e)] := hl
  obtain ⟨hT, hR, hRd, hSh, hnp, hft, htr⟩ := id hJ
  have hn5 := hT.2.2.1
  have hg9 := hT.2.2.2.1
  have hp6 := hR.2.1
  have hrn8 := hRd.2.1
  refine lv_aload_n hx hb dX6_when_0 rfl (lv_at hl 0 rfl) ?_
  refine lv_iload_n hx hb dX6_when_1 rfl (lv_at hl 1 rfl) ?_
  refine xk_fz (va_runV (As := [.int x]) (rest := []) ⟨hx, hb, hml, hown, hts⟩ (k1_thingAt_out l hI (x := x) hT.2.1 hn5 (by assumption)) (cwV 1 hts gX6_when_X6_thingAt rfl rfl rfl (by decide +kernel) ⟨Nat.le_of_ble_eq_true rfl, Nat.le_of_ble_eq_true rfl⟩) (xk_preV X1_ok hK hX hP (xk_recv hK hP 0 (by omega) (ci := 6) e1_well rfl)) rfl rfl hl.1 rfl (lv_room (Nat.le_of_ble_eq_true rfl)) dX6_when_2 ⟨Nat.le_of_ble_eq_true rfl, Nat.le_of_ble_eq_true rfl⟩) hS (fun H locs hP hS => ?_)
  refine lv_astore_nN (lv' := [(3, .null), (0, .ref (ad 0)), (1, .int x), (2, .int e)]) hx hb dX6_when_5 rfl hl (by decide) rfl (fun ls hl => ?_)
  refine lv_aload_nN hx hb dX6_when_6 rfl (lv_at hl 0 rfl) ?_
  refine lv_ifnullN (tgt := 17) hx hb dX6_when_7 (by decide) ?_
  refine lv_iconst (v := (-1)) hx hb dX6_when_17 (by decide) ?_
  exact xk_iret hx hb hr (vp_nar_int _) X1_ok hK hX hP hS hlk dX6_when_18 (⟨rfl, hJ⟩)

set_option maxHeartbeats 4000000 in
set_option maxRecDepth 100000 in
theorem a1_when_do (l : Launch) {D : va_G} {ca : Nat → ClassId} {ad : Nat → Nat} (hI : Ij ad 34) {σ : Sg} {n p g rn : Nat} {d : Nat → Nat} {th rd : Nat → Nat → Nat} {sl sn : Nat → Nat} {sc : Nat → Nat → Int32} {ft tr : Int32} {x : Nat} {e : Int32} (hJ : I1 n p g rn d th rd sl sn sc ft tr σ) (hxn : x < n) (heo : ¬ (nI 0 ≤ e ∧ e ≤ nI 4)) : C1i l D ca ad yX6_when wsX6_when { frames := 3, cells := 0, slots := 0, locals := 84 } [.ref (ad 0), .int (nI x), .int e] σ (fun r σ' => r = -1 ∧ I1 n p g rn d th rd sl sn sc ft tr σ') := by
  refine xk_entry cX6_when 6 (some .int) (by decide) rfl (Nat.le_of_ble_eq_true rfl) ?_
  intro pP eE sS mM below meth cC hx hb hml hr hts hown hlk hP hK hX hS ls hl
  have hl : lv_has ls 6 [(0, .ref (ad 0)), (1, .int (nI x)), (2, .int e)] := hl
  obtain ⟨hT, hR, hRd, hSh, hnp, hft, htr⟩ := id hJ
  have hn5 := hT.2.2.1
  have hg9 := hT.2.2.2.1
  have hp6 := hR.2.1
  have hrn8 := hRd.2.1
  have hXx := hT.2.2.2.2 x hxn
  obtain ⟨ho0, ho1, ho2, ho3, ho4⟩ := hXx.2
  refine lv_aload_n hx hb dX6_when_0 rfl (lv_at hl 0 rfl) ?_
  refine lv_iload_n hx hb dX6_when_1 rfl (lv_at hl 1 rfl) ?_
  refine xk_fa (va_runV (As := [.int (nI x)]) (rest := []) ⟨hx, hb, hml, hown, hts⟩ (k1_thingAt_in l hI (x := x) hT.2.1 hn5 (by omega)) (cwV 1 hts gX6_when_X6_thingAt rfl rfl rfl (by decide +kernel) ⟨Nat.le_of_ble_eq_true rfl, Nat.le_of_ble_eq_true rfl⟩) (xk_preV X1_ok hK hX hP (xk_recv hK hP 0 (by omega) (ci := 6) e1_well rfl)) rfl rfl hl.1 rfl (lv_room (Nat.le_of_ble_eq_true rfl)) dX6_when_2 ⟨Nat.le_of_ble_eq_true rfl, Nat.le_of_ble_eq_true rfl⟩) hS (fun H locs hP hS => ?_)
  refine lv_astore_n (lv' := [(3, .ref (ad (9 + x))), (0, .ref (ad 0)), (1, .int (nI x)), (2, .int e)]) hx hb dX6_when_5 rfl hl (by decide) rfl (fun ls hl => ?_)
  refine lv_aload_n hx hb dX6_when_6 rfl (lv_at hl 0 rfl) ?_
  refine lv_ifnull hx hb dX6_when_7 ?_
  refine lv_iload_n hx hb dX6_when_10 rfl (lv_at hl 3 rfl) ?_
  refine xk_fi (va_runS (As := [.int e]) (rest := []) ⟨hx, hb, hml, hown, hts⟩ (k1_isDrawer_f l hI e (by assumption)) (va_cwS 1 hts gX6_when_X6_isDrawer rfl rfl rfl (by decide +kernel) ⟨Nat.le_of_ble_eq_true rfl, Nat.le_of_ble_eq_true rfl⟩) (xk_preS X1_ok hK hX hP) rfl rfl hl.1 rfl (lv_room (Nat.le_of_ble_eq_true rfl)) dX6_when_11 ⟨Nat.le_of_ble_eq_true rfl, Nat.le_of_ble_eq_true rfl⟩) hS (fun H locs hP hS => ?_)
  refine xn_zne (tgt := 19) hx hb dX6_when_14 (by decide) (by omega) (fun c_14 => absurd c_14 (by omega)) (fun c_14 => ?_)
  refine lv_iconst (v := (-1)) hx hb dX6_when_17 (by decide) ?_
  exact xk_iret hx hb hr (vp_nar_int _) X1_ok hK hX hP hS hlk dX6_when_18 (⟨rfl, hJ⟩)

set_option maxRecDepth 20000 in
theorem flX6_when_32 {s : State} {av : Array Value} (hts : ∀ w ∈ wsX6_when, w.before av s = true) : (Cond.fieldLink RX6 32 "WellBack" "rota" "LWellBack$Rota;").before av s = true := hts _ (by decide +kernel)
set_option maxRecDepth 20000 in
theorem flX6_when_103 {s : State} {av : Array Value} (hts : ∀ w ∈ wsX6_when, w.before av s = true) : (Cond.fieldLink RX6 103 "WellBack$Thing" "owner" "I").before av s = true := hts _ (by decide +kernel)
set_option maxRecDepth 20000 in
theorem inX6_when_X4 : ∀ w ∈ u_ws RX4 TX4 5, w ∈ wsX6_when := by decide +kernel
set_option maxRecDepth 20000 in
theorem inX6_when_X6 : ∀ w ∈ u_ws RX6 TX6 13, w ∈ wsX6_when := by decide +kernel
set_option maxHeartbeats 4000000 in
set_option maxRecDepth 100000 in
theorem a1_when_ok (l : Launch) {D : va_G} {ca : Nat → ClassId} {ad : Nat → Nat} (hI : Ij ad 34) {σ : Sg} {n p g rn : Nat} {d : Nat → Nat} {th rd : Nat → Nat → Nat} {sl sn : Nat → Nat} {sc : Nat → Nat → Int32} {ft tr : Int32} {x : Nat} {e : Nat} (hJ : I1 n p g rn d th rd sl sn sc ft tr σ) (hxn : x < n) (he4 : e ≤ 4) : C1i l D ca ad yX6_when wsX6_when { frames := 3, cells := 0, slots := 0, locals := 84 } [.ref (ad 0), .int (nI x), .int (nI e)] σ (fun r σ' => r = wF (fun h => decide (oth p d (th x 2) h (dl g th x) = nI e)) 24 0 ∧ I1 n p g rn d th rd sl sn sc ft tr σ') := by
  refine xk_entry cX6_when 6 (some .int) (by decide) rfl (Nat.le_of_ble_eq_true rfl) ?_
  intro pP eE sS mM below meth cC hx hb hml hr hts hown hlk hP hK hX hS ls hl
  have hl : lv_has ls 6 [(0, .ref (ad 0)), (1, .int (nI x)), (2, .int (nI e))] := hl
  obtain ⟨hT, hR, hRd, hSh, hnp, hft, htr⟩ := id hJ
  have hn5 := hT.2.2.1
  have hg9 := hT.2.2.2.1
  have hp6 := hR.2.1
  have hrn8 := hRd.2.1
  have hXx := hT.2.2.2.2 x hxn
  obtain ⟨ho0, ho1, ho2, ho3, ho4⟩ := hXx.2
  have hp0 := hnp.mp (by omega)
  refine lv_aload_n hx hb dX6_when_0 rfl (lv_at hl 0 rfl) ?_
  refine lv_iload_n hx hb dX6_when_1 rfl (lv_at hl 1 rfl) ?_
  refine xk_fa (va_runV (As := [.int (nI x)]) (rest := []) ⟨hx, hb, hml, hown, hts⟩ (k1_thingAt_in l hI (x := x) hT.2.1 hn5 (by omega)) (cwV 1 hts gX6_when_X6_thingAt rfl rfl rfl (by decide +kernel) ⟨Nat.le_of_ble_eq_true rfl, Nat.le_of_ble_eq_true rfl⟩) (xk_preV X1_ok hK hX hP (xk_recv hK hP 0 (by omega) (ci := 6) e1_well rfl)) rfl rfl hl.1 rfl (lv_room (Nat.le_of_ble_eq_true rfl)) dX6_when_2 ⟨Nat.le_of_ble_eq_true rfl, Nat.le_of_ble_eq_true rfl⟩) hS (fun H locs hP hS => ?_)
  refine lv_astore_n (lv' := [(3, .ref (ad (9 + x))), (0, .ref (ad 0)), (1, .int (nI x)), (2, .int (nI e))]) hx hb dX6_when_5 rfl hl (by decide) rfl (fun ls hl => ?_)
  refine lv_aload_n hx hb dX6_when_6 rfl (lv_at hl 0 rfl) ?_
  refine lv_ifnull hx hb dX6_when_7 ?_
  refine lv_iload_n hx hb dX6_when_10 rfl (lv_at hl 3 rfl) ?_
  refine xk_fi (va_runS (As := [.int (nI e)]) (rest := []) ⟨hx, hb, hml, hown, hts⟩ (k1_isDrawer_t l hI (nI e) (xn_in (by omega) (by omega) (by omega))) (va_cwS 1 hts gX6_when_X6_isDrawer rfl rfl rfl (by decide +kernel) ⟨Nat.le_of_ble_eq_true rfl, Nat.le_of_ble_eq_true rfl⟩) (xk_preS X1_ok hK hX hP) rfl rfl hl.1 rfl (lv_room (Nat.le_of_ble_eq_true rfl)) dX6_when_11 ⟨Nat.le_of_ble_eq_true rfl, Nat.le_of_ble_eq_true rfl⟩) hS (fun H locs hP hS => ?_)
  refine xn_zne (tgt := 19) hx hb dX6_when_14 (by decide) (by omega) (fun c_14 => ?_) (fun c_14 => absurd c_14 (by omega))
  refine lv_aload_n hx hb dX6_when_19 rfl (lv_at hl 1 rfl) ?_
  refine lv_aload_n hx hb dX6_when_20 rfl (lv_at hl 0 rfl) ?_
  refine xk_fi (va_runV (As := [.ref (ad (9 + x))]) (rest := []) ⟨hx, hb, hml, hown, hts⟩ (k1_delayOf l hI (x := x) hT (by omega)) (cwV 1 hts gX6_when_X6_delayOf rfl rfl rfl (by decide +kernel) ⟨Nat.le_of_ble_eq_true rfl, Nat.le_of_ble_eq_true rfl⟩) (xk_preV X1_ok hK hX hP (xk_recv hK hP 0 (by omega) (ci := 6) e1_well rfl)) rfl rfl hl.1 rfl (lv_room (Nat.le_of_ble_eq_true rfl)) dX6_when_21 ⟨Nat.le_of_ble_eq_true rfl, Nat.le_of_ble_eq_true rfl⟩) hS (fun H locs hP hS => ?_)
  have hdl_21 : dl g th x ≤ 36 := dly_le hg9 ho1
  refine lv_istore (lv' := [(4, .int (nI (dl g th x))), (3, .ref (ad (9 + x))), (0, .ref (ad 0)), (1, .int (nI x)), (2, .int (nI e))]) hx hb dX6_when_24 hl (by decide) rfl (fun ls hl => ?_)
  refine lv_iconst (v := nI 0) hx hb dX6_when_26 (by decide) ?_
  refine lv_istore (lv' := [(5, .int (nI 0)), (4, .int (nI (dl g th x))), (3, .ref (ad (9 + x))), (0, .ref (ad 0)), (1, .int (nI x)), (2, .int (nI e))]) hx hb dX6_when_27 hl (by decide) rfl (fun ls hl => ?_)
  have LP_29 : ∀ (n_29 : Nat) (h : Nat), (h ≤ 24) → (wF (fun h => decide (oth p d (th x 2) h (dl g th x) = nI e)) (24 - h) h = wF (fun h => decide (oth p d (th x 2) h (dl g th x) = nI e)) 24 0) → (24 - h) < n_29 → ∀ (H : Heap) (locs : List Loc) (ls : Array Slot), va_P D vwCl (wl ad 34 (en1 ad ca σ)) H → va_S (AA ad 34) sS.heap H locs → lv_has ls 6 [(0, .ref (ad 0)), (2, .int (nI e)), (3, .ref (ad (9 + x))), (4, .int (nI (dl g th x))), (5, .int (nI h))] → Wwi1 pP l eE { frames := 3, cells := 0, slots := 0, locals := 84 } sS mM [.ref (ad 0), .int (nI x), .int (nI e)] below meth cC D ca ad (fun r σ' => r = wF (fun h => decide (oth p d (th x 2) h (dl g th x) = nI e)) 24 0 ∧ I1 n p g rn d th rd sl sn sc ft tr σ') H locs (F0 mM 29 ls []) := by
    intro n_29
    induction n_29 with
    | zero =>
      intro h hh hv hn_29
      exact absurd hn_29 (Nat.not_lt_zero _)
    | succ n_29 ih_29 =>
      intro h hh hv hn_29 H locs ls hP hS hl
      refine lv_iload hx hb dX6_when_29 (lv_at hl 4 rfl) ?_
      refine lv_bipush (v := nI 23) hx hb dX6_when_31 (by decide) ?_
      refine xn_igt (tgt := 64) hx hb dX6_when_33 (by decide) (by omega) (by omega) (fun c_33 => ?_) (fun c_33 => ?_)
      · refine lv_bipush (v := (-9)) hx hb dX6_when_64 (by decide) ?_
        exact xk_iret hx hb hr (vp_nar_int _) X1_ok hK hX hP hS hlk dX6_when_66 (⟨by rw [← hv, show 24 - h = 0 by omega]; rfl, hJ⟩)
      · refine lv_aload_n hx hb dX6_when_36 rfl (lv_at hl 0 rfl) ?_
        refine xk_get hx hb hts (inX6_when_X6) hown hK hP 0 (by omega) (ci := 6) e1_well rfl 3 (by decide) (flX6_when_32 hts) rfl (.ref (ad 22)) rfl dX6_when_37 ?_
        refine lv_aload_n hx hb dX6_when_40 rfl (lv_at hl 2 rfl) ?_
        refine xk_get hx hb hts (inX6_when_X4) hown hK hP (9 + x) (by omega) (ci := 4) (e1_thing (by omega) (by omega)) rfl 2 (by decide) (flX6_when_103 hts) rfl (.int (σ (9 + x) 2)) rfl dX6_when_41 ?_
        refine xn_eqi (y := nI (th x 2)) (hXx.1 2 (by omega)) ?_
        refine lv_iload hx hb dX6_when_44 (lv_at hl 4 rfl) ?_
        refine lv_iload hx hb dX6_when_46 (lv_at hl 3 rfl) ?_
        refine xk_fi (va_runV (As := [.int (nI (th x 2)), .int (nI h), .int (nI (dl g th x))]) (rest := []) ⟨hx, hb, hml, hown, hts⟩ (k1_other l hI (q := 22) (d := d) (e := th x 2) (h := h) (y := dl g th x) (by omega) (by omega) hR (by omega) (by omega) (by omega)) (cwV 3 hts gX6_when_X1_otherDrawer rfl rfl rfl (by decide +kernel) ⟨Nat.le_of_ble_eq_true rfl, Nat.le_of_ble_eq_true rfl⟩) (xk_preV X1_ok hK hX hP (xk_recv hK hP 22 (by omega) (ci := 1) (e1_rota (by omega) (by omega)) rfl)) rfl rfl hl.1 rfl (lv_room (Nat.le_of_ble_eq_true rfl)) dX6_when_48 ⟨Nat.le_of_ble_eq_true rfl, Nat.le_of_ble_eq_true rfl⟩) hS (fun H locs hP hS => ?_)
        refine lv_iload_n hx hb dX6_when_51 rfl (lv_at hl 1 rfl) ?_
        refine lv_icmp_ne (tgt := 58) hx hb dX6_when_52 (by decide) (fun c_52 => ?_) (fun c_52 => ?_)
        · refine lv_iinc (v := nI (h + 1)) (lv' := [(5, .int (nI (h + 1))), (0, .ref (ad 0)), (2, .int (nI e)), (3, .ref (ad (9 + x))), (4, .int (nI (dl g th x)))]) hx hb dX6_when_58 hl (k := 4) rfl (xn_inc _ 1) (by decide) rfl (fun ls hl => ?_)
          refine lv_goto (tgt := 29) hx hb dX6_when_61 (by decide) ?_
          exact ih_29 (h + 1) (by omega) (by rw [← hv, show 24 - h = (24 - (h + 1)) + 1 by omega]; simp only [wF]; rw [if_neg (by simpa using c_52)]) (by omega) _ _ _ hP hS (lv_sub hl [1, 2, 3, 4, 0] rfl)
        · refine lv_iload hx hb dX6_when_55 (lv_at hl 4 rfl) ?_
          exact xk_iret hx hb hr (vp_nar_int _) X1_ok hK hX hP hS hlk dX6_when_57 (⟨by rw [← hv, show 24 - h = (23 - h) + 1 by omega]; simp only [wF]; rw [if_pos (by simpa using c_52)], hJ⟩)
  exact LP_29 _ 0 (by omega) rfl (Nat.lt_succ_self _) _ _ _ hP hS (lv_sub hl [3, 5, 2, 1, 0] rfl)

set_option maxHeartbeats 4000000 in
set_option maxRecDepth 100000 in
theorem a1_tell_xo (l : Launch) {D : va_G} {ca : Nat → ClassId} {ad : Nat → Nat} (hI : Ij ad 34) {σ : Sg} {n p g rn : Nat} {d : Nat → Nat} {th rd : Nat → Nat → Nat} {sl sn : Nat → Nat} {sc : Nat → Nat → Int32} {ft tr : Int32} {x : Int32} (hJ : I1 n p g rn d th rd sl sn sc ft tr σ) (hxx : ∀ j, j < n → x ≠ nI j) : C1i l D ca ad yX6_tell wsX6_tell { frames := 4, cells := 0, slots := 0, locals := 85 } [.ref (ad 0), .int x] σ (fun r σ' => r = -1 ∧ I1 n p g rn d th rd sl sn sc ft tr σ') := by
  refine xk_entry cX6_tell 3 (some .int) (by decide) rfl (Nat.le_of_ble_eq_true rfl) ?_
  intro pP eE sS mM below meth cC hx hb hml hr hts hown hlk hP hK hX hS ls hl
  have hl : lv_has ls 3 [(0, .ref (ad 0)), (1, .int x)] := hl
  obtain ⟨hT, hR, hRd, hSh, hnp, hft, htr⟩ := id hJ
  have hn5 := hT.2.2.1
  have hg9 := hT.2.2.2.1
  have hp6 := hR.2.1
  have hrn8 := hRd.2.1
  refine lv_aload_n hx hb dX6_tell_0 rfl (lv_at hl 0 rfl) ?_
  refine lv_iload_n hx hb dX6_tell_1 rfl (lv_at hl 1 rfl) ?_
  refine xk_fz (va_runV (As := [.int x]) (rest := []) ⟨hx, hb, hml, hown, hts⟩ (k1_thingAt_out l hI (x := x) hT.2.1 hn5 (by assumption)) (cwV 1 hts gX6_tell_X6_thingAt rfl rfl rfl (by decide +kernel) ⟨Nat.le_of_ble_eq_true rfl, Nat.le_of_ble_eq_true rfl⟩) (xk_preV X1_ok hK hX hP (xk_recv hK hP 0 (by omega) (ci := 6) e1_well rfl)) rfl rfl hl.1 rfl (lv_room (Nat.le_of_ble_eq_true rfl)) dX6_tell_2 ⟨Nat.le_of_ble_eq_true rfl, Nat.le_of_ble_eq_true rfl⟩) hS (fun H locs hP hS => ?_)
  refine lv_astore_nN (lv' := [(2, .null), (0, .ref (ad 0)), (1, .int x)]) hx hb dX6_tell_5 rfl hl (by decide) rfl (fun ls hl => ?_)
  refine lv_aload_nN hx hb dX6_tell_6 rfl (lv_at hl 0 rfl) ?_
  refine lv_ifnonnullN hx hb dX6_tell_7 ?_
  refine lv_iconst (v := (-1)) hx hb dX6_tell_10 (by decide) ?_
  exact xk_iret hx hb hr (vp_nar_int _) X1_ok hK hX hP hS hlk dX6_tell_11 (⟨rfl, hJ⟩)

set_option maxRecDepth 20000 in
theorem flX6_tell_97 {s : State} {av : Array Value} (hts : ∀ w ∈ wsX6_tell, w.before av s = true) : (Cond.fieldLink RX6 97 "WellBack$Thing" "kind" "I").before av s = true := hts _ (by decide +kernel)
set_option maxRecDepth 20000 in
theorem inX6_tell_X4 : ∀ w ∈ u_ws RX4 TX4 5, w ∈ wsX6_tell := by decide +kernel
set_option maxHeartbeats 4000000 in
set_option maxRecDepth 100000 in
theorem a1_tell_k0 (l : Launch) {D : va_G} {ca : Nat → ClassId} {ad : Nat → Nat} (hI : Ij ad 34) {σ : Sg} {n p g rn : Nat} {d : Nat → Nat} {th rd : Nat → Nat → Nat} {sl sn : Nat → Nat} {sc : Nat → Nat → Int32} {ft tr : Int32} {x : Nat} (hJ : I1 n p g rn d th rd sl sn sc ft tr σ) (hxn : x < n) (hk : th x 0 = 0) : C1i l D ca ad yX6_tell wsX6_tell { frames := 4, cells := 0, slots := 0, locals := 85 } [.ref (ad 0), .int (nI x)] σ (fun r σ' => r = nI (th x 1) ∧ I1 n p g rn d th rd sl sn sc ft (tc tr 1) σ') := by
  refine xk_entry cX6_tell 3 (some .int) (by decide) rfl (Nat.le_of_ble_eq_true rfl) ?_
  intro pP eE sS mM below meth cC hx hb hml hr hts hown hlk hP hK hX hS ls hl
  have hl : lv_has ls 3 [(0, .ref (ad 0)), (1, .int (nI x))] := hl
  obtain ⟨hT, hR, hRd, hSh, hnp, hft, htr⟩ := id hJ
  have hn5 := hT.2.2.1
  have hg9 := hT.2.2.2.1
  have hp6 := hR.2.1
  have hrn8 := hRd.2.1
  have hXx := hT.2.2.2.2 x hxn
  obtain ⟨ho0, ho1, ho2, ho3, ho4⟩ := hXx.2
  refine lv_aload_n hx hb dX6_tell_0 rfl (lv_at hl 0 rfl) ?_
  refine lv_iload_n hx hb dX6_tell_1 rfl (lv_at hl 1 rfl) ?_
  refine xk_fa (va_runV (As := [.int (nI x)]) (rest := []) ⟨hx, hb, hml, hown, hts⟩ (k1_thingAt_in l hI (x := x) hT.2.1 hn5 (by omega)) (cwV 1 hts gX6_tell_X6_thingAt rfl rfl rfl (by decide +kernel) ⟨Nat.le_of_ble_eq_true rfl, Nat.le_of_ble_eq_true rfl⟩) (xk_preV X1_ok hK hX hP (xk_recv hK hP 0 (by omega) (ci := 6) e1_well rfl)) rfl rfl hl.1 rfl (lv_room (Nat.le_of_ble_eq_true rfl)) dX6_tell_2 ⟨Nat.le_of_ble_eq_true rfl, Nat.le_of_ble_eq_true rfl⟩) hS (fun H locs hP hS => ?_)
  refine lv_astore_n (lv' := [(2, .ref (ad (9 + x))), (0, .ref (ad 0)), (1, .int (nI x))]) hx hb dX6_tell_5 rfl hl (by decide) rfl (fun ls hl => ?_)
  refine lv_aload_n hx hb dX6_tell_6 rfl (lv_at hl 0 rfl) ?_
  refine lv_ifnonnull (tgt := 12) hx hb dX6_tell_7 (by decide) ?_
  refine lv_aload_n hx hb dX6_tell_12 rfl (lv_at hl 0 rfl) ?_
  refine xk_get hx hb hts (inX6_tell_X4) hown hK hP (9 + x) (by omega) (ci := 4) (e1_thing (by omega) (by omega)) rfl 0 (by decide) (flX6_tell_97 hts) rfl (.int (σ (9 + x) 0)) rfl dX6_tell_13 ?_
  refine xn_eqi (y := nI (th x 0)) (hXx.1 0 (by omega)) ?_
  refine xn_eqi (y := nI 0) (by rw [hk]) ?_
  refine lv_lookup (tgt := 56) hx hb dX6_tell_16 (by decide) (off := 40) (by decide) (by decide) ?_
  refine lv_aload_n hx hb dX6_tell_56 rfl (lv_at hl 1 rfl) ?_
  refine lv_aload_n hx hb dX6_tell_57 rfl (lv_at hl 0 rfl) ?_
  refine xk_fi (va_runV (As := [.ref (ad (9 + x))]) (rest := []) ⟨hx, hb, hml, hown, hts⟩ (k1_tellThing1 l hI (t := tr) (x := x) hT hxn htr) (cwV 1 hts gX6_tell_X6_tellThing rfl rfl rfl (by decide +kernel) ⟨Nat.le_of_ble_eq_true rfl, Nat.le_of_ble_eq_true rfl⟩) (xk_preV X1_ok hK hX hP (xk_recv hK hP 0 (by omega) (ci := 6) e1_well rfl)) rfl rfl hl.1 rfl (lv_room (Nat.le_of_ble_eq_true rfl)) dX6_tell_58 ⟨Nat.le_of_ble_eq_true rfl, Nat.le_of_ble_eq_true rfl⟩) hS (fun H locs hP hS => ?_)
  exact xk_iret hx hb hr (vp_nar_int _) X1_ok hK hX hP hS hlk dX6_tell_61 (⟨rfl, I1_tr hJ⟩)

set_option maxHeartbeats 4000000 in
set_option maxRecDepth 100000 in
theorem a1_tell_k1 (l : Launch) {D : va_G} {ca : Nat → ClassId} {ad : Nat → Nat} (hI : Ij ad 34) {σ : Sg} {n p g rn : Nat} {d : Nat → Nat} {th rd : Nat → Nat → Nat} {sl sn : Nat → Nat} {sc : Nat → Nat → Int32} {ft tr : Int32} {x : Nat} (hJ : I1 n p g rn d th rd sl sn sc ft tr σ) (hxn : x < n) (hk : th x 0 = 1) : C1i l D ca ad yX6_tell wsX6_tell { frames := 4, cells := 0, slots := 0, locals := 85 } [.ref (ad 0), .int (nI x)] σ (fun r σ' => r = nI (th x 1 + 100) ∧ I1 n p g rn d th rd sl sn sc ft (tc (tc tr 2) 1) σ') := by
  refine xk_entry cX6_tell 3 (some .int) (by decide) rfl (Nat.le_of_ble_eq_true rfl) ?_
  intro pP eE sS mM below meth cC hx hb hml hr hts hown hlk hP hK hX hS ls hl
  have hl : lv_has ls 3 [(0, .ref (ad 0)), (1, .int (nI x))] := hl
  obtain ⟨hT, hR, hRd, hSh, hnp, hft, htr⟩ := id hJ
  have hn5 := hT.2.2.1
  have hg9 := hT.2.2.2.1
  have hp6 := hR.2.1
  have hrn8 := hRd.2.1
  have hXx := hT.2.2.2.2 x hxn
  obtain ⟨ho0, ho1, ho2, ho3, ho4⟩ := hXx.2
  refine lv_aload_n hx hb dX6_tell_0 rfl (lv_at hl 0 rfl) ?_
  refine lv_iload_n hx hb dX6_tell_1 rfl (lv_at hl 1 rfl) ?_
  refine xk_fa (va_runV (As := [.int (nI x)]) (rest := []) ⟨hx, hb, hml, hown, hts⟩ (k1_thingAt_in l hI (x := x) hT.2.1 hn5 (by omega)) (cwV 1 hts gX6_tell_X6_thingAt rfl rfl rfl (by decide +kernel) ⟨Nat.le_of_ble_eq_true rfl, Nat.le_of_ble_eq_true rfl⟩) (xk_preV X1_ok hK hX hP (xk_recv hK hP 0 (by omega) (ci := 6) e1_well rfl)) rfl rfl hl.1 rfl (lv_room (Nat.le_of_ble_eq_true rfl)) dX6_tell_2 ⟨Nat.le_of_ble_eq_true rfl, Nat.le_of_ble_eq_true rfl⟩) hS (fun H locs hP hS => ?_)
  refine lv_astore_n (lv' := [(2, .ref (ad (9 + x))), (0, .ref (ad 0)), (1, .int (nI x))]) hx hb dX6_tell_5 rfl hl (by decide) rfl (fun ls hl => ?_)
  refine lv_aload_n hx hb dX6_tell_6 rfl (lv_at hl 0 rfl) ?_
  refine lv_ifnonnull (tgt := 12) hx hb dX6_tell_7 (by decide) ?_
  refine lv_aload_n hx hb dX6_tell_12 rfl (lv_at hl 0 rfl) ?_
  refine xk_get hx hb hts (inX6_tell_X4) hown hK hP (9 + x) (by omega) (ci := 4) (e1_thing (by omega) (by omega)) rfl 0 (by decide) (flX6_tell_97 hts) rfl (.int (σ (9 + x) 0)) rfl dX6_tell_13 ?_
  refine xn_eqi (y := nI (th x 0)) (hXx.1 0 (by omega)) ?_
  refine xn_eqi (y := nI 1) (by rw [hk]) ?_
  refine lv_lookup (tgt := 44) hx hb dX6_tell_16 (by decide) (off := 28) (by decide) (by decide) ?_
  refine lv_aload_n hx hb dX6_tell_44 rfl (lv_at hl 1 rfl) ?_
  refine lv_aload_n hx hb dX6_tell_45 rfl (lv_at hl 0 rfl) ?_
  refine xk_fi (va_runV (As := [.ref (ad (9 + x))]) (rest := []) ⟨hx, hb, hml, hown, hts⟩ (k1_tellLetter l hI (t := tr) (x := x) hT hxn htr) (cwV 1 hts gX6_tell_X6_tellLetter rfl rfl rfl (by decide +kernel) ⟨Nat.le_of_ble_eq_true rfl, Nat.le_of_ble_eq_true rfl⟩) (xk_preV X1_ok hK hX hP (xk_recv hK hP 0 (by omega) (ci := 6) e1_well rfl)) rfl rfl hl.1 rfl (lv_room (Nat.le_of_ble_eq_true rfl)) dX6_tell_46 ⟨Nat.le_of_ble_eq_true rfl, Nat.le_of_ble_eq_true rfl⟩) hS (fun H locs hP hS => ?_)
  exact xk_iret hx hb hr (vp_nar_int _) X1_ok hK hX hP hS hlk dX6_tell_49 (⟨rfl, I1_tr hJ⟩)

set_option maxHeartbeats 4000000 in
set_option maxRecDepth 100000 in
theorem a1_tell_k2 (l : Launch) {D : va_G} {ca : Nat → ClassId} {ad : Nat → Nat} (hI : Ij ad 34) {σ : Sg} {n p g rn : Nat} {d : Nat → Nat} {th rd : Nat → Nat → Nat} {sl sn : Nat → Nat} {sc : Nat → Nat → Int32} {ft tr : Int32} {x : Nat} (hJ : I1 n p g rn d th rd sl sn sc ft tr σ) (hxn : x < n) (hk : th x 0 = 2) : C1i l D ca ad yX6_tell wsX6_tell { frames := 4, cells := 0, slots := 0, locals := 85 } [.ref (ad 0), .int (nI x)] σ (fun r σ' => r = nI (th x 1 + 100 + th x 1) ∧ I1 n p g rn d th rd sl sn sc ft (tc (tc (tc (tc tr 3) 2) 1) 1) σ') := by
  refine xk_entry cX6_tell 3 (some .int) (by decide) rfl (Nat.le_of_ble_eq_true rfl) ?_
  intro pP eE sS mM below meth cC hx hb hml hr hts hown hlk hP hK hX hS ls hl
  have hl : lv_has ls 3 [(0, .ref (ad 0)), (1, .int (nI x))] := hl
  obtain ⟨hT, hR, hRd, hSh, hnp, hft, htr⟩ := id hJ
  have hn5 := hT.2.2.1
  have hg9 := hT.2.2.2.1
  have hp6 := hR.2.1
  have hrn8 := hRd.2.1
  have hXx := hT.2.2.2.2 x hxn
  obtain ⟨ho0, ho1, ho2, ho3, ho4⟩ := hXx.2
  refine lv_aload_n hx hb dX6_tell_0 rfl (lv_at hl 0 rfl) ?_
  refine lv_iload_n hx hb dX6_tell_1 rfl (lv_at hl 1 rfl) ?_
  refine xk_fa (va_runV (As := [.int (nI x)]) (rest := []) ⟨hx, hb, hml, hown, hts⟩ (k1_thingAt_in l hI (x := x) hT.2.1 hn5 (by omega)) (cwV 1 hts gX6_tell_X6_thingAt rfl rfl rfl (by decide +kernel) ⟨Nat.le_of_ble_eq_true rfl, Nat.le_of_ble_eq_true rfl⟩) (xk_preV X1_ok hK hX hP (xk_recv hK hP 0 (by omega) (ci := 6) e1_well rfl)) rfl rfl hl.1 rfl (lv_room (Nat.le_of_ble_eq_true rfl)) dX6_tell_2 ⟨Nat.le_of_ble_eq_true rfl, Nat.le_of_ble_eq_true rfl⟩) hS (fun H locs hP hS => ?_)
  refine lv_astore_n (lv' := [(2, .ref (ad (9 + x))), (0, .ref (ad 0)), (1, .int (nI x))]) hx hb dX6_tell_5 rfl hl (by decide) rfl (fun ls hl => ?_)
  refine lv_aload_n hx hb dX6_tell_6 rfl (lv_at hl 0 rfl) ?_
  refine lv_ifnonnull (tgt := 12) hx hb dX6_tell_7 (by decide) ?_
  refine lv_aload_n hx hb dX6_tell_12 rfl (lv_at hl 0 rfl) ?_
  refine xk_get hx hb hts (inX6_tell_X4) hown hK hP (9 + x) (by omega) (ci := 4) (e1_thing (by omega) (by omega)) rfl 0 (by decide) (flX6_tell_97 hts) rfl (.int (σ (9 + x) 0)) rfl dX6_tell_13 ?_
  refine xn_eqi (y := nI (th x 0)) (hXx.1 0 (by omega)) ?_
  refine xn_eqi (y := nI 2) (by rw [hk]) ?_
  refine lv_lookup (tgt := 50) hx hb dX6_tell_16 (by decide) (off := 34) (by decide) (by decide) ?_
  refine lv_aload_n hx hb dX6_tell_50 rfl (lv_at hl 1 rfl) ?_
  refine lv_aload_n hx hb dX6_tell_51 rfl (lv_at hl 0 rfl) ?_
  refine xk_fi (va_runV (As := [.ref (ad (9 + x))]) (rest := []) ⟨hx, hb, hml, hown, hts⟩ (k1_tellRing l hI (t := tr) (x := x) hT hxn htr) (cwV 1 hts gX6_tell_X6_tellRing rfl rfl rfl (by decide +kernel) ⟨Nat.le_of_ble_eq_true rfl, Nat.le_of_ble_eq_true rfl⟩) (xk_preV X1_ok hK hX hP (xk_recv hK hP 0 (by omega) (ci := 6) e1_well rfl)) rfl rfl hl.1 rfl (lv_room (Nat.le_of_ble_eq_true rfl)) dX6_tell_52 ⟨Nat.le_of_ble_eq_true rfl, Nat.le_of_ble_eq_true rfl⟩) hS (fun H locs hP hS => ?_)
  exact xk_iret hx hb hr (vp_nar_int _) X1_ok hK hX hP hS hlk dX6_tell_55 (⟨rfl, I1_tr hJ⟩)

set_option maxHeartbeats 4000000 in
set_option maxRecDepth 100000 in
theorem a1_splash_xo (l : Launch) {D : va_G} {ca : Nat → ClassId} {ad : Nat → Nat} (hI : Ij ad 34) {σ : Sg} {n p g rn : Nat} {d : Nat → Nat} {th rd : Nat → Nat → Nat} {sl sn : Nat → Nat} {sc : Nat → Nat → Int32} {ft tr : Int32} {x : Int32} (hJ : I1 n p g rn d th rd sl sn sc ft tr σ) (hxx : ∀ j, j < n → x ≠ nI j) : C1i l D ca ad yX6_splash wsX6_splash { frames := 1, cells := 0, slots := 0, locals := 21 } [.ref (ad 0), .int x] σ (fun r σ' => r = -1 ∧ I1 n p g rn d th rd sl sn sc ft tr σ') := by
  refine xk_entry cX6_splash 3 (some .int) (by decide) rfl (Nat.le_of_ble_eq_true rfl) ?_
  intro pP eE sS mM below meth cC hx hb hml hr hts hown hlk hP hK hX hS ls hl
  have hl : lv_has ls 3 [(0, .ref (ad 0)), (1, .int x)] := hl
  obtain ⟨hT, hR, hRd, hSh, hnp, hft, htr⟩ := id hJ
  have hn5 := hT.2.2.1
  have hg9 := hT.2.2.2.1
  have hp6 := hR.2.1
  have hrn8 := hRd.2.1
  refine lv_aload_n hx hb dX6_splash_0 rfl (lv_at hl 0 rfl) ?_
  refine lv_iload_n hx hb dX6_splash_1 rfl (lv_at hl 1 rfl) ?_
  refine xk_fz (va_runV (As := [.int x]) (rest := []) ⟨hx, hb, hml, hown, hts⟩ (k1_thingAt_out l hI (x := x) hT.2.1 hn5 (by assumption)) (cwV 1 hts gX6_splash_X6_thingAt rfl rfl rfl (by decide +kernel) ⟨Nat.le_of_ble_eq_true rfl, Nat.le_of_ble_eq_true rfl⟩) (xk_preV X1_ok hK hX hP (xk_recv hK hP 0 (by omega) (ci := 6) e1_well rfl)) rfl rfl hl.1 rfl (lv_room (Nat.le_of_ble_eq_true rfl)) dX6_splash_2 ⟨Nat.le_of_ble_eq_true rfl, Nat.le_of_ble_eq_true rfl⟩) hS (fun H locs hP hS => ?_)
  refine lv_astore_nN (lv' := [(2, .null), (0, .ref (ad 0)), (1, .int x)]) hx hb dX6_splash_5 rfl hl (by decide) rfl (fun ls hl => ?_)
  refine lv_aload_nN hx hb dX6_splash_6 rfl (lv_at hl 0 rfl) ?_
  refine lv_ifnonnullN hx hb dX6_splash_7 ?_
  refine lv_iconst (v := (-1)) hx hb dX6_splash_10 (by decide) ?_
  exact xk_iret hx hb hr (vp_nar_int _) X1_ok hK hX hP hS hlk dX6_splash_11 (⟨rfl, hJ⟩)

set_option maxRecDepth 20000 in
theorem flX6_splash_97 {s : State} {av : Array Value} (hts : ∀ w ∈ wsX6_splash, w.before av s = true) : (Cond.fieldLink RX6 97 "WellBack$Thing" "kind" "I").before av s = true := hts _ (by decide +kernel)
set_option maxRecDepth 20000 in
theorem inX6_splash_X4 : ∀ w ∈ u_ws RX4 TX4 5, w ∈ wsX6_splash := by decide +kernel
set_option maxHeartbeats 4000000 in
set_option maxRecDepth 100000 in
theorem a1_splash_k2 (l : Launch) {D : va_G} {ca : Nat → ClassId} {ad : Nat → Nat} (hI : Ij ad 34) {σ : Sg} {n p g rn : Nat} {d : Nat → Nat} {th rd : Nat → Nat → Nat} {sl sn : Nat → Nat} {sc : Nat → Nat → Int32} {ft tr : Int32} {x : Nat} (hJ : I1 n p g rn d th rd sl sn sc ft tr σ) (hxn : x < n) (hk : th x 0 = 2) : C1i l D ca ad yX6_splash wsX6_splash { frames := 1, cells := 0, slots := 0, locals := 21 } [.ref (ad 0), .int (nI x)] σ (fun r σ' => r = nI 80 ∧ I1 n p g rn d th rd sl sn sc ft (tc tr 5) σ') := by
  refine xk_entry cX6_splash 3 (some .int) (by decide) rfl (Nat.le_of_ble_eq_true rfl) ?_
  intro pP eE sS mM below meth cC hx hb hml hr hts hown hlk hP hK hX hS ls hl
  have hl : lv_has ls 3 [(0, .ref (ad 0)), (1, .int (nI x))] := hl
  obtain ⟨hT, hR, hRd, hSh, hnp, hft, htr⟩ := id hJ
  have hn5 := hT.2.2.1
  have hg9 := hT.2.2.2.1
  have hp6 := hR.2.1
  have hrn8 := hRd.2.1
  have hXx := hT.2.2.2.2 x hxn
  obtain ⟨ho0, ho1, ho2, ho3, ho4⟩ := hXx.2
  refine lv_aload_n hx hb dX6_splash_0 rfl (lv_at hl 0 rfl) ?_
  refine lv_iload_n hx hb dX6_splash_1 rfl (lv_at hl 1 rfl) ?_
  refine xk_fa (va_runV (As := [.int (nI x)]) (rest := []) ⟨hx, hb, hml, hown, hts⟩ (k1_thingAt_in l hI (x := x) hT.2.1 hn5 (by omega)) (cwV 1 hts gX6_splash_X6_thingAt rfl rfl rfl (by decide +kernel) ⟨Nat.le_of_ble_eq_true rfl, Nat.le_of_ble_eq_true rfl⟩) (xk_preV X1_ok hK hX hP (xk_recv hK hP 0 (by omega) (ci := 6) e1_well rfl)) rfl rfl hl.1 rfl (lv_room (Nat.le_of_ble_eq_true rfl)) dX6_splash_2 ⟨Nat.le_of_ble_eq_true rfl, Nat.le_of_ble_eq_true rfl⟩) hS (fun H locs hP hS => ?_)
  refine lv_astore_n (lv' := [(2, .ref (ad (9 + x))), (0, .ref (ad 0)), (1, .int (nI x))]) hx hb dX6_splash_5 rfl hl (by decide) rfl (fun ls hl => ?_)
  refine lv_aload_n hx hb dX6_splash_6 rfl (lv_at hl 0 rfl) ?_
  refine lv_ifnonnull (tgt := 12) hx hb dX6_splash_7 (by decide) ?_
  refine lv_aload_n hx hb dX6_splash_12 rfl (lv_at hl 0 rfl) ?_
  refine xk_get hx hb hts (inX6_splash_X4) hown hK hP (9 + x) (by omega) (ci := 4) (e1_thing (by omega) (by omega)) rfl 0 (by decide) (flX6_splash_97 hts) rfl (.int (σ (9 + x) 0)) rfl dX6_splash_13 ?_
  refine xn_eqi (y := nI (th x 0)) (hXx.1 0 (by omega)) ?_
  refine lv_iconst (v := nI 2) hx hb dX6_splash_16 (by decide) ?_
  refine xn_ine (tgt := 28) hx hb dX6_splash_17 (by decide) (by omega) (by omega) (fun c_17 => absurd c_17 (by omega)) (fun c_17 => ?_)
  refine lv_aload_n hx hb dX6_splash_20 rfl (lv_at hl 1 rfl) ?_
  refine lv_iconst (v := nI 5) hx hb dX6_splash_21 (by decide) ?_
  refine xk_fv (va_runV (As := [.int (nI 5)]) (rest := []) ⟨hx, hb, hml, hown, hts⟩ (k1_leave l hI (t := tr) (v := 5) htr) (cwV 1 hts gX6_splash_X6_leaveTrace rfl rfl rfl (by decide +kernel) ⟨Nat.le_of_ble_eq_true rfl, Nat.le_of_ble_eq_true rfl⟩) (xk_preV X1_ok hK hX hP (xk_recv hK hP 0 (by omega) (ci := 6) e1_well rfl)) rfl rfl hl.1 rfl (lv_room (Nat.le_of_ble_eq_true rfl)) dX6_splash_22 ⟨Nat.le_of_ble_eq_true rfl, Nat.le_of_ble_eq_true rfl⟩) hS (fun H locs hP hS => ?_)
  refine lv_bipush (v := nI 80) hx hb dX6_splash_25 (by decide) ?_
  exact xk_iret hx hb hr (vp_nar_int _) X1_ok hK hX hP hS hlk dX6_splash_27 (⟨rfl, I1_tr hJ⟩)

set_option maxHeartbeats 4000000 in
set_option maxRecDepth 100000 in
theorem a1_splash_o (l : Launch) {D : va_G} {ca : Nat → ClassId} {ad : Nat → Nat} (hI : Ij ad 34) {σ : Sg} {n p g rn : Nat} {d : Nat → Nat} {th rd : Nat → Nat → Nat} {sl sn : Nat → Nat} {sc : Nat → Nat → Int32} {ft tr : Int32} {x : Nat} (hJ : I1 n p g rn d th rd sl sn sc ft tr σ) (hxn : x < n) (hk : ¬ th x 0 = 2) : C1i l D ca ad yX6_splash wsX6_splash { frames := 1, cells := 0, slots := 0, locals := 21 } [.ref (ad 0), .int (nI x)] σ (fun r σ' => r = nI x ∧ I1 n p g rn d th rd sl sn sc ft (tc tr 4) σ') := by
  refine xk_entry cX6_splash 3 (some .int) (by decide) rfl (Nat.le_of_ble_eq_true rfl) ?_
  intro pP eE sS mM below meth cC hx hb hml hr hts hown hlk hP hK hX hS ls hl
  have hl : lv_has ls 3 [(0, .ref (ad 0)), (1, .int (nI x))] := hl
  obtain ⟨hT, hR, hRd, hSh, hnp, hft, htr⟩ := id hJ
  have hn5 := hT.2.2.1
  have hg9 := hT.2.2.2.1
  have hp6 := hR.2.1
  have hrn8 := hRd.2.1
  have hXx := hT.2.2.2.2 x hxn
  obtain ⟨ho0, ho1, ho2, ho3, ho4⟩ := hXx.2
  refine lv_aload_n hx hb dX6_splash_0 rfl (lv_at hl 0 rfl) ?_
  refine lv_iload_n hx hb dX6_splash_1 rfl (lv_at hl 1 rfl) ?_
  refine xk_fa (va_runV (As := [.int (nI x)]) (rest := []) ⟨hx, hb, hml, hown, hts⟩ (k1_thingAt_in l hI (x := x) hT.2.1 hn5 (by omega)) (cwV 1 hts gX6_splash_X6_thingAt rfl rfl rfl (by decide +kernel) ⟨Nat.le_of_ble_eq_true rfl, Nat.le_of_ble_eq_true rfl⟩) (xk_preV X1_ok hK hX hP (xk_recv hK hP 0 (by omega) (ci := 6) e1_well rfl)) rfl rfl hl.1 rfl (lv_room (Nat.le_of_ble_eq_true rfl)) dX6_splash_2 ⟨Nat.le_of_ble_eq_true rfl, Nat.le_of_ble_eq_true rfl⟩) hS (fun H locs hP hS => ?_)
  refine lv_astore_n (lv' := [(2, .ref (ad (9 + x))), (0, .ref (ad 0)), (1, .int (nI x))]) hx hb dX6_splash_5 rfl hl (by decide) rfl (fun ls hl => ?_)
  refine lv_aload_n hx hb dX6_splash_6 rfl (lv_at hl 0 rfl) ?_
  refine lv_ifnonnull (tgt := 12) hx hb dX6_splash_7 (by decide) ?_
  refine lv_aload_n hx hb dX6_splash_12 rfl (lv_at hl 0 rfl) ?_
  refine xk_get hx hb hts (inX6_splash_X4) hown hK hP (9 + x) (by omega) (ci := 4) (e1_thing (by omega) (by omega)) rfl 0 (by decide) (flX6_splash_97 hts) rfl (.int (σ (9 + x) 0)) rfl dX6_splash_13 ?_
  refine xn_eqi (y := nI (th x 0)) (hXx.1 0 (by omega)) ?_
  refine lv_iconst (v := nI 2) hx hb dX6_splash_16 (by decide) ?_
  refine xn_ine (tgt := 28) hx hb dX6_splash_17 (by decide) (by omega) (by omega) (fun c_17 => ?_) (fun c_17 => absurd c_17 (by omega))
  refine lv_aload_n hx hb dX6_splash_28 rfl (lv_at hl 1 rfl) ?_
  refine lv_iconst (v := nI 4) hx hb dX6_splash_29 (by decide) ?_
  refine xk_fv (va_runV (As := [.int (nI 4)]) (rest := []) ⟨hx, hb, hml, hown, hts⟩ (k1_leave l hI (t := tr) (v := 4) htr) (cwV 1 hts gX6_splash_X6_leaveTrace rfl rfl rfl (by decide +kernel) ⟨Nat.le_of_ble_eq_true rfl, Nat.le_of_ble_eq_true rfl⟩) (xk_preV X1_ok hK hX hP (xk_recv hK hP 0 (by omega) (ci := 6) e1_well rfl)) rfl rfl hl.1 rfl (lv_room (Nat.le_of_ble_eq_true rfl)) dX6_splash_30 ⟨Nat.le_of_ble_eq_true rfl, Nat.le_of_ble_eq_true rfl⟩) hS (fun H locs hP hS => ?_)
  refine lv_iload_n hx hb dX6_splash_33 rfl (lv_at hl 2 rfl) ?_
  exact xk_iret hx hb hr (vp_nar_int _) X1_ok hK hX hP hS hlk dX6_splash_34 (⟨rfl, I1_tr hJ⟩)

set_option maxRecDepth 20000 in
theorem flX6_as_59 {s : State} {av : Array Value} (hts : ∀ w ∈ wsX6_as, w.before av s = true) : (Cond.fieldLink RX6 59 "WellBack" "latestFault" "I").before av s = true := hts _ (by decide +kernel)
set_option maxRecDepth 20000 in
theorem inX6_as_X6 : ∀ w ∈ u_ws RX6 TX6 13, w ∈ wsX6_as := by decide +kernel
set_option maxHeartbeats 4000000 in
set_option maxRecDepth 100000 in
theorem a1_as_xo (l : Launch) {D : va_G} {ca : Nat → ClassId} {ad : Nat → Nat} (hI : Ij ad 34) {σ : Sg} {n p g rn : Nat} {d : Nat → Nat} {th rd : Nat → Nat → Nat} {sl sn : Nat → Nat} {sc : Nat → Nat → Int32} {ft tr : Int32} {x : Int32} {k : Int32} (hJ : I1 n p g rn d th rd sl sn sc ft tr σ) (hxx : ∀ j, j < n → x ≠ nI j) : C1i l D ca ad yX6_as wsX6_as { frames := 1, cells := 0, slots := 0, locals := 22 } [.ref (ad 0), .int x, .int k] σ (fun r σ' => r = -1 ∧ I1 n p g rn d th rd sl sn sc (nI 0) tr σ') := by
  refine xk_entry cX6_as 4 (some .int) (by decide) rfl (Nat.le_of_ble_eq_true rfl) ?_
  intro pP eE sS mM below meth cC hx hb hml hr hts hown hlk hP hK hX hS ls hl
  have hl : lv_has ls 4 [(0, .ref (ad 0)), (1, .int x), (2, .int k)] := hl
  obtain ⟨hT, hR, hRd, hSh, hnp, hft, htr⟩ := id hJ
  have hn5 := hT.2.2.1
  have hg9 := hT.2.2.2.1
  have hp6 := hR.2.1
  have hrn8 := hRd.2.1
  refine lv_aload_n hx hb dX6_as_0 rfl (lv_at hl 0 rfl) ?_
  refine lv_iconst (v := nI 0) hx hb dX6_as_1 (by decide) ?_
  refine xk_put hx hb hts (inX6_as_X6) tyX6 tyX6_ok nmX6 hown hK hI hP hS 0 (by omega) (ci := 6) e1_well rfl 11 (by decide) (flX6_as_59 hts) rfl rfl (by decide +kernel) (Nat.le_of_ble_eq_true rfl) e1_loc (by rw [e1_well]; simp [up]) dX6_as_2 (fun H locs hP hS => ?_)
  obtain ⟨σ0, hσ0⟩ : ∃ τ, τ = up σ 0 11 (nI 0) := ⟨_, rfl⟩
  rw [← hσ0] at hP
  have hJ0 : I1 n p g rn d th rd sl sn sc (nI 0) tr σ0 := by rw [hσ0]; exact I1_ft hJ
  obtain ⟨hT, hR, hRd, hSh, -, hft, htr⟩ := hJ0
  have hJ0 : I1 n p g rn d th rd sl sn sc (nI 0) tr σ0 := ⟨hT, hR, hRd, hSh, hnp, hft, htr⟩
  refine lv_aload_n hx hb dX6_as_5 rfl (lv_at hl 0 rfl) ?_
  refine lv_iload_n hx hb dX6_as_6 rfl (lv_at hl 1 rfl) ?_
  refine xk_fz (va_runV (As := [.int x]) (rest := []) ⟨hx, hb, hml, hown, hts⟩ (k1_thingAt_out l hI (x := x) hT.2.1 hn5 (by assumption)) (cwV 1 hts gX6_as_X6_thingAt rfl rfl rfl (by decide +kernel) ⟨Nat.le_of_ble_eq_true rfl, Nat.le_of_ble_eq_true rfl⟩) (xk_preV X1_ok hK hX hP (xk_recv hK hP 0 (by omega) (ci := 6) e1_well rfl)) rfl rfl hl.1 rfl (lv_room (Nat.le_of_ble_eq_true rfl)) dX6_as_7 ⟨Nat.le_of_ble_eq_true rfl, Nat.le_of_ble_eq_true rfl⟩) hS (fun H locs hP hS => ?_)
  refine lv_astore_nN (lv' := [(3, .null), (0, .ref (ad 0)), (1, .int x), (2, .int k)]) hx hb dX6_as_10 rfl hl (by decide) rfl (fun ls hl => ?_)
  refine lv_aload_nN hx hb dX6_as_11 rfl (lv_at hl 0 rfl) ?_
  refine lv_ifnonnullN hx hb dX6_as_12 ?_
  refine lv_iconst (v := (-1)) hx hb dX6_as_15 (by decide) ?_
  exact xk_iret hx hb hr (vp_nar_int _) X1_ok hK hX hP hS hlk dX6_as_16 (⟨rfl, hJ0⟩)

set_option maxHeartbeats 4000000 in
set_option maxRecDepth 100000 in
theorem a1_as_ko (l : Launch) {D : va_G} {ca : Nat → ClassId} {ad : Nat → Nat} (hI : Ij ad 34) {σ : Sg} {n p g rn : Nat} {d : Nat → Nat} {th rd : Nat → Nat → Nat} {sl sn : Nat → Nat} {sc : Nat → Nat → Int32} {ft tr : Int32} {x : Nat} {k : Int32} (hJ : I1 n p g rn d th rd sl sn sc ft tr σ) (hxn : x < n) (hko : ¬ (nI 0 ≤ k ∧ k ≤ nI 2)) : C1i l D ca ad yX6_as wsX6_as { frames := 1, cells := 0, slots := 0, locals := 22 } [.ref (ad 0), .int (nI x), .int k] σ (fun r σ' => r = -2 ∧ I1 n p g rn d th rd sl sn sc (nI 0) tr σ') := by
  refine xk_entry cX6_as 4 (some .int) (by decide) rfl (Nat.le_of_ble_eq_true rfl) ?_
  intro pP eE sS mM below meth cC hx hb hml hr hts hown hlk hP hK hX hS ls hl
  have hl : lv_has ls 4 [(0, .ref (ad 0)), (1, .int (nI x)), (2, .int k)] := hl
  obtain ⟨hT, hR, hRd, hSh, hnp, hft, htr⟩ := id hJ
  have hn5 := hT.2.2.1
  have hg9 := hT.2.2.2.1
  have hp6 := hR.2.1
  have hrn8 := hRd.2.1
  have hXx := hT.2.2.2.2 x hxn
  obtain ⟨ho0, ho1, ho2, ho3, ho4⟩ := hXx.2
  refine lv_aload_n hx hb dX6_as_0 rfl (lv_at hl 0 rfl) ?_
  refine lv_iconst (v := nI 0) hx hb dX6_as_1 (by decide) ?_
  refine xk_put hx hb hts (inX6_as_X6) tyX6 tyX6_ok nmX6 hown hK hI hP hS 0 (by omega) (ci := 6) e1_well rfl 11 (by decide) (flX6_as_59 hts) rfl rfl (by decide +kernel) (Nat.le_of_ble_eq_true rfl) e1_loc (by rw [e1_well]; simp [up]) dX6_as_2 (fun H locs hP hS => ?_)
  obtain ⟨σ0, hσ0⟩ : ∃ τ, τ = up σ 0 11 (nI 0) := ⟨_, rfl⟩
  rw [← hσ0] at hP
  have hJ0 : I1 n p g rn d th rd sl sn sc (nI 0) tr σ0 := by rw [hσ0]; exact I1_ft hJ
  obtain ⟨hT, hR, hRd, hSh, -, hft, htr⟩ := hJ0
  have hJ0 : I1 n p g rn d th rd sl sn sc (nI 0) tr σ0 := ⟨hT, hR, hRd, hSh, hnp, hft, htr⟩
  have hXx := hT.2.2.2.2 x hxn
  refine lv_aload_n hx hb dX6_as_5 rfl (lv_at hl 0 rfl) ?_
  refine lv_iload_n hx hb dX6_as_6 rfl (lv_at hl 1 rfl) ?_
  refine xk_fa (va_runV (As := [.int (nI x)]) (rest := []) ⟨hx, hb, hml, hown, hts⟩ (k1_thingAt_in l hI (x := x) hT.2.1 hn5 (by omega)) (cwV 1 hts gX6_as_X6_thingAt rfl rfl rfl (by decide +kernel) ⟨Nat.le_of_ble_eq_true rfl, Nat.le_of_ble_eq_true rfl⟩) (xk_preV X1_ok hK hX hP (xk_recv hK hP 0 (by omega) (ci := 6) e1_well rfl)) rfl rfl hl.1 rfl (lv_room (Nat.le_of_ble_eq_true rfl)) dX6_as_7 ⟨Nat.le_of_ble_eq_true rfl, Nat.le_of_ble_eq_true rfl⟩) hS (fun H locs hP hS => ?_)
  refine lv_astore_n (lv' := [(3, .ref (ad (9 + x))), (0, .ref (ad 0)), (1, .int (nI x)), (2, .int k)]) hx hb dX6_as_10 rfl hl (by decide) rfl (fun ls hl => ?_)
  refine lv_aload_n hx hb dX6_as_11 rfl (lv_at hl 0 rfl) ?_
  refine lv_ifnonnull (tgt := 17) hx hb dX6_as_12 (by decide) ?_
  refine lv_iload_n hx hb dX6_as_17 rfl (lv_at hl 3 rfl) ?_
  refine lv_iconst (v := nI 0) hx hb dX6_as_18 (by decide) ?_
  refine lv_iconst (v := nI 2) hx hb dX6_as_19 (by decide) ?_
  refine xk_fi (va_runS (As := [.int k, .int (nI 0), .int (nI 2)]) (rest := []) ⟨hx, hb, hml, hown, hts⟩ (k1_within_f l hI k (nI 0) (nI 2) (by assumption)) (va_cwS 3 hts gX6_as_X6_within rfl rfl rfl (by decide +kernel) ⟨Nat.le_of_ble_eq_true rfl, Nat.le_of_ble_eq_true rfl⟩) (xk_preS X1_ok hK hX hP) rfl rfl hl.1 rfl (lv_room (Nat.le_of_ble_eq_true rfl)) dX6_as_20 ⟨Nat.le_of_ble_eq_true rfl, Nat.le_of_ble_eq_true rfl⟩) hS (fun H locs hP hS => ?_)
  refine xn_zne (tgt := 29) hx hb dX6_as_23 (by decide) (by omega) (fun c_23 => absurd c_23 (by omega)) (fun c_23 => ?_)
  refine lv_bipush (v := (-2)) hx hb dX6_as_26 (by decide) ?_
  exact xk_iret hx hb hr (vp_nar_int _) X1_ok hK hX hP hS hlk dX6_as_28 (⟨rfl, hJ0⟩)

set_option maxRecDepth 20000 in
theorem flX6_as_97 {s : State} {av : Array Value} (hts : ∀ w ∈ wsX6_as, w.before av s = true) : (Cond.fieldLink RX6 97 "WellBack$Thing" "kind" "I").before av s = true := hts _ (by decide +kernel)
set_option maxRecDepth 20000 in
theorem inX6_as_X4 : ∀ w ∈ u_ws RX4 TX4 5, w ∈ wsX6_as := by decide +kernel
set_option maxHeartbeats 4000000 in
set_option maxRecDepth 100000 in
theorem a1_as_y (l : Launch) {D : va_G} {ca : Nat → ClassId} {ad : Nat → Nat} (hI : Ij ad 34) {σ : Sg} {n p g rn : Nat} {d : Nat → Nat} {th rd : Nat → Nat → Nat} {sl sn : Nat → Nat} {sc : Nat → Nat → Int32} {ft tr : Int32} {x : Nat} {k : Nat} (hJ : I1 n p g rn d th rd sl sn sc ft tr σ) (hxn : x < n) (hk2 : k ≤ 2) (hkt : k ≤ th x 0) : C1i l D ca ad yX6_as wsX6_as { frames := 1, cells := 0, slots := 0, locals := 22 } [.ref (ad 0), .int (nI x), .int (nI k)] σ (fun r σ' => r = nI 1 ∧ I1 n p g rn d th rd sl sn sc (nI 0) tr σ') := by
  refine xk_entry cX6_as 4 (some .int) (by decide) rfl (Nat.le_of_ble_eq_true rfl) ?_
  intro pP eE sS mM below meth cC hx hb hml hr hts hown hlk hP hK hX hS ls hl
  have hl : lv_has ls 4 [(0, .ref (ad 0)), (1, .int (nI x)), (2, .int (nI k))] := hl
  obtain ⟨hT, hR, hRd, hSh, hnp, hft, htr⟩ := id hJ
  have hn5 := hT.2.2.1
  have hg9 := hT.2.2.2.1
  have hp6 := hR.2.1
  have hrn8 := hRd.2.1
  have hXx := hT.2.2.2.2 x hxn
  obtain ⟨ho0, ho1, ho2, ho3, ho4⟩ := hXx.2
  refine lv_aload_n hx hb dX6_as_0 rfl (lv_at hl 0 rfl) ?_
  refine lv_iconst (v := nI 0) hx hb dX6_as_1 (by decide) ?_
  refine xk_put hx hb hts (inX6_as_X6) tyX6 tyX6_ok nmX6 hown hK hI hP hS 0 (by omega) (ci := 6) e1_well rfl 11 (by decide) (flX6_as_59 hts) rfl rfl (by decide +kernel) (Nat.le_of_ble_eq_true rfl) e1_loc (by rw [e1_well]; simp [up]) dX6_as_2 (fun H locs hP hS => ?_)
  obtain ⟨σ0, hσ0⟩ : ∃ τ, τ = up σ 0 11 (nI 0) := ⟨_, rfl⟩
  rw [← hσ0] at hP
  have hJ0 : I1 n p g rn d th rd sl sn sc (nI 0) tr σ0 := by rw [hσ0]; exact I1_ft hJ
  obtain ⟨hT, hR, hRd, hSh, -, hft, htr⟩ := hJ0
  have hJ0 : I1 n p g rn d th rd sl sn sc (nI 0) tr σ0 := ⟨hT, hR, hRd, hSh, hnp, hft, htr⟩
  have hXx := hT.2.2.2.2 x hxn
  refine lv_aload_n hx hb dX6_as_5 rfl (lv_at hl 0 rfl) ?_
  refine lv_iload_n hx hb dX6_as_6 rfl (lv_at hl 1 rfl) ?_
  refine xk_fa (va_runV (As := [.int (nI x)]) (rest := []) ⟨hx, hb, hml, hown, hts⟩ (k1_thingAt_in l hI (x := x) hT.2.1 hn5 (by omega)) (cwV 1 hts gX6_as_X6_thingAt rfl rfl rfl (by decide +kernel) ⟨Nat.le_of_ble_eq_true rfl, Nat.le_of_ble_eq_true rfl⟩) (xk_preV X1_ok hK hX hP (xk_recv hK hP 0 (by omega) (ci := 6) e1_well rfl)) rfl rfl hl.1 rfl (lv_room (Nat.le_of_ble_eq_true rfl)) dX6_as_7 ⟨Nat.le_of_ble_eq_true rfl, Nat.le_of_ble_eq_true rfl⟩) hS (fun H locs hP hS => ?_)
  refine lv_astore_n (lv' := [(3, .ref (ad (9 + x))), (0, .ref (ad 0)), (1, .int (nI x)), (2, .int (nI k))]) hx hb dX6_as_10 rfl hl (by decide) rfl (fun ls hl => ?_)
  refine lv_aload_n hx hb dX6_as_11 rfl (lv_at hl 0 rfl) ?_
  refine lv_ifnonnull (tgt := 17) hx hb dX6_as_12 (by decide) ?_
  refine lv_iload_n hx hb dX6_as_17 rfl (lv_at hl 3 rfl) ?_
  refine lv_iconst (v := nI 0) hx hb dX6_as_18 (by decide) ?_
  refine lv_iconst (v := nI 2) hx hb dX6_as_19 (by decide) ?_
  refine xk_fi (va_runS (As := [.int (nI k), .int (nI 0), .int (nI 2)]) (rest := []) ⟨hx, hb, hml, hown, hts⟩ (k1_within_t l hI (nI k) (nI 0) (nI 2) (xn_in (by omega) (by omega) (by omega))) (va_cwS 3 hts gX6_as_X6_within rfl rfl rfl (by decide +kernel) ⟨Nat.le_of_ble_eq_true rfl, Nat.le_of_ble_eq_true rfl⟩) (xk_preS X1_ok hK hX hP) rfl rfl hl.1 rfl (lv_room (Nat.le_of_ble_eq_true rfl)) dX6_as_20 ⟨Nat.le_of_ble_eq_true rfl, Nat.le_of_ble_eq_true rfl⟩) hS (fun H locs hP hS => ?_)
  refine xn_zne (tgt := 29) hx hb dX6_as_23 (by decide) (by omega) (fun c_23 => ?_) (fun c_23 => absurd c_23 (by omega))
  refine lv_aload_n hx hb dX6_as_29 rfl (lv_at hl 0 rfl) ?_
  refine xk_get hx hb hts (inX6_as_X4) hown hK hP (9 + x) (by omega) (ci := 4) (e1_thing (by omega) (by omega)) rfl 0 (by decide) (flX6_as_97 hts) rfl (.int (σ0 (9 + x) 0)) rfl dX6_as_30 ?_
  refine xn_eqi (y := nI (th x 0)) (hXx.1 0 (by omega)) ?_
  refine lv_iload_n hx hb dX6_as_33 rfl (lv_at hl 3 rfl) ?_
  refine xn_ilt (tgt := 41) hx hb dX6_as_34 (by decide) (by omega) (by omega) (fun c_34 => absurd c_34 (by omega)) (fun c_34 => ?_)
  refine lv_iconst (v := nI 1) hx hb dX6_as_37 (by decide) ?_
  refine lv_goto (tgt := 46) hx hb dX6_as_38 (by decide) ?_
  exact xk_iret hx hb hr (vp_nar_int _) X1_ok hK hX hP hS hlk dX6_as_46 (⟨rfl, hJ0⟩)

set_option maxHeartbeats 4000000 in
set_option maxRecDepth 100000 in
theorem a1_as_no (l : Launch) {D : va_G} {ca : Nat → ClassId} {ad : Nat → Nat} (hI : Ij ad 34) {σ : Sg} {n p g rn : Nat} {d : Nat → Nat} {th rd : Nat → Nat → Nat} {sl sn : Nat → Nat} {sc : Nat → Nat → Int32} {ft tr : Int32} {x : Nat} {k : Nat} (hJ : I1 n p g rn d th rd sl sn sc ft tr σ) (hxn : x < n) (hk2 : k ≤ 2) (hkt : th x 0 < k) : C1i l D ca ad yX6_as wsX6_as { frames := 1, cells := 0, slots := 0, locals := 22 } [.ref (ad 0), .int (nI x), .int (nI k)] σ (fun r σ' => r = (-10) - nI 2 ∧ I1 n p g rn d th rd sl sn sc (nI 2) tr σ') := by
  refine xk_entry cX6_as 4 (some .int) (by decide) rfl (Nat.le_of_ble_eq_true rfl) ?_
  intro pP eE sS mM below meth cC hx hb hml hr hts hown hlk hP hK hX hS ls hl
  have hl : lv_has ls 4 [(0, .ref (ad 0)), (1, .int (nI x)), (2, .int (nI k))] := hl
  obtain ⟨hT, hR, hRd, hSh, hnp, hft, htr⟩ := id hJ
  have hn5 := hT.2.2.1
  have hg9 := hT.2.2.2.1
  have hp6 := hR.2.1
  have hrn8 := hRd.2.1
  have hXx := hT.2.2.2.2 x hxn
  obtain ⟨ho0, ho1, ho2, ho3, ho4⟩ := hXx.2
  refine lv_aload_n hx hb dX6_as_0 rfl (lv_at hl 0 rfl) ?_
  refine lv_iconst (v := nI 0) hx hb dX6_as_1 (by decide) ?_
  refine xk_put hx hb hts (inX6_as_X6) tyX6 tyX6_ok nmX6 hown hK hI hP hS 0 (by omega) (ci := 6) e1_well rfl 11 (by decide) (flX6_as_59 hts) rfl rfl (by decide +kernel) (Nat.le_of_ble_eq_true rfl) e1_loc (by rw [e1_well]; simp [up]) dX6_as_2 (fun H locs hP hS => ?_)
  obtain ⟨σ0, hσ0⟩ : ∃ τ, τ = up σ 0 11 (nI 0) := ⟨_, rfl⟩
  rw [← hσ0] at hP
  have hJ0 : I1 n p g rn d th rd sl sn sc (nI 0) tr σ0 := by rw [hσ0]; exact I1_ft hJ
  obtain ⟨hT, hR, hRd, hSh, -, hft, htr⟩ := hJ0
  have hJ0 : I1 n p g rn d th rd sl sn sc (nI 0) tr σ0 := ⟨hT, hR, hRd, hSh, hnp, hft, htr⟩
  have hXx := hT.2.2.2.2 x hxn
  refine lv_aload_n hx hb dX6_as_5 rfl (lv_at hl 0 rfl) ?_
  refine lv_iload_n hx hb dX6_as_6 rfl (lv_at hl 1 rfl) ?_
  refine xk_fa (va_runV (As := [.int (nI x)]) (rest := []) ⟨hx, hb, hml, hown, hts⟩ (k1_thingAt_in l hI (x := x) hT.2.1 hn5 (by omega)) (cwV 1 hts gX6_as_X6_thingAt rfl rfl rfl (by decide +kernel) ⟨Nat.le_of_ble_eq_true rfl, Nat.le_of_ble_eq_true rfl⟩) (xk_preV X1_ok hK hX hP (xk_recv hK hP 0 (by omega) (ci := 6) e1_well rfl)) rfl rfl hl.1 rfl (lv_room (Nat.le_of_ble_eq_true rfl)) dX6_as_7 ⟨Nat.le_of_ble_eq_true rfl, Nat.le_of_ble_eq_true rfl⟩) hS (fun H locs hP hS => ?_)
  refine lv_astore_n (lv' := [(3, .ref (ad (9 + x))), (0, .ref (ad 0)), (1, .int (nI x)), (2, .int (nI k))]) hx hb dX6_as_10 rfl hl (by decide) rfl (fun ls hl => ?_)
  refine lv_aload_n hx hb dX6_as_11 rfl (lv_at hl 0 rfl) ?_
  refine lv_ifnonnull (tgt := 17) hx hb dX6_as_12 (by decide) ?_
  refine lv_iload_n hx hb dX6_as_17 rfl (lv_at hl 3 rfl) ?_
  refine lv_iconst (v := nI 0) hx hb dX6_as_18 (by decide) ?_
  refine lv_iconst (v := nI 2) hx hb dX6_as_19 (by decide) ?_
  refine xk_fi (va_runS (As := [.int (nI k), .int (nI 0), .int (nI 2)]) (rest := []) ⟨hx, hb, hml, hown, hts⟩ (k1_within_t l hI (nI k) (nI 0) (nI 2) (xn_in (by omega) (by omega) (by omega))) (va_cwS 3 hts gX6_as_X6_within rfl rfl rfl (by decide +kernel) ⟨Nat.le_of_ble_eq_true rfl, Nat.le_of_ble_eq_true rfl⟩) (xk_preS X1_ok hK hX hP) rfl rfl hl.1 rfl (lv_room (Nat.le_of_ble_eq_true rfl)) dX6_as_20 ⟨Nat.le_of_ble_eq_true rfl, Nat.le_of_ble_eq_true rfl⟩) hS (fun H locs hP hS => ?_)
  refine xn_zne (tgt := 29) hx hb dX6_as_23 (by decide) (by omega) (fun c_23 => ?_) (fun c_23 => absurd c_23 (by omega))
  refine lv_aload_n hx hb dX6_as_29 rfl (lv_at hl 0 rfl) ?_
  refine xk_get hx hb hts (inX6_as_X4) hown hK hP (9 + x) (by omega) (ci := 4) (e1_thing (by omega) (by omega)) rfl 0 (by decide) (flX6_as_97 hts) rfl (.int (σ0 (9 + x) 0)) rfl dX6_as_30 ?_
  refine xn_eqi (y := nI (th x 0)) (hXx.1 0 (by omega)) ?_
  refine lv_iload_n hx hb dX6_as_33 rfl (lv_at hl 3 rfl) ?_
  refine xn_ilt (tgt := 41) hx hb dX6_as_34 (by decide) (by omega) (by omega) (fun c_34 => ?_) (fun c_34 => absurd c_34 (by omega))
  refine lv_aload_n hx hb dX6_as_41 rfl (lv_at hl 1 rfl) ?_
  refine lv_iconst (v := nI 2) hx hb dX6_as_42 (by decide) ?_
  refine xk_fi (va_runV (As := [.int (nI 2)]) (rest := []) ⟨hx, hb, hml, hown, hts⟩ (k1_faulted l hI 2) (cwV 1 hts gX6_as_X6_faulted rfl rfl rfl (by decide +kernel) ⟨Nat.le_of_ble_eq_true rfl, Nat.le_of_ble_eq_true rfl⟩) (xk_preV X1_ok hK hX hP (xk_recv hK hP 0 (by omega) (ci := 6) e1_well rfl)) rfl rfl hl.1 rfl (lv_room (Nat.le_of_ble_eq_true rfl)) dX6_as_43 ⟨Nat.le_of_ble_eq_true rfl, Nat.le_of_ble_eq_true rfl⟩) hS (fun H locs hP hS => ?_)
  exact xk_iret hx hb hr (vp_nar_int _) X1_ok hK hX hP hS hlk dX6_as_46 (⟨rfl, I1_ft hJ0⟩)

set_option maxHeartbeats 4000000 in
set_option maxRecDepth 100000 in
theorem a1_reading_xo (l : Launch) {D : va_G} {ca : Nat → ClassId} {ad : Nat → Nat} (hI : Ij ad 34) {σ : Sg} {n p g rn : Nat} {d : Nat → Nat} {th rd : Nat → Nat → Nat} {sl sn : Nat → Nat} {sc : Nat → Nat → Int32} {ft tr : Int32} {x : Int32} {h e : Int32} (hJ : I1 n p g rn d th rd sl sn sc ft tr σ) (hxx : ∀ j, j < n → x ≠ nI j) : C1i l D ca ad yX6_reading wsX6_reading { frames := 2, cells := 0, slots := 0, locals := 42 } [.ref (ad 0), .int x, .int h, .int e] σ (fun r σ' => r = -1 ∧ I1 n p g rn d th rd sl sn sc ft tr σ') := by
  refine xk_entry cX6_reading 5 (some .int) (by decide) rfl (Nat.le_of_ble_eq_true rfl) ?_
  intro pP eE sS mM below meth cC hx hb hml hr hts hown hlk hP hK hX hS ls hl
  have hl : lv_has ls 5 [(0, .ref (ad 0)), (1, .int x), (2, .int h), (3, .int e)] := hl
  obtain ⟨hT, hR, hRd, hSh, hnp, hft, htr⟩ := id hJ
  have hn5 := hT.2.2.1
  have hg9 := hT.2.2.2.1
  have hp6 := hR.2.1
  have hrn8 := hRd.2.1
  refine lv_aload_n hx hb dX6_reading_0 rfl (lv_at hl 0 rfl) ?_
  refine lv_iload_n hx hb dX6_reading_1 rfl (lv_at hl 1 rfl) ?_
  refine xk_fz (va_runV (As := [.int x]) (rest := []) ⟨hx, hb, hml, hown, hts⟩ (k1_thingAt_out l hI (x := x) hT.2.1 hn5 (by assumption)) (cwV 1 hts gX6_reading_X6_thingAt rfl rfl rfl (by decide +kernel) ⟨Nat.le_of_ble_eq_true rfl, Nat.le_of_ble_eq_true rfl⟩) (xk_preV X1_ok hK hX hP (xk_recv hK hP 0 (by omega) (ci := 6) e1_well rfl)) rfl rfl hl.1 rfl (lv_room (Nat.le_of_ble_eq_true rfl)) dX6_reading_2 ⟨Nat.le_of_ble_eq_true rfl, Nat.le_of_ble_eq_true rfl⟩) hS (fun H locs hP hS => ?_)
  refine lv_ifnullN (tgt := 21) hx hb dX6_reading_5 (by decide) ?_
  refine lv_iconst (v := (-1)) hx hb dX6_reading_21 (by decide) ?_
  exact xk_iret hx hb hr (vp_nar_int _) X1_ok hK hX hP hS hlk dX6_reading_22 (⟨rfl, hJ⟩)

set_option maxHeartbeats 4000000 in
set_option maxRecDepth 100000 in
theorem a1_reading_do (l : Launch) {D : va_G} {ca : Nat → ClassId} {ad : Nat → Nat} (hI : Ij ad 34) {σ : Sg} {n p g rn : Nat} {d : Nat → Nat} {th rd : Nat → Nat → Nat} {sl sn : Nat → Nat} {sc : Nat → Nat → Int32} {ft tr : Int32} {x : Nat} {h e : Int32} (hJ : I1 n p g rn d th rd sl sn sc ft tr σ) (hxn : x < n) (heo : ¬ (nI 0 ≤ e ∧ e ≤ nI 4)) (hem : ¬ e = -9) : C1i l D ca ad yX6_reading wsX6_reading { frames := 2, cells := 0, slots := 0, locals := 42 } [.ref (ad 0), .int (nI x), .int h, .int e] σ (fun r σ' => r = -1 ∧ I1 n p g rn d th rd sl sn sc ft tr σ') := by
  refine xk_entry cX6_reading 5 (some .int) (by decide) rfl (Nat.le_of_ble_eq_true rfl) ?_
  intro pP eE sS mM below meth cC hx hb hml hr hts hown hlk hP hK hX hS ls hl
  have hl : lv_has ls 5 [(0, .ref (ad 0)), (1, .int (nI x)), (2, .int h), (3, .int e)] := hl
  obtain ⟨hT, hR, hRd, hSh, hnp, hft, htr⟩ := id hJ
  have hn5 := hT.2.2.1
  have hg9 := hT.2.2.2.1
  have hp6 := hR.2.1
  have hrn8 := hRd.2.1
  have hXx := hT.2.2.2.2 x hxn
  obtain ⟨ho0, ho1, ho2, ho3, ho4⟩ := hXx.2
  refine lv_aload_n hx hb dX6_reading_0 rfl (lv_at hl 0 rfl) ?_
  refine lv_iload_n hx hb dX6_reading_1 rfl (lv_at hl 1 rfl) ?_
  refine xk_fa (va_runV (As := [.int (nI x)]) (rest := []) ⟨hx, hb, hml, hown, hts⟩ (k1_thingAt_in l hI (x := x) hT.2.1 hn5 (by omega)) (cwV 1 hts gX6_reading_X6_thingAt rfl rfl rfl (by decide +kernel) ⟨Nat.le_of_ble_eq_true rfl, Nat.le_of_ble_eq_true rfl⟩) (xk_preV X1_ok hK hX hP (xk_recv hK hP 0 (by omega) (ci := 6) e1_well rfl)) rfl rfl hl.1 rfl (lv_room (Nat.le_of_ble_eq_true rfl)) dX6_reading_2 ⟨Nat.le_of_ble_eq_true rfl, Nat.le_of_ble_eq_true rfl⟩) hS (fun H locs hP hS => ?_)
  refine lv_ifnull hx hb dX6_reading_5 ?_
  refine lv_iload_n hx hb dX6_reading_8 rfl (lv_at hl 3 rfl) ?_
  refine xk_fi (va_runS (As := [.int e]) (rest := []) ⟨hx, hb, hml, hown, hts⟩ (k1_isDrawer_f l hI e (by assumption)) (va_cwS 1 hts gX6_reading_X6_isDrawer rfl rfl rfl (by decide +kernel) ⟨Nat.le_of_ble_eq_true rfl, Nat.le_of_ble_eq_true rfl⟩) (xk_preS X1_ok hK hX hP) rfl rfl hl.1 rfl (lv_room (Nat.le_of_ble_eq_true rfl)) dX6_reading_9 ⟨Nat.le_of_ble_eq_true rfl, Nat.le_of_ble_eq_true rfl⟩) hS (fun H locs hP hS => ?_)
  refine xn_zne (tgt := 23) hx hb dX6_reading_12 (by decide) (by omega) (fun c_12 => absurd c_12 (by omega)) (fun c_12 => ?_)
  refine lv_iload_n hx hb dX6_reading_15 rfl (lv_at hl 3 rfl) ?_
  refine lv_bipush (v := (-9)) hx hb dX6_reading_16 (by decide) ?_
  refine lv_icmp_eq (tgt := 23) hx hb dX6_reading_18 (by decide) (fun c_18 => absurd c_18 hem) (fun c_18 => ?_)
  refine lv_iconst (v := (-1)) hx hb dX6_reading_21 (by decide) ?_
  exact xk_iret hx hb hr (vp_nar_int _) X1_ok hK hX hP hS hlk dX6_reading_22 (⟨rfl, hJ⟩)

set_option maxHeartbeats 4000000 in
set_option maxRecDepth 100000 in
theorem a1_reading_hoe (l : Launch) {D : va_G} {ca : Nat → ClassId} {ad : Nat → Nat} (hI : Ij ad 34) {σ : Sg} {n p g rn : Nat} {d : Nat → Nat} {th rd : Nat → Nat → Nat} {sl sn : Nat → Nat} {sc : Nat → Nat → Int32} {ft tr : Int32} {x : Nat} {h : Int32} {e : Nat} (hJ : I1 n p g rn d th rd sl sn sc ft tr σ) (hxn : x < n) (he4 : e ≤ 4) (hho : ¬ (nI 0 ≤ h ∧ h ≤ nI 23)) : C1i l D ca ad yX6_reading wsX6_reading { frames := 2, cells := 0, slots := 0, locals := 42 } [.ref (ad 0), .int (nI x), .int h, .int (nI e)] σ (fun r σ' => r = -2 ∧ I1 n p g rn d th rd sl sn sc ft tr σ') := by
  refine xk_entry cX6_reading 5 (some .int) (by decide) rfl (Nat.le_of_ble_eq_true rfl) ?_
  intro pP eE sS mM below meth cC hx hb hml hr hts hown hlk hP hK hX hS ls hl
  have hl : lv_has ls 5 [(0, .ref (ad 0)), (1, .int (nI x)), (2, .int h), (3, .int (nI e))] := hl
  obtain ⟨hT, hR, hRd, hSh, hnp, hft, htr⟩ := id hJ
  have hn5 := hT.2.2.1
  have hg9 := hT.2.2.2.1
  have hp6 := hR.2.1
  have hrn8 := hRd.2.1
  have hXx := hT.2.2.2.2 x hxn
  obtain ⟨ho0, ho1, ho2, ho3, ho4⟩ := hXx.2
  refine lv_aload_n hx hb dX6_reading_0 rfl (lv_at hl 0 rfl) ?_
  refine lv_iload_n hx hb dX6_reading_1 rfl (lv_at hl 1 rfl) ?_
  refine xk_fa (va_runV (As := [.int (nI x)]) (rest := []) ⟨hx, hb, hml, hown, hts⟩ (k1_thingAt_in l hI (x := x) hT.2.1 hn5 (by omega)) (cwV 1 hts gX6_reading_X6_thingAt rfl rfl rfl (by decide +kernel) ⟨Nat.le_of_ble_eq_true rfl, Nat.le_of_ble_eq_true rfl⟩) (xk_preV X1_ok hK hX hP (xk_recv hK hP 0 (by omega) (ci := 6) e1_well rfl)) rfl rfl hl.1 rfl (lv_room (Nat.le_of_ble_eq_true rfl)) dX6_reading_2 ⟨Nat.le_of_ble_eq_true rfl, Nat.le_of_ble_eq_true rfl⟩) hS (fun H locs hP hS => ?_)
  refine lv_ifnull hx hb dX6_reading_5 ?_
  refine lv_iload_n hx hb dX6_reading_8 rfl (lv_at hl 3 rfl) ?_
  refine xk_fi (va_runS (As := [.int (nI e)]) (rest := []) ⟨hx, hb, hml, hown, hts⟩ (k1_isDrawer_t l hI (nI e) (xn_in (by omega) (by omega) (by omega))) (va_cwS 1 hts gX6_reading_X6_isDrawer rfl rfl rfl (by decide +kernel) ⟨Nat.le_of_ble_eq_true rfl, Nat.le_of_ble_eq_true rfl⟩) (xk_preS X1_ok hK hX hP) rfl rfl hl.1 rfl (lv_room (Nat.le_of_ble_eq_true rfl)) dX6_reading_9 ⟨Nat.le_of_ble_eq_true rfl, Nat.le_of_ble_eq_true rfl⟩) hS (fun H locs hP hS => ?_)
  refine xn_zne (tgt := 23) hx hb dX6_reading_12 (by decide) (by omega) (fun c_12 => ?_) (fun c_12 => absurd c_12 (by omega))
  refine lv_iload_n hx hb dX6_reading_23 rfl (lv_at hl 2 rfl) ?_
  refine lv_iconst (v := nI 0) hx hb dX6_reading_24 (by decide) ?_
  refine lv_bipush (v := nI 23) hx hb dX6_reading_25 (by decide) ?_
  refine xk_fi (va_runS (As := [.int h, .int (nI 0), .int (nI 23)]) (rest := []) ⟨hx, hb, hml, hown, hts⟩ (k1_within_f l hI h (nI 0) (nI 23) (by assumption)) (va_cwS 3 hts gX6_reading_X6_within rfl rfl rfl (by decide +kernel) ⟨Nat.le_of_ble_eq_true rfl, Nat.le_of_ble_eq_true rfl⟩) (xk_preS X1_ok hK hX hP) rfl rfl hl.1 rfl (lv_room (Nat.le_of_ble_eq_true rfl)) dX6_reading_27 ⟨Nat.le_of_ble_eq_true rfl, Nat.le_of_ble_eq_true rfl⟩) hS (fun H locs hP hS => ?_)
  refine xn_zne (tgt := 36) hx hb dX6_reading_30 (by decide) (by omega) (fun c_30 => absurd c_30 (by omega)) (fun c_30 => ?_)
  refine lv_bipush (v := (-2)) hx hb dX6_reading_33 (by decide) ?_
  exact xk_iret hx hb hr (vp_nar_int _) X1_ok hK hX hP hS hlk dX6_reading_35 (⟨rfl, hJ⟩)

set_option maxRecDepth 20000 in
theorem flX6_reading_181 {s : State} {av : Array Value} (hts : ∀ w ∈ wsX6_reading, w.before av s = true) : (Cond.fieldLink RX6 181 "WellBack" "readingCount" "I").before av s = true := hts _ (by decide +kernel)
set_option maxRecDepth 20000 in
theorem inX6_reading_X6 : ∀ w ∈ u_ws RX6 TX6 13, w ∈ wsX6_reading := by decide +kernel
set_option maxHeartbeats 4000000 in
set_option maxRecDepth 100000 in
theorem a1_reading_fue (l : Launch) {D : va_G} {ca : Nat → ClassId} {ad : Nat → Nat} (hI : Ij ad 34) {σ : Sg} {n p g rn : Nat} {d : Nat → Nat} {th rd : Nat → Nat → Nat} {sl sn : Nat → Nat} {sc : Nat → Nat → Int32} {ft tr : Int32} {x : Nat} {h : Nat} {e : Nat} (hJ : I1 n p g rn d th rd sl sn sc ft tr σ) (hxn : x < n) (he4 : e ≤ 4) (hh : h ≤ 23) (hfu : rn = 8) : C1i l D ca ad yX6_reading wsX6_reading { frames := 2, cells := 0, slots := 0, locals := 42 } [.ref (ad 0), .int (nI x), .int (nI h), .int (nI e)] σ (fun r σ' => r = -4 ∧ I1 n p g rn d th rd sl sn sc ft tr σ') := by
  refine xk_entry cX6_reading 5 (some .int) (by decide) rfl (Nat.le_of_ble_eq_true rfl) ?_
  intro pP eE sS mM below meth cC hx hb hml hr hts hown hlk hP hK hX hS ls hl
  have hl : lv_has ls 5 [(0, .ref (ad 0)), (1, .int (nI x)), (2, .int (nI h)), (3, .int (nI e))] := hl
  obtain ⟨hT, hR, hRd, hSh, hnp, hft, htr⟩ := id hJ
  have hn5 := hT.2.2.1
  have hg9 := hT.2.2.2.1
  have hp6 := hR.2.1
  have hrn8 := hRd.2.1
  have hXx := hT.2.2.2.2 x hxn
  obtain ⟨ho0, ho1, ho2, ho3, ho4⟩ := hXx.2
  refine lv_aload_n hx hb dX6_reading_0 rfl (lv_at hl 0 rfl) ?_
  refine lv_iload_n hx hb dX6_reading_1 rfl (lv_at hl 1 rfl) ?_
  refine xk_fa (va_runV (As := [.int (nI x)]) (rest := []) ⟨hx, hb, hml, hown, hts⟩ (k1_thingAt_in l hI (x := x) hT.2.1 hn5 (by omega)) (cwV 1 hts gX6_reading_X6_thingAt rfl rfl rfl (by decide +kernel) ⟨Nat.le_of_ble_eq_true rfl, Nat.le_of_ble_eq_true rfl⟩) (xk_preV X1_ok hK hX hP (xk_recv hK hP 0 (by omega) (ci := 6) e1_well rfl)) rfl rfl hl.1 rfl (lv_room (Nat.le_of_ble_eq_true rfl)) dX6_reading_2 ⟨Nat.le_of_ble_eq_true rfl, Nat.le_of_ble_eq_true rfl⟩) hS (fun H locs hP hS => ?_)
  refine lv_ifnull hx hb dX6_reading_5 ?_
  refine lv_iload_n hx hb dX6_reading_8 rfl (lv_at hl 3 rfl) ?_
  refine xk_fi (va_runS (As := [.int (nI e)]) (rest := []) ⟨hx, hb, hml, hown, hts⟩ (k1_isDrawer_t l hI (nI e) (xn_in (by omega) (by omega) (by omega))) (va_cwS 1 hts gX6_reading_X6_isDrawer rfl rfl rfl (by decide +kernel) ⟨Nat.le_of_ble_eq_true rfl, Nat.le_of_ble_eq_true rfl⟩) (xk_preS X1_ok hK hX hP) rfl rfl hl.1 rfl (lv_room (Nat.le_of_ble_eq_true rfl)) dX6_reading_9 ⟨Nat.le_of_ble_eq_true rfl, Nat.le_of_ble_eq_true rfl⟩) hS (fun H locs hP hS => ?_)
  refine xn_zne (tgt := 23) hx hb dX6_reading_12 (by decide) (by omega) (fun c_12 => ?_) (fun c_12 => absurd c_12 (by omega))
  refine lv_iload_n hx hb dX6_reading_23 rfl (lv_at hl 2 rfl) ?_
  refine lv_iconst (v := nI 0) hx hb dX6_reading_24 (by decide) ?_
  refine lv_bipush (v := nI 23) hx hb dX6_reading_25 (by decide) ?_
  refine xk_fi (va_runS (As := [.int (nI h), .int (nI 0), .int (nI 23)]) (rest := []) ⟨hx, hb, hml, hown, hts⟩ (k1_within_t l hI (nI h) (nI 0) (nI 23) (xn_in (by omega) (by omega) (by omega))) (va_cwS 3 hts gX6_reading_X6_within rfl rfl rfl (by decide +kernel) ⟨Nat.le_of_ble_eq_true rfl, Nat.le_of_ble_eq_true rfl⟩) (xk_preS X1_ok hK hX hP) rfl rfl hl.1 rfl (lv_room (Nat.le_of_ble_eq_true rfl)) dX6_reading_27 ⟨Nat.le_of_ble_eq_true rfl, Nat.le_of_ble_eq_true rfl⟩) hS (fun H locs hP hS => ?_)
  refine xn_zne (tgt := 36) hx hb dX6_reading_30 (by decide) (by omega) (fun c_30 => ?_) (fun c_30 => absurd c_30 (by omega))
  refine lv_aload_n hx hb dX6_reading_36 rfl (lv_at hl 0 rfl) ?_
  refine lv_aload_n hx hb dX6_reading_37 rfl (lv_at hl 0 rfl) ?_
  refine xk_get hx hb hts (inX6_reading_X6) hown hK hP 0 (by omega) (ci := 6) e1_well rfl 10 (by decide) (flX6_reading_181 hts) rfl (.int (σ 0 10)) rfl dX6_reading_38 ?_
  refine xn_eqi (y := nI rn) hRd.1 ?_
  refine xk_fz (va_runV (As := [.int (nI rn)]) (rest := []) ⟨hx, hb, hml, hown, hts⟩ (k1_readingAt_out l hI (x := nI rn) (fun j hj e => by have := (nI_eq (by omega) (by omega)).mp e; omega)) (cwV 1 hts gX6_reading_X6_readingAt rfl rfl rfl (by decide +kernel) ⟨Nat.le_of_ble_eq_true rfl, Nat.le_of_ble_eq_true rfl⟩) (xk_preV X1_ok hK hX hP (xk_recv hK hP 0 (by omega) (ci := 6) e1_well rfl)) rfl rfl hl.1 rfl (lv_room (Nat.le_of_ble_eq_true rfl)) dX6_reading_41 ⟨Nat.le_of_ble_eq_true rfl, Nat.le_of_ble_eq_true rfl⟩) hS (fun H locs hP hS => ?_)
  refine lv_astoreN (lv' := [(4, .null), (0, .ref (ad 0)), (1, .int (nI x)), (2, .int (nI h)), (3, .int (nI e))]) hx hb dX6_reading_44 hl (by decide) rfl (fun ls hl => ?_)
  refine lv_aloadN hx hb dX6_reading_46 (lv_at hl 0 rfl) ?_
  refine lv_ifnonnullN hx hb dX6_reading_48 ?_
  refine lv_bipush (v := (-4)) hx hb dX6_reading_51 (by decide) ?_
  exact xk_iret hx hb hr (vp_nar_int _) X1_ok hK hX hP hS hlk dX6_reading_53 (⟨rfl, hJ⟩)

set_option maxRecDepth 20000 in
theorem flX6_reading_188 {s : State} {av : Array Value} (hts : ∀ w ∈ wsX6_reading, w.before av s = true) : (Cond.fieldLink RX6 188 "WellBack$Reading" "x" "I").before av s = true := hts _ (by decide +kernel)
set_option maxRecDepth 20000 in
theorem flX6_reading_191 {s : State} {av : Array Value} (hts : ∀ w ∈ wsX6_reading, w.before av s = true) : (Cond.fieldLink RX6 191 "WellBack$Reading" "hour" "I").before av s = true := hts _ (by decide +kernel)
set_option maxRecDepth 20000 in
theorem flX6_reading_192 {s : State} {av : Array Value} (hts : ∀ w ∈ wsX6_reading, w.before av s = true) : (Cond.fieldLink RX6 192 "WellBack$Reading" "drawer" "I").before av s = true := hts _ (by decide +kernel)
set_option maxRecDepth 20000 in
theorem inX6_reading_X0 : ∀ w ∈ u_ws RX0 TX0 3, w ∈ wsX6_reading := by decide +kernel
set_option maxHeartbeats 4000000 in
set_option maxRecDepth 100000 in
theorem a1_reading_oke (l : Launch) {D : va_G} {ca : Nat → ClassId} {ad : Nat → Nat} (hI : Ij ad 34) {σ : Sg} {n p g rn : Nat} {d : Nat → Nat} {th rd : Nat → Nat → Nat} {sl sn : Nat → Nat} {sc : Nat → Nat → Int32} {ft tr : Int32} {x : Nat} {h : Nat} {e : Nat} (hJ : I1 n p g rn d th rd sl sn sc ft tr σ) (hxn : x < n) (he4 : e ≤ 4) (hh : h ≤ 23) (hfu : rn < 8) : C1i l D ca ad yX6_reading wsX6_reading { frames := 2, cells := 0, slots := 0, locals := 42 } [.ref (ad 0), .int (nI x), .int (nI h), .int (nI e)] σ (fun r σ' => r = nI rn ∧ I1 n p g (rn + 1) d th (urd rd rn x h e) sl sn sc ft tr σ') := by
  refine xk_entry cX6_reading 5 (some .int) (by decide) rfl (Nat.le_of_ble_eq_true rfl) ?_
  intro pP eE sS mM below meth cC hx hb hml hr hts hown hlk hP hK hX hS ls hl
  have hl : lv_has ls 5 [(0, .ref (ad 0)), (1, .int (nI x)), (2, .int (nI h)), (3, .int (nI e))] := hl
  obtain ⟨hT, hR, hRd, hSh, hnp, hft, htr⟩ := id hJ
  have hn5 := hT.2.2.1
  have hg9 := hT.2.2.2.1
  have hp6 := hR.2.1
  have hrn8 := hRd.2.1
  have hXx := hT.2.2.2.2 x hxn
  obtain ⟨ho0, ho1, ho2, ho3, ho4⟩ := hXx.2
  refine lv_aload_n hx hb dX6_reading_0 rfl (lv_at hl 0 rfl) ?_
  refine lv_iload_n hx hb dX6_reading_1 rfl (lv_at hl 1 rfl) ?_
  refine xk_fa (va_runV (As := [.int (nI x)]) (rest := []) ⟨hx, hb, hml, hown, hts⟩ (k1_thingAt_in l hI (x := x) hT.2.1 hn5 (by omega)) (cwV 1 hts gX6_reading_X6_thingAt rfl rfl rfl (by decide +kernel) ⟨Nat.le_of_ble_eq_true rfl, Nat.le_of_ble_eq_true rfl⟩) (xk_preV X1_ok hK hX hP (xk_recv hK hP 0 (by omega) (ci := 6) e1_well rfl)) rfl rfl hl.1 rfl (lv_room (Nat.le_of_ble_eq_true rfl)) dX6_reading_2 ⟨Nat.le_of_ble_eq_true rfl, Nat.le_of_ble_eq_true rfl⟩) hS (fun H locs hP hS => ?_)
  refine lv_ifnull hx hb dX6_reading_5 ?_
  refine lv_iload_n hx hb dX6_reading_8 rfl (lv_at hl 3 rfl) ?_
  refine xk_fi (va_runS (As := [.int (nI e)]) (rest := []) ⟨hx, hb, hml, hown, hts⟩ (k1_isDrawer_t l hI (nI e) (xn_in (by omega) (by omega) (by omega))) (va_cwS 1 hts gX6_reading_X6_isDrawer rfl rfl rfl (by decide +kernel) ⟨Nat.le_of_ble_eq_true rfl, Nat.le_of_ble_eq_true rfl⟩) (xk_preS X1_ok hK hX hP) rfl rfl hl.1 rfl (lv_room (Nat.le_of_ble_eq_true rfl)) dX6_reading_9 ⟨Nat.le_of_ble_eq_true rfl, Nat.le_of_ble_eq_true rfl⟩) hS (fun H locs hP hS => ?_)
  refine xn_zne (tgt := 23) hx hb dX6_reading_12 (by decide) (by omega) (fun c_12 => ?_) (fun c_12 => absurd c_12 (by omega))
  refine lv_iload_n hx hb dX6_reading_23 rfl (lv_at hl 2 rfl) ?_
  refine lv_iconst (v := nI 0) hx hb dX6_reading_24 (by decide) ?_
  refine lv_bipush (v := nI 23) hx hb dX6_reading_25 (by decide) ?_
  refine xk_fi (va_runS (As := [.int (nI h), .int (nI 0), .int (nI 23)]) (rest := []) ⟨hx, hb, hml, hown, hts⟩ (k1_within_t l hI (nI h) (nI 0) (nI 23) (xn_in (by omega) (by omega) (by omega))) (va_cwS 3 hts gX6_reading_X6_within rfl rfl rfl (by decide +kernel) ⟨Nat.le_of_ble_eq_true rfl, Nat.le_of_ble_eq_true rfl⟩) (xk_preS X1_ok hK hX hP) rfl rfl hl.1 rfl (lv_room (Nat.le_of_ble_eq_true rfl)) dX6_reading_27 ⟨Nat.le_of_ble_eq_true rfl, Nat.le_of_ble_eq_true rfl⟩) hS (fun H locs hP hS => ?_)
  refine xn_zne (tgt := 36) hx hb dX6_reading_30 (by decide) (by omega) (fun c_30 => ?_) (fun c_30 => absurd c_30 (by omega))
  refine lv_aload_n hx hb dX6_reading_36 rfl (lv_at hl 0 rfl) ?_
  refine lv_aload_n hx hb dX6_reading_37 rfl (lv_at hl 0 rfl) ?_
  refine xk_get hx hb hts (inX6_reading_X6) hown hK hP 0 (by omega) (ci := 6) e1_well rfl 10 (by decide) (flX6_reading_181 hts) rfl (.int (σ 0 10)) rfl dX6_reading_38 ?_
  refine xn_eqi (y := nI rn) hRd.1 ?_
  refine xk_fa (va_runV (As := [.int (nI rn)]) (rest := []) ⟨hx, hb, hml, hown, hts⟩ (k1_readingAt_in l hI (x := rn) (by omega)) (cwV 1 hts gX6_reading_X6_readingAt rfl rfl rfl (by decide +kernel) ⟨Nat.le_of_ble_eq_true rfl, Nat.le_of_ble_eq_true rfl⟩) (xk_preV X1_ok hK hX hP (xk_recv hK hP 0 (by omega) (ci := 6) e1_well rfl)) rfl rfl hl.1 rfl (lv_room (Nat.le_of_ble_eq_true rfl)) dX6_reading_41 ⟨Nat.le_of_ble_eq_true rfl, Nat.le_of_ble_eq_true rfl⟩) hS (fun H locs hP hS => ?_)
  refine lv_astore (lv' := [(4, .ref (ad (14 + rn))), (0, .ref (ad 0)), (1, .int (nI x)), (2, .int (nI h)), (3, .int (nI e))]) hx hb dX6_reading_44 hl (by decide) rfl (fun ls hl => ?_)
  refine lv_aload hx hb dX6_reading_46 (lv_at hl 0 rfl) ?_
  refine lv_ifnonnull (tgt := 54) hx hb dX6_reading_48 (by decide) ?_
  refine lv_aload hx hb dX6_reading_54 (lv_at hl 0 rfl) ?_
  refine lv_iload_n hx hb dX6_reading_56 rfl (lv_at hl 2 rfl) ?_
  refine xk_put hx hb hts (inX6_reading_X0) tyX0 tyX0_ok nmX0 hown hK hI hP hS (14 + rn) (by omega) (ci := 0) (e1_read (by omega) (by omega)) rfl 0 (by decide) (flX6_reading_188 hts) rfl rfl (by decide +kernel) (Nat.le_of_ble_eq_true rfl) e1_loc (by rw [e1_read (by omega) (by omega)]; simp [up]) dX6_reading_57 (fun H locs hP hS => ?_)
  refine lv_aload hx hb dX6_reading_60 (lv_at hl 0 rfl) ?_
  refine lv_iload_n hx hb dX6_reading_62 rfl (lv_at hl 3 rfl) ?_
  refine xk_put hx hb hts (inX6_reading_X0) tyX0 tyX0_ok nmX0 hown hK hI hP hS (14 + rn) (by omega) (ci := 0) (e1_read (by omega) (by omega)) rfl 1 (by decide) (flX6_reading_191 hts) rfl rfl (by decide +kernel) (Nat.le_of_ble_eq_true rfl) e1_loc (by rw [e1_read (by omega) (by omega)]; simp [up]) dX6_reading_63 (fun H locs hP hS => ?_)
  refine lv_aload hx hb dX6_reading_66 (lv_at hl 0 rfl) ?_
  refine lv_iload_n hx hb dX6_reading_68 rfl (lv_at hl 4 rfl) ?_
  refine xk_put hx hb hts (inX6_reading_X0) tyX0 tyX0_ok nmX0 hown hK hI hP hS (14 + rn) (by omega) (ci := 0) (e1_read (by omega) (by omega)) rfl 2 (by decide) (flX6_reading_192 hts) rfl rfl (by decide +kernel) (Nat.le_of_ble_eq_true rfl) e1_loc (by rw [e1_read (by omega) (by omega)]; simp [up]) dX6_reading_69 (fun H locs hP hS => ?_)
  refine lv_aload_n hx hb dX6_reading_72 rfl (lv_at hl 1 rfl) ?_
  refine lv_dup hx hb dX6_reading_73 rfl ?_
  refine xk_get hx hb hts (inX6_reading_X6) hown hK hP 0 (by omega) (ci := 6) e1_well rfl 10 (by decide) (flX6_reading_181 hts) rfl (.int ((up (up (up σ (14 + rn) 0 (nI x)) (14 + rn) 1 (nI h)) (14 + rn) 2 (nI e)) 0 10)) rfl dX6_reading_74 ?_
  refine xn_eqi (y := nI rn) ((up_n (by omega)).trans ((up_n (by omega)).trans ((up_n (by omega)).trans hRd.1))) ?_
  refine lv_iconst (v := nI 1) hx hb dX6_reading_77 (by decide) ?_
  refine xn_iadd hx hb dX6_reading_78 ?_
  refine xk_put hx hb hts (inX6_reading_X6) tyX6 tyX6_ok nmX6 hown hK hI hP hS 0 (by omega) (ci := 6) e1_well rfl 10 (by decide) (flX6_reading_181 hts) rfl rfl (by decide +kernel) (Nat.le_of_ble_eq_true rfl) e1_loc (by rw [e1_well]; simp [up]) dX6_reading_79 (fun H locs hP hS => ?_)
  refine lv_aload_n hx hb dX6_reading_82 rfl (lv_at hl 1 rfl) ?_
  refine xk_get hx hb hts (inX6_reading_X6) hown hK hP 0 (by omega) (ci := 6) e1_well rfl 10 (by decide) (flX6_reading_181 hts) rfl (.int ((up (up (up (up σ (14 + rn) 0 (nI x)) (14 + rn) 1 (nI h)) (14 + rn) 2 (nI e)) 0 10 (nI (rn + 1))) 0 10)) rfl dX6_reading_83 ?_
  refine xn_eqi (y := nI (rn + 1)) up_s ?_
  refine lv_iconst (v := nI 1) hx hb dX6_reading_86 (by decide) ?_
  refine xn_isub hx hb (by omega) dX6_reading_87 ?_
  exact xk_iret hx hb hr (vp_nar_int _) X1_ok hK hX hP hS hlk dX6_reading_88 (⟨by rw [show rn + 1 - 1 = rn by omega], I1_rd hJ hxn hh (by omega) (by unfold dz; rw [if_neg (by omega)]) hfu⟩)

set_option maxHeartbeats 4000000 in
set_option maxRecDepth 100000 in
theorem a1_reading_hom (l : Launch) {D : va_G} {ca : Nat → ClassId} {ad : Nat → Nat} (hI : Ij ad 34) {σ : Sg} {n p g rn : Nat} {d : Nat → Nat} {th rd : Nat → Nat → Nat} {sl sn : Nat → Nat} {sc : Nat → Nat → Int32} {ft tr : Int32} {x : Nat} {h : Int32} (hJ : I1 n p g rn d th rd sl sn sc ft tr σ) (hxn : x < n) (hho : ¬ (nI 0 ≤ h ∧ h ≤ nI 23)) : C1i l D ca ad yX6_reading wsX6_reading { frames := 2, cells := 0, slots := 0, locals := 42 } [.ref (ad 0), .int (nI x), .int h, .int (-9)] σ (fun r σ' => r = -2 ∧ I1 n p g rn d th rd sl sn sc ft tr σ') := by
  refine xk_entry cX6_reading 5 (some .int) (by decide) rfl (Nat.le_of_ble_eq_true rfl) ?_
  intro pP eE sS mM below meth cC hx hb hml hr hts hown hlk hP hK hX hS ls hl
  have hl : lv_has ls 5 [(0, .ref (ad 0)), (1, .int (nI x)), (2, .int h), (3, .int (-9))] := hl
  obtain ⟨hT, hR, hRd, hSh, hnp, hft, htr⟩ := id hJ
  have hn5 := hT.2.2.1
  have hg9 := hT.2.2.2.1
  have hp6 := hR.2.1
  have hrn8 := hRd.2.1
  have hXx := hT.2.2.2.2 x hxn
  obtain ⟨ho0, ho1, ho2, ho3, ho4⟩ := hXx.2
  refine lv_aload_n hx hb dX6_reading_0 rfl (lv_at hl 0 rfl) ?_
  refine lv_iload_n hx hb dX6_reading_1 rfl (lv_at hl 1 rfl) ?_
  refine xk_fa (va_runV (As := [.int (nI x)]) (rest := []) ⟨hx, hb, hml, hown, hts⟩ (k1_thingAt_in l hI (x := x) hT.2.1 hn5 (by omega)) (cwV 1 hts gX6_reading_X6_thingAt rfl rfl rfl (by decide +kernel) ⟨Nat.le_of_ble_eq_true rfl, Nat.le_of_ble_eq_true rfl⟩) (xk_preV X1_ok hK hX hP (xk_recv hK hP 0 (by omega) (ci := 6) e1_well rfl)) rfl rfl hl.1 rfl (lv_room (Nat.le_of_ble_eq_true rfl)) dX6_reading_2 ⟨Nat.le_of_ble_eq_true rfl, Nat.le_of_ble_eq_true rfl⟩) hS (fun H locs hP hS => ?_)
  refine lv_ifnull hx hb dX6_reading_5 ?_
  refine lv_iload_n hx hb dX6_reading_8 rfl (lv_at hl 3 rfl) ?_
  refine xk_fi (va_runS (As := [.int (-9)]) (rest := []) ⟨hx, hb, hml, hown, hts⟩ (k1_isDrawer_f l hI (-9) (by decide)) (va_cwS 1 hts gX6_reading_X6_isDrawer rfl rfl rfl (by decide +kernel) ⟨Nat.le_of_ble_eq_true rfl, Nat.le_of_ble_eq_true rfl⟩) (xk_preS X1_ok hK hX hP) rfl rfl hl.1 rfl (lv_room (Nat.le_of_ble_eq_true rfl)) dX6_reading_9 ⟨Nat.le_of_ble_eq_true rfl, Nat.le_of_ble_eq_true rfl⟩) hS (fun H locs hP hS => ?_)
  refine xn_zne (tgt := 23) hx hb dX6_reading_12 (by decide) (by omega) (fun c_12 => absurd c_12 (by omega)) (fun c_12 => ?_)
  refine lv_iload_n hx hb dX6_reading_15 rfl (lv_at hl 3 rfl) ?_
  refine lv_bipush (v := (-9)) hx hb dX6_reading_16 (by decide) ?_
  refine lv_icmp_eq (tgt := 23) hx hb dX6_reading_18 (by decide) (fun c_18 => ?_) (fun c_18 => absurd rfl c_18)
  refine lv_iload_n hx hb dX6_reading_23 rfl (lv_at hl 2 rfl) ?_
  refine lv_iconst (v := nI 0) hx hb dX6_reading_24 (by decide) ?_
  refine lv_bipush (v := nI 23) hx hb dX6_reading_25 (by decide) ?_
  refine xk_fi (va_runS (As := [.int h, .int (nI 0), .int (nI 23)]) (rest := []) ⟨hx, hb, hml, hown, hts⟩ (k1_within_f l hI h (nI 0) (nI 23) (by assumption)) (va_cwS 3 hts gX6_reading_X6_within rfl rfl rfl (by decide +kernel) ⟨Nat.le_of_ble_eq_true rfl, Nat.le_of_ble_eq_true rfl⟩) (xk_preS X1_ok hK hX hP) rfl rfl hl.1 rfl (lv_room (Nat.le_of_ble_eq_true rfl)) dX6_reading_27 ⟨Nat.le_of_ble_eq_true rfl, Nat.le_of_ble_eq_true rfl⟩) hS (fun H locs hP hS => ?_)
  refine xn_zne (tgt := 36) hx hb dX6_reading_30 (by decide) (by omega) (fun c_30 => absurd c_30 (by omega)) (fun c_30 => ?_)
  refine lv_bipush (v := (-2)) hx hb dX6_reading_33 (by decide) ?_
  exact xk_iret hx hb hr (vp_nar_int _) X1_ok hK hX hP hS hlk dX6_reading_35 (⟨rfl, hJ⟩)

set_option maxHeartbeats 4000000 in
set_option maxRecDepth 100000 in
theorem a1_reading_fum (l : Launch) {D : va_G} {ca : Nat → ClassId} {ad : Nat → Nat} (hI : Ij ad 34) {σ : Sg} {n p g rn : Nat} {d : Nat → Nat} {th rd : Nat → Nat → Nat} {sl sn : Nat → Nat} {sc : Nat → Nat → Int32} {ft tr : Int32} {x : Nat} {h : Nat} (hJ : I1 n p g rn d th rd sl sn sc ft tr σ) (hxn : x < n) (hh : h ≤ 23) (hfu : rn = 8) : C1i l D ca ad yX6_reading wsX6_reading { frames := 2, cells := 0, slots := 0, locals := 42 } [.ref (ad 0), .int (nI x), .int (nI h), .int (-9)] σ (fun r σ' => r = -4 ∧ I1 n p g rn d th rd sl sn sc ft tr σ') := by
  refine xk_entry cX6_reading 5 (some .int) (by decide) rfl (Nat.le_of_ble_eq_true rfl) ?_
  intro pP eE sS mM below meth cC hx hb hml hr hts hown hlk hP hK hX hS ls hl
  have hl : lv_has ls 5 [(0, .ref (ad 0)), (1, .int (nI x)), (2, .int (nI h)), (3, .int (-9))] := hl
  obtain ⟨hT, hR, hRd, hSh, hnp, hft, htr⟩ := id hJ
  have hn5 := hT.2.2.1
  have hg9 := hT.2.2.2.1
  have hp6 := hR.2.1
  have hrn8 := hRd.2.1
  have hXx := hT.2.2.2.2 x hxn
  obtain ⟨ho0, ho1, ho2, ho3, ho4⟩ := hXx.2
  refine lv_aload_n hx hb dX6_reading_0 rfl (lv_at hl 0 rfl) ?_
  refine lv_iload_n hx hb dX6_reading_1 rfl (lv_at hl 1 rfl) ?_
  refine xk_fa (va_runV (As := [.int (nI x)]) (rest := []) ⟨hx, hb, hml, hown, hts⟩ (k1_thingAt_in l hI (x := x) hT.2.1 hn5 (by omega)) (cwV 1 hts gX6_reading_X6_thingAt rfl rfl rfl (by decide +kernel) ⟨Nat.le_of_ble_eq_true rfl, Nat.le_of_ble_eq_true rfl⟩) (xk_preV X1_ok hK hX hP (xk_recv hK hP 0 (by omega) (ci := 6) e1_well rfl)) rfl rfl hl.1 rfl (lv_room (Nat.le_of_ble_eq_true rfl)) dX6_reading_2 ⟨Nat.le_of_ble_eq_true rfl, Nat.le_of_ble_eq_true rfl⟩) hS (fun H locs hP hS => ?_)
  refine lv_ifnull hx hb dX6_reading_5 ?_
  refine lv_iload_n hx hb dX6_reading_8 rfl (lv_at hl 3 rfl) ?_
  refine xk_fi (va_runS (As := [.int (-9)]) (rest := []) ⟨hx, hb, hml, hown, hts⟩ (k1_isDrawer_f l hI (-9) (by decide)) (va_cwS 1 hts gX6_reading_X6_isDrawer rfl rfl rfl (by decide +kernel) ⟨Nat.le_of_ble_eq_true rfl, Nat.le_of_ble_eq_true rfl⟩) (xk_preS X1_ok hK hX hP) rfl rfl hl.1 rfl (lv_room (Nat.le_of_ble_eq_true rfl)) dX6_reading_9 ⟨Nat.le_of_ble_eq_true rfl, Nat.le_of_ble_eq_true rfl⟩) hS (fun H locs hP hS => ?_)
  refine xn_zne (tgt := 23) hx hb dX6_reading_12 (by decide) (by omega) (fun c_12 => absurd c_12 (by omega)) (fun c_12 => ?_)
  refine lv_iload_n hx hb dX6_reading_15 rfl (lv_at hl 3 rfl) ?_
  refine lv_bipush (v := (-9)) hx hb dX6_reading_16 (by decide) ?_
  refine lv_icmp_eq (tgt := 23) hx hb dX6_reading_18 (by decide) (fun c_18 => ?_) (fun c_18 => absurd rfl c_18)
  refine lv_iload_n hx hb dX6_reading_23 rfl (lv_at hl 2 rfl) ?_
  refine lv_iconst (v := nI 0) hx hb dX6_reading_24 (by decide) ?_
  refine lv_bipush (v := nI 23) hx hb dX6_reading_25 (by decide) ?_
  refine xk_fi (va_runS (As := [.int (nI h), .int (nI 0), .int (nI 23)]) (rest := []) ⟨hx, hb, hml, hown, hts⟩ (k1_within_t l hI (nI h) (nI 0) (nI 23) (xn_in (by omega) (by omega) (by omega))) (va_cwS 3 hts gX6_reading_X6_within rfl rfl rfl (by decide +kernel) ⟨Nat.le_of_ble_eq_true rfl, Nat.le_of_ble_eq_true rfl⟩) (xk_preS X1_ok hK hX hP) rfl rfl hl.1 rfl (lv_room (Nat.le_of_ble_eq_true rfl)) dX6_reading_27 ⟨Nat.le_of_ble_eq_true rfl, Nat.le_of_ble_eq_true rfl⟩) hS (fun H locs hP hS => ?_)
  refine xn_zne (tgt := 36) hx hb dX6_reading_30 (by decide) (by omega) (fun c_30 => ?_) (fun c_30 => absurd c_30 (by omega))
  refine lv_aload_n hx hb dX6_reading_36 rfl (lv_at hl 0 rfl) ?_
  refine lv_aload_n hx hb dX6_reading_37 rfl (lv_at hl 0 rfl) ?_
  refine xk_get hx hb hts (inX6_reading_X6) hown hK hP 0 (by omega) (ci := 6) e1_well rfl 10 (by decide) (flX6_reading_181 hts) rfl (.int (σ 0 10)) rfl dX6_reading_38 ?_
  refine xn_eqi (y := nI rn) hRd.1 ?_
  refine xk_fz (va_runV (As := [.int (nI rn)]) (rest := []) ⟨hx, hb, hml, hown, hts⟩ (k1_readingAt_out l hI (x := nI rn) (fun j hj e => by have := (nI_eq (by omega) (by omega)).mp e; omega)) (cwV 1 hts gX6_reading_X6_readingAt rfl rfl rfl (by decide +kernel) ⟨Nat.le_of_ble_eq_true rfl, Nat.le_of_ble_eq_true rfl⟩) (xk_preV X1_ok hK hX hP (xk_recv hK hP 0 (by omega) (ci := 6) e1_well rfl)) rfl rfl hl.1 rfl (lv_room (Nat.le_of_ble_eq_true rfl)) dX6_reading_41 ⟨Nat.le_of_ble_eq_true rfl, Nat.le_of_ble_eq_true rfl⟩) hS (fun H locs hP hS => ?_)
  refine lv_astoreN (lv' := [(4, .null), (0, .ref (ad 0)), (1, .int (nI x)), (2, .int (nI h)), (3, .int (-9))]) hx hb dX6_reading_44 hl (by decide) rfl (fun ls hl => ?_)
  refine lv_aloadN hx hb dX6_reading_46 (lv_at hl 0 rfl) ?_
  refine lv_ifnonnullN hx hb dX6_reading_48 ?_
  refine lv_bipush (v := (-4)) hx hb dX6_reading_51 (by decide) ?_
  exact xk_iret hx hb hr (vp_nar_int _) X1_ok hK hX hP hS hlk dX6_reading_53 (⟨rfl, hJ⟩)

set_option maxHeartbeats 4000000 in
set_option maxRecDepth 100000 in
theorem a1_reading_okm (l : Launch) {D : va_G} {ca : Nat → ClassId} {ad : Nat → Nat} (hI : Ij ad 34) {σ : Sg} {n p g rn : Nat} {d : Nat → Nat} {th rd : Nat → Nat → Nat} {sl sn : Nat → Nat} {sc : Nat → Nat → Int32} {ft tr : Int32} {x : Nat} {h : Nat} (hJ : I1 n p g rn d th rd sl sn sc ft tr σ) (hxn : x < n) (hh : h ≤ 23) (hfu : rn < 8) : C1i l D ca ad yX6_reading wsX6_reading { frames := 2, cells := 0, slots := 0, locals := 42 } [.ref (ad 0), .int (nI x), .int (nI h), .int (-9)] σ (fun r σ' => r = nI rn ∧ I1 n p g (rn + 1) d th (urd rd rn x h 5) sl sn sc ft tr σ') := by
  refine xk_entry cX6_reading 5 (some .int) (by decide) rfl (Nat.le_of_ble_eq_true rfl) ?_
  intro pP eE sS mM below meth cC hx hb hml hr hts hown hlk hP hK hX hS ls hl
  have hl : lv_has ls 5 [(0, .ref (ad 0)), (1, .int (nI x)), (2, .int (nI h)), (3, .int (-9))] := hl
  obtain ⟨hT, hR, hRd, hSh, hnp, hft, htr⟩ := id hJ
  have hn5 := hT.2.2.1
  have hg9 := hT.2.2.2.1
  have hp6 := hR.2.1
  have hrn8 := hRd.2.1
  have hXx := hT.2.2.2.2 x hxn
  obtain ⟨ho0, ho1, ho2, ho3, ho4⟩ := hXx.2
  refine lv_aload_n hx hb dX6_reading_0 rfl (lv_at hl 0 rfl) ?_
  refine lv_iload_n hx hb dX6_reading_1 rfl (lv_at hl 1 rfl) ?_
  refine xk_fa (va_runV (As := [.int (nI x)]) (rest := []) ⟨hx, hb, hml, hown, hts⟩ (k1_thingAt_in l hI (x := x) hT.2.1 hn5 (by omega)) (cwV 1 hts gX6_reading_X6_thingAt rfl rfl rfl (by decide +kernel) ⟨Nat.le_of_ble_eq_true rfl, Nat.le_of_ble_eq_true rfl⟩) (xk_preV X1_ok hK hX hP (xk_recv hK hP 0 (by omega) (ci := 6) e1_well rfl)) rfl rfl hl.1 rfl (lv_room (Nat.le_of_ble_eq_true rfl)) dX6_reading_2 ⟨Nat.le_of_ble_eq_true rfl, Nat.le_of_ble_eq_true rfl⟩) hS (fun H locs hP hS => ?_)
  refine lv_ifnull hx hb dX6_reading_5 ?_
  refine lv_iload_n hx hb dX6_reading_8 rfl (lv_at hl 3 rfl) ?_
  refine xk_fi (va_runS (As := [.int (-9)]) (rest := []) ⟨hx, hb, hml, hown, hts⟩ (k1_isDrawer_f l hI (-9) (by decide)) (va_cwS 1 hts gX6_reading_X6_isDrawer rfl rfl rfl (by decide +kernel) ⟨Nat.le_of_ble_eq_true rfl, Nat.le_of_ble_eq_true rfl⟩) (xk_preS X1_ok hK hX hP) rfl rfl hl.1 rfl (lv_room (Nat.le_of_ble_eq_true rfl)) dX6_reading_9 ⟨Nat.le_of_ble_eq_true rfl, Nat.le_of_ble_eq_true rfl⟩) hS (fun H locs hP hS => ?_)
  refine xn_zne (tgt := 23) hx hb dX6_reading_12 (by decide) (by omega) (fun c_12 => absurd c_12 (by omega)) (fun c_12 => ?_)
  refine lv_iload_n hx hb dX6_reading_15 rfl (lv_at hl 3 rfl) ?_
  refine lv_bipush (v := (-9)) hx hb dX6_reading_16 (by decide) ?_
  refine lv_icmp_eq (tgt := 23) hx hb dX6_reading_18 (by decide) (fun c_18 => ?_) (fun c_18 => absurd rfl c_18)
  refine lv_iload_n hx hb dX6_reading_23 rfl (lv_at hl 2 rfl) ?_
  refine lv_iconst (v := nI 0) hx hb dX6_reading_24 (by decide) ?_
  refine lv_bipush (v := nI 23) hx hb dX6_reading_25 (by decide) ?_
  refine xk_fi (va_runS (As := [.int (nI h), .int (nI 0), .int (nI 23)]) (rest := []) ⟨hx, hb, hml, hown, hts⟩ (k1_within_t l hI (nI h) (nI 0) (nI 23) (xn_in (by omega) (by omega) (by omega))) (va_cwS 3 hts gX6_reading_X6_within rfl rfl rfl (by decide +kernel) ⟨Nat.le_of_ble_eq_true rfl, Nat.le_of_ble_eq_true rfl⟩) (xk_preS X1_ok hK hX hP) rfl rfl hl.1 rfl (lv_room (Nat.le_of_ble_eq_true rfl)) dX6_reading_27 ⟨Nat.le_of_ble_eq_true rfl, Nat.le_of_ble_eq_true rfl⟩) hS (fun H locs hP hS => ?_)
  refine xn_zne (tgt := 36) hx hb dX6_reading_30 (by decide) (by omega) (fun c_30 => ?_) (fun c_30 => absurd c_30 (by omega))
  refine lv_aload_n hx hb dX6_reading_36 rfl (lv_at hl 0 rfl) ?_
  refine lv_aload_n hx hb dX6_reading_37 rfl (lv_at hl 0 rfl) ?_
  refine xk_get hx hb hts (inX6_reading_X6) hown hK hP 0 (by omega) (ci := 6) e1_well rfl 10 (by decide) (flX6_reading_181 hts) rfl (.int (σ 0 10)) rfl dX6_reading_38 ?_
  refine xn_eqi (y := nI rn) hRd.1 ?_
  refine xk_fa (va_runV (As := [.int (nI rn)]) (rest := []) ⟨hx, hb, hml, hown, hts⟩ (k1_readingAt_in l hI (x := rn) (by omega)) (cwV 1 hts gX6_reading_X6_readingAt rfl rfl rfl (by decide +kernel) ⟨Nat.le_of_ble_eq_true rfl, Nat.le_of_ble_eq_true rfl⟩) (xk_preV X1_ok hK hX hP (xk_recv hK hP 0 (by omega) (ci := 6) e1_well rfl)) rfl rfl hl.1 rfl (lv_room (Nat.le_of_ble_eq_true rfl)) dX6_reading_41 ⟨Nat.le_of_ble_eq_true rfl, Nat.le_of_ble_eq_true rfl⟩) hS (fun H locs hP hS => ?_)
  refine lv_astore (lv' := [(4, .ref (ad (14 + rn))), (0, .ref (ad 0)), (1, .int (nI x)), (2, .int (nI h)), (3, .int (-9))]) hx hb dX6_reading_44 hl (by decide) rfl (fun ls hl => ?_)
  refine lv_aload hx hb dX6_reading_46 (lv_at hl 0 rfl) ?_
  refine lv_ifnonnull (tgt := 54) hx hb dX6_reading_48 (by decide) ?_
  refine lv_aload hx hb dX6_reading_54 (lv_at hl 0 rfl) ?_
  refine lv_iload_n hx hb dX6_reading_56 rfl (lv_at hl 2 rfl) ?_
  refine xk_put hx hb hts (inX6_reading_X0) tyX0 tyX0_ok nmX0 hown hK hI hP hS (14 + rn) (by omega) (ci := 0) (e1_read (by omega) (by omega)) rfl 0 (by decide) (flX6_reading_188 hts) rfl rfl (by decide +kernel) (Nat.le_of_ble_eq_true rfl) e1_loc (by rw [e1_read (by omega) (by omega)]; simp [up]) dX6_reading_57 (fun H locs hP hS => ?_)
  refine lv_aload hx hb dX6_reading_60 (lv_at hl 0 rfl) ?_
  refine lv_iload_n hx hb dX6_reading_62 rfl (lv_at hl 3 rfl) ?_
  refine xk_put hx hb hts (inX6_reading_X0) tyX0 tyX0_ok nmX0 hown hK hI hP hS (14 + rn) (by omega) (ci := 0) (e1_read (by omega) (by omega)) rfl 1 (by decide) (flX6_reading_191 hts) rfl rfl (by decide +kernel) (Nat.le_of_ble_eq_true rfl) e1_loc (by rw [e1_read (by omega) (by omega)]; simp [up]) dX6_reading_63 (fun H locs hP hS => ?_)
  refine lv_aload hx hb dX6_reading_66 (lv_at hl 0 rfl) ?_
  refine lv_iload_n hx hb dX6_reading_68 rfl (lv_at hl 4 rfl) ?_
  refine xk_put hx hb hts (inX6_reading_X0) tyX0 tyX0_ok nmX0 hown hK hI hP hS (14 + rn) (by omega) (ci := 0) (e1_read (by omega) (by omega)) rfl 2 (by decide) (flX6_reading_192 hts) rfl rfl (by decide +kernel) (Nat.le_of_ble_eq_true rfl) e1_loc (by rw [e1_read (by omega) (by omega)]; simp [up]) dX6_reading_69 (fun H locs hP hS => ?_)
  refine lv_aload_n hx hb dX6_reading_72 rfl (lv_at hl 1 rfl) ?_
  refine lv_dup hx hb dX6_reading_73 rfl ?_
  refine xk_get hx hb hts (inX6_reading_X6) hown hK hP 0 (by omega) (ci := 6) e1_well rfl 10 (by decide) (flX6_reading_181 hts) rfl (.int ((up (up (up σ (14 + rn) 0 (nI x)) (14 + rn) 1 (nI h)) (14 + rn) 2 (-9)) 0 10)) rfl dX6_reading_74 ?_
  refine xn_eqi (y := nI rn) ((up_n (by omega)).trans ((up_n (by omega)).trans ((up_n (by omega)).trans hRd.1))) ?_
  refine lv_iconst (v := nI 1) hx hb dX6_reading_77 (by decide) ?_
  refine xn_iadd hx hb dX6_reading_78 ?_
  refine xk_put hx hb hts (inX6_reading_X6) tyX6 tyX6_ok nmX6 hown hK hI hP hS 0 (by omega) (ci := 6) e1_well rfl 10 (by decide) (flX6_reading_181 hts) rfl rfl (by decide +kernel) (Nat.le_of_ble_eq_true rfl) e1_loc (by rw [e1_well]; simp [up]) dX6_reading_79 (fun H locs hP hS => ?_)
  refine lv_aload_n hx hb dX6_reading_82 rfl (lv_at hl 1 rfl) ?_
  refine xk_get hx hb hts (inX6_reading_X6) hown hK hP 0 (by omega) (ci := 6) e1_well rfl 10 (by decide) (flX6_reading_181 hts) rfl (.int ((up (up (up (up σ (14 + rn) 0 (nI x)) (14 + rn) 1 (nI h)) (14 + rn) 2 (-9)) 0 10 (nI (rn + 1))) 0 10)) rfl dX6_reading_83 ?_
  refine xn_eqi (y := nI (rn + 1)) up_s ?_
  refine lv_iconst (v := nI 1) hx hb dX6_reading_86 (by decide) ?_
  refine xn_isub hx hb (by omega) dX6_reading_87 ?_
  exact xk_iret hx hb hr (vp_nar_int _) X1_ok hK hX hP hS hlk dX6_reading_88 (⟨by rw [show rn + 1 - 1 = rn by omega], I1_rd hJ hxn hh (by omega) rfl hfu⟩)

set_option maxRecDepth 20000 in
theorem flX6_back_181 {s : State} {av : Array Value} (hts : ∀ w ∈ wsX6_back, w.before av s = true) : (Cond.fieldLink RX6 181 "WellBack" "readingCount" "I").before av s = true := hts _ (by decide +kernel)
set_option maxRecDepth 20000 in
theorem inX6_back_X6 : ∀ w ∈ u_ws RX6 TX6 13, w ∈ wsX6_back := by decide +kernel
set_option maxHeartbeats 4000000 in
set_option maxRecDepth 100000 in
theorem a1_back_ko (l : Launch) {D : va_G} {ca : Nat → ClassId} {ad : Nat → Nat} (hI : Ij ad 34) {σ : Sg} {n p g rn : Nat} {d : Nat → Nat} {th rd : Nat → Nat → Nat} {sl sn : Nat → Nat} {sc : Nat → Nat → Int32} {ft tr : Int32} {k : Int32} (hJ : I1 n p g rn d th rd sl sn sc ft tr σ) (hko : ¬ (nI 0 ≤ k ∧ k ≤ nI rn)) : C1i l D ca ad yX6_back wsX6_back { frames := 1, cells := 0, slots := 0, locals := 22 } [.ref (ad 0), .int k] σ (fun r σ' => r = -2 ∧ I1 n p g rn d th rd sl sn sc ft tr σ') := by
  refine xk_entry cX6_back 2 (some .int) (by decide) rfl (Nat.le_of_ble_eq_true rfl) ?_
  intro pP eE sS mM below meth cC hx hb hml hr hts hown hlk hP hK hX hS ls hl
  have hl : lv_has ls 2 [(0, .ref (ad 0)), (1, .int k)] := hl
  obtain ⟨hT, hR, hRd, hSh, hnp, hft, htr⟩ := id hJ
  have hn5 := hT.2.2.1
  have hg9 := hT.2.2.2.1
  have hp6 := hR.2.1
  have hrn8 := hRd.2.1
  refine lv_iload_n hx hb dX6_back_0 rfl (lv_at hl 1 rfl) ?_
  refine lv_iconst (v := nI 0) hx hb dX6_back_1 (by decide) ?_
  refine lv_aload_n hx hb dX6_back_2 rfl (lv_at hl 0 rfl) ?_
  refine xk_get hx hb hts (inX6_back_X6) hown hK hP 0 (by omega) (ci := 6) e1_well rfl 10 (by decide) (flX6_back_181 hts) rfl (.int (σ 0 10)) rfl dX6_back_3 ?_
  refine xn_eqi (y := nI rn) hRd.1 ?_
  refine xk_fi (va_runS (As := [.int k, .int (nI 0), .int (nI rn)]) (rest := []) ⟨hx, hb, hml, hown, hts⟩ (k1_within_f l hI k (nI 0) (nI rn) hko) (va_cwS 3 hts gX6_back_X6_within rfl rfl rfl (by decide +kernel) ⟨Nat.le_of_ble_eq_true rfl, Nat.le_of_ble_eq_true rfl⟩) (xk_preS X1_ok hK hX hP) rfl rfl hl.1 rfl (lv_room (Nat.le_of_ble_eq_true rfl)) dX6_back_6 ⟨Nat.le_of_ble_eq_true rfl, Nat.le_of_ble_eq_true rfl⟩) hS (fun H locs hP hS => ?_)
  refine xn_zne (tgt := 15) hx hb dX6_back_9 (by decide) (by omega) (fun c_9 => absurd c_9 (by omega)) (fun c_9 => ?_)
  refine lv_bipush (v := (-2)) hx hb dX6_back_12 (by decide) ?_
  exact xk_iret hx hb hr (vp_nar_int _) X1_ok hK hX hP hS hlk dX6_back_14 (⟨rfl, hJ⟩)

set_option maxHeartbeats 4000000 in
set_option maxRecDepth 100000 in
theorem a1_back_ok (l : Launch) {D : va_G} {ca : Nat → ClassId} {ad : Nat → Nat} (hI : Ij ad 34) {σ : Sg} {n p g rn : Nat} {d : Nat → Nat} {th rd : Nat → Nat → Nat} {sl sn : Nat → Nat} {sc : Nat → Nat → Int32} {ft tr : Int32} {k : Nat} (hJ : I1 n p g rn d th rd sl sn sc ft tr σ) (hkr : k ≤ rn) : C1i l D ca ad yX6_back wsX6_back { frames := 1, cells := 0, slots := 0, locals := 22 } [.ref (ad 0), .int (nI k)] σ (fun r σ' => r = nI (rn - k) ∧ I1 n p g (rn - k) d th rd sl sn sc ft tr σ') := by
  refine xk_entry cX6_back 2 (some .int) (by decide) rfl (Nat.le_of_ble_eq_true rfl) ?_
  intro pP eE sS mM below meth cC hx hb hml hr hts hown hlk hP hK hX hS ls hl
  have hl : lv_has ls 2 [(0, .ref (ad 0)), (1, .int (nI k))] := hl
  obtain ⟨hT, hR, hRd, hSh, hnp, hft, htr⟩ := id hJ
  have hn5 := hT.2.2.1
  have hg9 := hT.2.2.2.1
  have hp6 := hR.2.1
  have hrn8 := hRd.2.1
  refine lv_iload_n hx hb dX6_back_0 rfl (lv_at hl 1 rfl) ?_
  refine lv_iconst (v := nI 0) hx hb dX6_back_1 (by decide) ?_
  refine lv_aload_n hx hb dX6_back_2 rfl (lv_at hl 0 rfl) ?_
  refine xk_get hx hb hts (inX6_back_X6) hown hK hP 0 (by omega) (ci := 6) e1_well rfl 10 (by decide) (flX6_back_181 hts) rfl (.int (σ 0 10)) rfl dX6_back_3 ?_
  refine xn_eqi (y := nI rn) hRd.1 ?_
  refine xk_fi (va_runS (As := [.int (nI k), .int (nI 0), .int (nI rn)]) (rest := []) ⟨hx, hb, hml, hown, hts⟩ (k1_within_t l hI (nI k) (nI 0) (nI rn) (xn_in (by omega) (by omega) (by omega))) (va_cwS 3 hts gX6_back_X6_within rfl rfl rfl (by decide +kernel) ⟨Nat.le_of_ble_eq_true rfl, Nat.le_of_ble_eq_true rfl⟩) (xk_preS X1_ok hK hX hP) rfl rfl hl.1 rfl (lv_room (Nat.le_of_ble_eq_true rfl)) dX6_back_6 ⟨Nat.le_of_ble_eq_true rfl, Nat.le_of_ble_eq_true rfl⟩) hS (fun H locs hP hS => ?_)
  refine xn_zne (tgt := 15) hx hb dX6_back_9 (by decide) (by omega) (fun c_9 => ?_) (fun c_9 => absurd c_9 (by omega))
  refine lv_aload_n hx hb dX6_back_15 rfl (lv_at hl 0 rfl) ?_
  refine lv_dup hx hb dX6_back_16 rfl ?_
  refine xk_get hx hb hts (inX6_back_X6) hown hK hP 0 (by omega) (ci := 6) e1_well rfl 10 (by decide) (flX6_back_181 hts) rfl (.int (σ 0 10)) rfl dX6_back_17 ?_
  refine xn_eqi (y := nI rn) hRd.1 ?_
  refine lv_iload_n hx hb dX6_back_20 rfl (lv_at hl 1 rfl) ?_
  refine xn_isub hx hb (by omega) dX6_back_21 ?_
  refine xk_put hx hb hts (inX6_back_X6) tyX6 tyX6_ok nmX6 hown hK hI hP hS 0 (by omega) (ci := 6) e1_well rfl 10 (by decide) (flX6_back_181 hts) rfl rfl (by decide +kernel) (Nat.le_of_ble_eq_true rfl) e1_loc (by rw [e1_well]; simp [up]) dX6_back_22 (fun H locs hP hS => ?_)
  refine lv_aload_n hx hb dX6_back_25 rfl (lv_at hl 0 rfl) ?_
  refine xk_get hx hb hts (inX6_back_X6) hown hK hP 0 (by omega) (ci := 6) e1_well rfl 10 (by decide) (flX6_back_181 hts) rfl (.int ((up σ 0 10 (nI (rn - k))) 0 10)) rfl dX6_back_26 ?_
  refine xn_eqi (y := nI (rn - k)) up_s ?_
  exact xk_iret hx hb hr (vp_nar_int _) X1_ok hK hX hP hS hlk dX6_back_29 (⟨rfl, I1_rn hJ (by omega)⟩)
