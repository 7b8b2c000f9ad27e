/-! the reference's calls: what each leaves -/
section I2
variable {n p g rn : Nat} {d : Nat → Nat} {th rd : Nat → Nat → Nat} {sl sn : Nat → Nat} {sc : Nat → Nat → Int32} {ft tr : Int32} {σ τ : Sg}
theorem ThM_e (h : ThM σ n g th) (h5 : τ 0 5 = σ 0 5) (h7 : τ 0 7 = σ 0 7) (hr : ∀ i, 5 ≤ i → i < 10 → τ i = σ i) : ThM τ n g th := ⟨h5.trans h.1, h7.trans h.2.1, h.2.2.1, h.2.2.2.1, fun x hx => ⟨fun f hf => by rw [hr (5 + f) (by omega) (by omega)]; exact (h.2.2.2.2 x hx).1 f hf, (h.2.2.2.2 x hx).2⟩⟩
theorem RotaM_e (h : RotaM σ p d) (h6 : τ 0 6 = σ 0 6) (h4 : τ 4 = σ 4) : RotaM τ p d := ⟨h6.trans h.1, h.2.1, fun k hk => by rw [h4]; exact h.2.2 k hk⟩
theorem ReadsM_e (h : ReadsM σ rn n rd) (h26 : τ 0 26 = σ 0 26) (hr : ∀ i, 15 ≤ i → i < 18 → τ i = σ i) : ReadsM τ rn n rd := ⟨h26.trans h.1, h.2.1, fun k hk => by rw [hr 15 (by omega) (by omega), hr 16 (by omega) (by omega), hr 17 (by omega) (by omega)]; exact h.2.2 k hk⟩
theorem I2_ft {v : Int32} (h : I2 n p g rn d th rd sl sn sc ft tr σ) : I2 n p g rn d th rd sl sn sc v tr (up σ 0 0 v) := by
  obtain ⟨hT, hR, hRd, hSh, hnp, hft, htr⟩ := h
  exact ⟨ThM_e hT (up_n (by omega)) (up_n (by omega)) (fun i a b => up_r (by omega)), RotaM_e hR (up_n (by omega)) (up_r (by omega)), ReadsM_e hRd (up_n (by omega)) (fun i a b => up_r (by omega)), fun k hk => ShM_fr (hSh k hk) (up_r (by omega)) (up_r (by omega)) (up_r (by omega)), hnp, up_s, (up_n (by omega)).trans htr⟩
theorem I2_tr {v : Int32} (h : I2 n p g rn d th rd sl sn sc ft tr σ) : I2 n p g rn d th rd sl sn sc ft v (up σ 0 1 v) := by
  obtain ⟨hT, hR, hRd, hSh, hnp, hft, htr⟩ := h
  exact ⟨ThM_e hT (up_n (by omega)) (up_n (by omega)) (fun i a b => up_r (by omega)), RotaM_e hR (up_n (by omega)) (up_r (by omega)), ReadsM_e hRd (up_n (by omega)) (fun i a b => up_r (by omega)), fun k hk => ShM_fr (hSh k hk) (up_r (by omega)) (up_r (by omega)) (up_r (by omega)), hnp, (up_n (by omega)).trans hft, up_s⟩
theorem I2_g {v : Nat} (h : I2 n p g rn d th rd sl sn sc ft tr σ) (hv : v ≤ 9) : I2 n p v rn d th rd sl sn sc ft tr (up σ 0 5 (nI v)) := by
  obtain ⟨hT, hR, hRd, hSh, hnp, hft, htr⟩ := h
  exact ⟨⟨up_s, (up_n (by omega)).trans hT.2.1, hT.2.2.1, hv, fun x hx => ⟨fun f hf => (up_n (by omega)).trans ((hT.2.2.2.2 x hx).1 f hf), (hT.2.2.2.2 x hx).2⟩⟩, RotaM_e hR (up_n (by omega)) (up_r (by omega)), ReadsM_e hRd (up_n (by omega)) (fun i a b => up_r (by omega)), fun k hk => ShM_fr (hSh k hk) (up_r (by omega)) (up_r (by omega)) (up_r (by omega)), hnp, (up_n (by omega)).trans hft, (up_n (by omega)).trans htr⟩
theorem I2_rn {v : Nat} (h : I2 n p g rn d th rd sl sn sc ft tr σ) (hv : v ≤ rn) : I2 n p g v d th rd sl sn sc ft tr (up σ 0 26 (nI v)) := by
  obtain ⟨hT, hR, hRd, hSh, hnp, hft, htr⟩ := h
  exact ⟨ThM_e hT (up_n (by omega)) (up_n (by omega)) (fun i a b => up_r (by omega)), RotaM_e hR (up_n (by omega)) (up_r (by omega)), ⟨up_s, by have := hRd.2.1; omega, fun k hk => by rw [up_r (by omega), up_r (by omega), up_r (by omega)]; exact hRd.2.2 k (by omega)⟩, fun k hk => ShM_fr (hSh k hk) (up_r (by omega)) (up_r (by omega)) (up_r (by omega)), hnp, (up_n (by omega)).trans hft, (up_n (by omega)).trans htr⟩
theorem I2_w {x v : Nat} (h : I2 n p g rn d th rd sl sn sc ft tr σ) (hx : x < n) (hv : v ≤ 9) : I2 n p g rn d (uth th x 1 v) rd sl sn sc ft tr (up σ 6 x (nI v)) := by
  obtain ⟨hT, hR, hRd, hSh, hnp, hft, htr⟩ := h
  refine ⟨⟨(up_n (by omega)).trans hT.1, (up_n (by omega)).trans hT.2.1, hT.2.2.1, hT.2.2.2.1, fun y hy => ⟨fun f hf => ?_, ?_⟩⟩, RotaM_e hR (up_n (by omega)) (up_r (by omega)), ReadsM_e hRd (up_n (by omega)) (fun i a b => up_r (by omega)), fun k hk => ShM_fr (hSh k hk) (up_r (by omega)) (up_r (by omega)) (up_r (by omega)), hnp, (up_n (by omega)).trans hft, (up_n (by omega)).trans htr⟩
  · by_cases hz : y = x ∧ f = 1
    · obtain ⟨rfl, rfl⟩ := hz
      rw [up_s]
      simp [uth]
    · rw [up_n (by omega)]
      simp only [uth, if_neg hz]
      exact (hT.2.2.2.2 y hy).1 f hf
  · obtain ⟨a, b, c, e, i⟩ := (hT.2.2.2.2 y hy).2
    refine ⟨?_, ?_, ?_, ?_, ?_⟩
    · simp only [uth]; rw [if_neg (by omega)]; exact a
    · simp only [uth]; split <;> omega
    · simp only [uth]; rw [if_neg (by omega)]; exact c
    · simp only [uth]; rw [if_neg (by omega)]; exact e
    · simp only [uth]; rw [if_neg (by omega)]; exact i
theorem I2_d {k e : Nat} (h : I2 n p g rn d th rd sl sn sc ft tr σ) (he : e ≤ 4) : I2 n p g rn (fun j => if j = k then e else d j) th rd sl sn sc ft tr (up σ 4 k (nI e)) := by
  obtain ⟨hT, hR, hRd, hSh, hnp, hft, htr⟩ := h
  refine ⟨ThM_e hT (up_n (by omega)) (up_n (by omega)) (fun i a b => up_r (by omega)), ⟨(up_n (by omega)).trans hR.1, hR.2.1, fun j hj => ?_⟩, ReadsM_e hRd (up_n (by omega)) (fun i a b => up_r (by omega)), fun k hk => ShM_fr (hSh k hk) (up_r (by omega)) (up_r (by omega)) (up_r (by omega)), hnp, (up_n (by omega)).trans hft, (up_n (by omega)).trans htr⟩
  by_cases hjk : j = k
  · subst hjk
    simp only [if_true]
    exact ⟨up_s, by omega⟩
  · simp only [if_neg hjk]
    exact ⟨(up_n (by omega)).trans (hR.2.2 j hj).1, (hR.2.2 j hj).2⟩
theorem I2_rd {x h c : Nat} {z : Int32} (hJ : I2 n p g rn d th rd sl sn sc ft tr σ) (hx : x < n) (hh : h ≤ 23) (hc : c ≤ 5) (hz : z = dz c) (hr : rn < 8) : I2 n p g (rn + 1) d th (urd rd rn x h c) sl sn sc ft tr (up (up (up (up σ 15 rn (nI x)) 16 rn (nI h)) 17 rn z) 0 26 (nI (rn + 1))) := by
  obtain ⟨hT, hR, hRd, hSh, hnp, hft, htr⟩ := hJ
  have fr : ∀ i, i ≠ 0 → i < 15 → (up (up (up (up σ 15 rn (nI x)) 16 rn (nI h)) 17 rn z) 0 26 (nI (rn + 1))) i = σ i := fun i a b => by rw [up_r a, up_r (by omega), up_r (by omega), up_r (by omega)]
  have f0 : ∀ j, j ≠ 26 → (up (up (up (up σ 15 rn (nI x)) 16 rn (nI h)) 17 rn z) 0 26 (nI (rn + 1))) 0 j = σ 0 j := fun j a => by rw [up_n (by omega), up_n (by omega), up_n (by omega), up_n (by omega)]
  refine ⟨ThM_e hT (f0 5 (by omega)) (f0 7 (by omega)) (fun i a b => fr i (by omega) (by omega)), RotaM_e hR (f0 6 (by omega)) (fr 4 (by omega) (by omega)), ⟨up_s, by omega, fun k hk => ?_⟩, fun k hk => ShM_fr (hSh k hk) (fr _ (by omega) (by omega)) (fr _ (by omega) (by omega)) (fr _ (by omega) (by omega)), hnp, (f0 0 (by omega)).trans hft, (f0 1 (by omega)).trans htr⟩
  by_cases hk2 : k = rn
  · subst hk2
    refine ⟨?_, ?_, ?_, ?_, ?_, ?_⟩
    · simp [up, urd]
    · simp [up, urd]
    · simp [up, urd, hz]
    · simp only [urd, if_true]; exact hx
    · simp only [urd, if_true]; exact hh
    · simp only [urd, if_true]; exact hc
  · rw [up_n (by omega), up_n (by omega), up_n (by omega), up_n (by omega), up_n (by omega), up_n (by omega), up_n (by omega), up_n (by omega), up_n (by omega), up_n (by omega), up_n (by omega), up_n (by omega)]
    simp only [urd, if_neg hk2]
    exact hRd.2.2 k (by omega)
theorem I2_sh {k L m : Nat} {cc : Nat → Int32} (h : I2 n p g rn d th rd sl sn sc ft tr σ) (hk : k < 4) (hf : ∀ i, i ≠ 1 → i ≠ 2 → i ≠ 3 → τ i = σ i) (h1 : ∀ j, j ≠ k → τ 1 j = σ 1 j ∧ τ 2 j = σ 2 j) (h3 : ∀ j, j < 60 * k ∨ 60 * k + 60 ≤ j → τ 3 j = σ 3 j) (hZ : ShM τ k L m cc) : I2 n p g rn d th rd (us sl k L) (us sn k m) (us sc k cc) ft tr τ := by
  obtain ⟨hT, hR, hRd, hSh, hnp, hft, htr⟩ := h
  have f0 : τ 0 = σ 0 := hf 0 (by omega) (by omega) (by omega)
  refine ⟨ThM_e hT (by rw [f0]) (by rw [f0]) (fun i a b => hf i (by omega) (by omega) (by omega)), RotaM_e hR (by rw [f0]) (hf 4 (by omega) (by omega) (by omega)), ReadsM_e hRd (by rw [f0]) (fun i a b => hf i (by omega) (by omega) (by omega)), fun j hj => ?_, hnp, by rw [f0]; exact hft, by rw [f0]; exact htr⟩
  by_cases hjk : j = k
  · subst hjk
    simp only [us, if_true]
    exact hZ
  · simp only [us, if_neg hjk]
    obtain ⟨a, b, c⟩ := hSh j hj
    refine ⟨(h1 j hjk).1.trans a, b, fun q => ⟨(h1 j hjk).2.trans (c q).1, (c q).2.1, fun i hi => ?_⟩⟩
    have := (c q).2.1
    rw [h3 _ (by omega)]
    exact (c q).2.2 i hi
end I2

set_option maxRecDepth 20000 in
theorem flX7_many_71 {s : State} {av : Array Value} (hts : ∀ w ∈ wsX7_many, w.before av s = true) : (Cond.fieldLink RX7 71 "WellBackModel" "things" "I").before av s = true := hts _ (by decide +kernel)
set_option maxRecDepth 20000 in
theorem inX7_many_X7 : ∀ w ∈ u_ws RX7 TX7 30, w ∈ wsX7_many := by decide +kernel
set_option maxHeartbeats 4000000 in
set_option maxRecDepth 100000 in
theorem a2_many_0 (l : Launch) {D : va_G} {ca : Nat → ClassId} {ad : Nat → Nat} (hI : Ij ad 18) {σ : Sg} {n p g rn : Nat} {d : Nat → Nat} {th rd : Nat → Nat → Nat} {sl sn : Nat → Nat} {sc : Nat → Nat → Int32} {ft tr : Int32} (hJ : I2 n p g rn d th rd sl sn sc ft tr σ) : C2i l D ca ad yX7_many wsX7_many { frames := 0, cells := 0, slots := 0, locals := 0 } [.ref (ad 0), .int (nI 0)] σ (fun r σ' => r = nI n ∧ I2 n p g rn d th rd sl sn sc ft tr σ') := by
  refine xk_entry cX7_many 2 (some .int) (by decide) rfl (Nat.le_of_ble_eq_true rfl) ?_
  intro pP eE sS mM below meth cC hx hb hml hr hts hown hlk hP hK hX hS ls hl
  have hl : lv_has ls 2 [(0, .ref (ad 0)), (1, .int (nI 0))] := hl
  obtain ⟨hT, hR, hRd, hSh, hnp, hft, htr⟩ := id hJ
  have hn5 := hT.2.2.1
  have hg9 := hT.2.2.2.1
  have hp6 := hR.2.1
  have hrn8 := hRd.2.1
  refine lv_iload_n hx hb dX7_many_0 rfl (lv_at hl 1 rfl) ?_
  refine xn_zne (tgt := 11) hx hb dX7_many_1 (by decide) (by omega) (fun c_1 => absurd c_1 (by omega)) (fun c_1 => ?_)
  refine lv_aload_n hx hb dX7_many_4 rfl (lv_at hl 0 rfl) ?_
  refine xk_get hx hb hts (inX7_many_X7) hown hK hP 0 (by omega) (ci := 7) e2_obj rfl 7 (by decide) (flX7_many_71 hts) rfl (.int (σ 0 7)) rfl dX7_many_5 ?_
  refine xn_eqi (y := nI n) hT.2.1 ?_
  refine lv_goto (tgt := 49) hx hb dX7_many_8 (by decide) ?_
  exact xk_iret hx hb hr (vp_nar_int _) X2_ok hK hX hP hS hlk dX7_many_49 (⟨rfl, hJ⟩)

set_option maxRecDepth 20000 in
theorem flX7_many_107 {s : State} {av : Array Value} (hts : ∀ w ∈ wsX7_many, w.before av s = true) : (Cond.fieldLink RX7 107 "WellBackModel" "places" "I").before av s = true := hts _ (by decide +kernel)
set_option maxHeartbeats 4000000 in
set_option maxRecDepth 100000 in
theorem a2_many_1 (l : Launch) {D : va_G} {ca : Nat → ClassId} {ad : Nat → Nat} (hI : Ij ad 18) {σ : Sg} {n p g rn : Nat} {d : Nat → Nat} {th rd : Nat → Nat → Nat} {sl sn : Nat → Nat} {sc : Nat → Nat → Int32} {ft tr : Int32} (hJ : I2 n p g rn d th rd sl sn sc ft tr σ) : C2i l D ca ad yX7_many wsX7_many { frames := 0, cells := 0, slots := 0, locals := 0 } [.ref (ad 0), .int (nI 1)] σ (fun r σ' => r = nI p ∧ I2 n p g rn d th rd sl sn sc ft tr σ') := by
  refine xk_entry cX7_many 2 (some .int) (by decide) rfl (Nat.le_of_ble_eq_true rfl) ?_
  intro pP eE sS mM below meth cC hx hb hml hr hts hown hlk hP hK hX hS ls hl
  have hl : lv_has ls 2 [(0, .ref (ad 0)), (1, .int (nI 1))] := hl
  obtain ⟨hT, hR, hRd, hSh, hnp, hft, htr⟩ := id hJ
  have hn5 := hT.2.2.1
  have hg9 := hT.2.2.2.1
  have hp6 := hR.2.1
  have hrn8 := hRd.2.1
  refine lv_iload_n hx hb dX7_many_0 rfl (lv_at hl 1 rfl) ?_
  refine xn_zne (tgt := 11) hx hb dX7_many_1 (by decide) (by omega) (fun c_1 => ?_) (fun c_1 => absurd c_1 (by omega))
  refine lv_iload_n hx hb dX7_many_11 rfl (lv_at hl 1 rfl) ?_
  refine lv_iconst (v := nI 1) hx hb dX7_many_12 (by decide) ?_
  refine xn_ine (tgt := 23) hx hb dX7_many_13 (by decide) (by omega) (by omega) (fun c_13 => absurd c_13 (by omega)) (fun c_13 => ?_)
  refine lv_aload_n hx hb dX7_many_16 rfl (lv_at hl 0 rfl) ?_
  refine xk_get hx hb hts (inX7_many_X7) hown hK hP 0 (by omega) (ci := 7) e2_obj rfl 6 (by decide) (flX7_many_107 hts) rfl (.int (σ 0 6)) rfl dX7_many_17 ?_
  refine xn_eqi (y := nI p) hR.1 ?_
  refine lv_goto (tgt := 49) hx hb dX7_many_20 (by decide) ?_
  exact xk_iret hx hb hr (vp_nar_int _) X2_ok hK hX hP hS hlk dX7_many_49 (⟨rfl, hJ⟩)

set_option maxRecDepth 20000 in
theorem flX7_many_101 {s : State} {av : Array Value} (hts : ∀ w ∈ wsX7_many, w.before av s = true) : (Cond.fieldLink RX7 101 "WellBackModel" "depth" "I").before av s = true := hts _ (by decide +kernel)
set_option maxHeartbeats 4000000 in
set_option maxRecDepth 100000 in
theorem a2_many_2 (l : Launch) {D : va_G} {ca : Nat → ClassId} {ad : Nat → Nat} (hI : Ij ad 18) {σ : Sg} {n p g rn : Nat} {d : Nat → Nat} {th rd : Nat → Nat → Nat} {sl sn : Nat → Nat} {sc : Nat → Nat → Int32} {ft tr : Int32} (hJ : I2 n p g rn d th rd sl sn sc ft tr σ) : C2i l D ca ad yX7_many wsX7_many { frames := 0, cells := 0, slots := 0, locals := 0 } [.ref (ad 0), .int (nI 2)] σ (fun r σ' => r = nI g ∧ I2 n p g rn d th rd sl sn sc ft tr σ') := by
  refine xk_entry cX7_many 2 (some .int) (by decide) rfl (Nat.le_of_ble_eq_true rfl) ?_
  intro pP eE sS mM below meth cC hx hb hml hr hts hown hlk hP hK hX hS ls hl
  have hl : lv_has ls 2 [(0, .ref (ad 0)), (1, .int (nI 2))] := hl
  obtain ⟨hT, hR, hRd, hSh, hnp, hft, htr⟩ := id hJ
  have hn5 := hT.2.2.1
  have hg9 := hT.2.2.2.1
  have hp6 := hR.2.1
  have hrn8 := hRd.2.1
  refine lv_iload_n hx hb dX7_many_0 rfl (lv_at hl 1 rfl) ?_
  refine xn_zne (tgt := 11) hx hb dX7_many_1 (by decide) (by omega) (fun c_1 => ?_) (fun c_1 => absurd c_1 (by omega))
  refine lv_iload_n hx hb dX7_many_11 rfl (lv_at hl 1 rfl) ?_
  refine lv_iconst (v := nI 1) hx hb dX7_many_12 (by decide) ?_
  refine xn_ine (tgt := 23) hx hb dX7_many_13 (by decide) (by omega) (by omega) (fun c_13 => ?_) (fun c_13 => absurd c_13 (by omega))
  refine lv_iload_n hx hb dX7_many_23 rfl (lv_at hl 1 rfl) ?_
  refine lv_iconst (v := nI 2) hx hb dX7_many_24 (by decide) ?_
  refine xn_ine (tgt := 35) hx hb dX7_many_25 (by decide) (by omega) (by omega) (fun c_25 => absurd c_25 (by omega)) (fun c_25 => ?_)
  refine lv_aload_n hx hb dX7_many_28 rfl (lv_at hl 0 rfl) ?_
  refine xk_get hx hb hts (inX7_many_X7) hown hK hP 0 (by omega) (ci := 7) e2_obj rfl 5 (by decide) (flX7_many_101 hts) rfl (.int (σ 0 5)) rfl dX7_many_29 ?_
  refine xn_eqi (y := nI g) hT.1 ?_
  refine lv_goto (tgt := 49) hx hb dX7_many_32 (by decide) ?_
  exact xk_iret hx hb hr (vp_nar_int _) X2_ok hK hX hP hS hlk dX7_many_49 (⟨rfl, hJ⟩)

set_option maxRecDepth 20000 in
theorem flX7_many_113 {s : State} {av : Array Value} (hts : ∀ w ∈ wsX7_many, w.before av s = true) : (Cond.fieldLink RX7 113 "WellBackModel" "readings" "I").before av s = true := hts _ (by decide +kernel)
set_option maxHeartbeats 4000000 in
set_option maxRecDepth 100000 in
theorem a2_many_3 (l : Launch) {D : va_G} {ca : Nat → ClassId} {ad : Nat → Nat} (hI : Ij ad 18) {σ : Sg} {n p g rn : Nat} {d : Nat → Nat} {th rd : Nat → Nat → Nat} {sl sn : Nat → Nat} {sc : Nat → Nat → Int32} {ft tr : Int32} (hJ : I2 n p g rn d th rd sl sn sc ft tr σ) : C2i l D ca ad yX7_many wsX7_many { frames := 0, cells := 0, slots := 0, locals := 0 } [.ref (ad 0), .int (nI 3)] σ (fun r σ' => r = nI rn ∧ I2 n p g rn d th rd sl sn sc ft tr σ') := by
  refine xk_entry cX7_many 2 (some .int) (by decide) rfl (Nat.le_of_ble_eq_true rfl) ?_
  intro pP eE sS mM below meth cC hx hb hml hr hts hown hlk hP hK hX hS ls hl
  have hl : lv_has ls 2 [(0, .ref (ad 0)), (1, .int (nI 3))] := hl
  obtain ⟨hT, hR, hRd, hSh, hnp, hft, htr⟩ := id hJ
  have hn5 := hT.2.2.1
  have hg9 := hT.2.2.2.1
  have hp6 := hR.2.1
  have hrn8 := hRd.2.1
  refine lv_iload_n hx hb dX7_many_0 rfl (lv_at hl 1 rfl) ?_
  refine xn_zne (tgt := 11) hx hb dX7_many_1 (by decide) (by omega) (fun c_1 => ?_) (fun c_1 => absurd c_1 (by omega))
  refine lv_iload_n hx hb dX7_many_11 rfl (lv_at hl 1 rfl) ?_
  refine lv_iconst (v := nI 1) hx hb dX7_many_12 (by decide) ?_
  refine xn_ine (tgt := 23) hx hb dX7_many_13 (by decide) (by omega) (by omega) (fun c_13 => ?_) (fun c_13 => absurd c_13 (by omega))
  refine lv_iload_n hx hb dX7_many_23 rfl (lv_at hl 1 rfl) ?_
  refine lv_iconst (v := nI 2) hx hb dX7_many_24 (by decide) ?_
  refine xn_ine (tgt := 35) hx hb dX7_many_25 (by decide) (by omega) (by omega) (fun c_25 => ?_) (fun c_25 => absurd c_25 (by omega))
  refine lv_iload_n hx hb dX7_many_35 rfl (lv_at hl 1 rfl) ?_
  refine lv_iconst (v := nI 3) hx hb dX7_many_36 (by decide) ?_
  refine xn_ine (tgt := 47) hx hb dX7_many_37 (by decide) (by omega) (by omega) (fun c_37 => absurd c_37 (by omega)) (fun c_37 => ?_)
  refine lv_aload_n hx hb dX7_many_40 rfl (lv_at hl 0 rfl) ?_
  refine xk_get hx hb hts (inX7_many_X7) hown hK hP 0 (by omega) (ci := 7) e2_obj rfl 26 (by decide) (flX7_many_113 hts) rfl (.int (σ 0 26)) rfl dX7_many_41 ?_
  refine xn_eqi (y := nI rn) hRd.1 ?_
  refine lv_goto (tgt := 49) hx hb dX7_many_44 (by decide) ?_
  exact xk_iret hx hb hr (vp_nar_int _) X2_ok hK hX hP hS hlk dX7_many_49 (⟨rfl, hJ⟩)

set_option maxHeartbeats 4000000 in
set_option maxRecDepth 100000 in
theorem a2_many_o (l : Launch) {D : va_G} {ca : Nat → ClassId} {ad : Nat → Nat} (hI : Ij ad 18) {σ : Sg} {n p g rn : Nat} {d : Nat → Nat} {th rd : Nat → Nat → Nat} {sl sn : Nat → Nat} {sc : Nat → Nat → Int32} {ft tr : Int32} {w : Int32} (hJ : I2 n p g rn d th rd sl sn sc ft tr σ) (hw : ¬ (nI 0 ≤ w ∧ w ≤ nI 3)) : C2i l D ca ad yX7_many wsX7_many { frames := 0, cells := 0, slots := 0, locals := 0 } [.ref (ad 0), .int w] σ (fun r σ' => r = -2 ∧ I2 n p g rn d th rd sl sn sc ft tr σ') := by
  refine xk_entry cX7_many 2 (some .int) (by decide) rfl (Nat.le_of_ble_eq_true rfl) ?_
  intro pP eE sS mM below meth cC hx hb hml hr hts hown hlk hP hK hX hS ls hl
  have hl : lv_has ls 2 [(0, .ref (ad 0)), (1, .int w)] := hl
  obtain ⟨hT, hR, hRd, hSh, hnp, hft, htr⟩ := id hJ
  have hn5 := hT.2.2.1
  have hg9 := hT.2.2.2.1
  have hp6 := hR.2.1
  have hrn8 := hRd.2.1
  refine lv_iload_n hx hb dX7_many_0 rfl (lv_at hl 1 rfl) ?_
  refine lv_if_ne (tgt := 11) hx hb dX7_many_1 (by decide) (fun c_1 => ?_) (fun c_1 => absurd c_1 (xn_neq hw 0 (by omega) (by omega)))
  refine lv_iload_n hx hb dX7_many_11 rfl (lv_at hl 1 rfl) ?_
  refine lv_iconst (v := nI 1) hx hb dX7_many_12 (by decide) ?_
  refine lv_icmp_ne (tgt := 23) hx hb dX7_many_13 (by decide) (fun c_13 => ?_) (fun c_13 => absurd c_13 (xn_neq hw 1 (by omega) (by omega)))
  refine lv_iload_n hx hb dX7_many_23 rfl (lv_at hl 1 rfl) ?_
  refine lv_iconst (v := nI 2) hx hb dX7_many_24 (by decide) ?_
  refine lv_icmp_ne (tgt := 35) hx hb dX7_many_25 (by decide) (fun c_25 => ?_) (fun c_25 => absurd c_25 (xn_neq hw 2 (by omega) (by omega)))
  refine lv_iload_n hx hb dX7_many_35 rfl (lv_at hl 1 rfl) ?_
  refine lv_iconst (v := nI 3) hx hb dX7_many_36 (by decide) ?_
  refine lv_icmp_ne (tgt := 47) hx hb dX7_many_37 (by decide) (fun c_37 => ?_) (fun c_37 => absurd c_37 (xn_neq hw 3 (by omega) (by omega)))
  refine lv_bipush (v := (-2)) hx hb dX7_many_47 (by decide) ?_
  exact xk_iret hx hb hr (vp_nar_int _) X2_ok hK hX hP hS hlk dX7_many_49 (⟨rfl, hJ⟩)

set_option maxRecDepth 20000 in
theorem flX7_trace_187 {s : State} {av : Array Value} (hts : ∀ w ∈ wsX7_trace, w.before av s = true) : (Cond.fieldLink RX7 187 "WellBackModel" "trace" "I").before av s = true := hts _ (by decide +kernel)
set_option maxRecDepth 20000 in
theorem inX7_trace_X7 : ∀ w ∈ u_ws RX7 TX7 30, w ∈ wsX7_trace := by decide +kernel
set_option maxHeartbeats 4000000 in
set_option maxRecDepth 100000 in
theorem a2_trace (l : Launch) {D : va_G} {ca : Nat → ClassId} {ad : Nat → Nat} (hI : Ij ad 18) {σ : Sg} {n p g rn : Nat} {d : Nat → Nat} {th rd : Nat → Nat → Nat} {sl sn : Nat → Nat} {sc : Nat → Nat → Int32} {ft tr : Int32} (hJ : I2 n p g rn d th rd sl sn sc ft tr σ) : C2i l D ca ad yX7_trace wsX7_trace { frames := 0, cells := 0, slots := 0, locals := 0 } [.ref (ad 0)] σ (fun r σ' => r = tr ∧ I2 n p g rn d th rd sl sn sc ft tr σ') := by
  refine xk_entry cX7_trace 1 (some .int) (by decide) rfl (Nat.le_of_ble_eq_true rfl) ?_
  intro pP eE sS mM below meth cC hx hb hml hr hts hown hlk hP hK hX hS ls hl
  have hl : lv_has ls 1 [(0, .ref (ad 0))] := hl
  obtain ⟨hT, hR, hRd, hSh, hnp, hft, htr⟩ := id hJ
  have hn5 := hT.2.2.1
  have hg9 := hT.2.2.2.1
  have hp6 := hR.2.1
  have hrn8 := hRd.2.1
  refine lv_aload_n hx hb dX7_trace_0 rfl (lv_at hl 0 rfl) ?_
  refine xk_get hx hb hts (inX7_trace_X7) hown hK hP 0 (by omega) (ci := 7) e2_obj rfl 1 (by decide) (flX7_trace_187 hts) rfl (.int (σ 0 1)) rfl dX7_trace_1 ?_
  refine xn_eqi (y := tr) htr ?_
  exact xk_iret hx hb hr (vp_nar_int _) X2_ok hK hX hP hS hlk dX7_trace_4 (⟨rfl, hJ⟩)

set_option maxRecDepth 20000 in
theorem flX7_fault_61 {s : State} {av : Array Value} (hts : ∀ w ∈ wsX7_fault, w.before av s = true) : (Cond.fieldLink RX7 61 "WellBackModel" "fault" "I").before av s = true := hts _ (by decide +kernel)
set_option maxRecDepth 20000 in
theorem inX7_fault_X7 : ∀ w ∈ u_ws RX7 TX7 30, w ∈ wsX7_fault := by decide +kernel
set_option maxHeartbeats 4000000 in
set_option maxRecDepth 100000 in
theorem a2_fault (l : Launch) {D : va_G} {ca : Nat → ClassId} {ad : Nat → Nat} (hI : Ij ad 18) {σ : Sg} {n p g rn : Nat} {d : Nat → Nat} {th rd : Nat → Nat → Nat} {sl sn : Nat → Nat} {sc : Nat → Nat → Int32} {ft tr : Int32} (hJ : I2 n p g rn d th rd sl sn sc ft tr σ) : C2i l D ca ad yX7_fault wsX7_fault { frames := 0, cells := 0, slots := 0, locals := 0 } [.ref (ad 0)] σ (fun r σ' => r = ft ∧ I2 n p g rn d th rd sl sn sc ft tr σ') := by
  refine xk_entry cX7_fault 1 (some .int) (by decide) rfl (Nat.le_of_ble_eq_true rfl) ?_
  intro pP eE sS mM below meth cC hx hb hml hr hts hown hlk hP hK hX hS ls hl
  have hl : lv_has ls 1 [(0, .ref (ad 0))] := hl
  obtain ⟨hT, hR, hRd, hSh, hnp, hft, htr⟩ := id hJ
  have hn5 := hT.2.2.1
  have hg9 := hT.2.2.2.1
  have hp6 := hR.2.1
  have hrn8 := hRd.2.1
  refine lv_aload_n hx hb dX7_fault_0 rfl (lv_at hl 0 rfl) ?_
  refine xk_get hx hb hts (inX7_fault_X7) hown hK hP 0 (by omega) (ci := 7) e2_obj rfl 0 (by decide) (flX7_fault_61 hts) rfl (.int (σ 0 0)) rfl dX7_fault_1 ?_
  refine xn_eqi (y := ft) hft ?_
  exact xk_iret hx hb hr (vp_nar_int _) X2_ok hK hX hP hS hlk dX7_fault_4 (⟨rfl, hJ⟩)

set_option maxHeartbeats 4000000 in
set_option maxRecDepth 100000 in
theorem a2_ofThing_xo (l : Launch) {D : va_G} {ca : Nat → ClassId} {ad : Nat → Nat} (hI : Ij ad 18) {σ : Sg} {n p g rn : Nat} {d : Nat → Nat} {th rd : Nat → Nat → Nat} {sl sn : Nat → Nat} {sc : Nat → Nat → Int32} {ft tr : Int32} {x : Int32} {w : Int32} (hJ : I2 n p g rn d th rd sl sn sc ft tr σ) (hxx : ∀ j, j < n → x ≠ nI j) : C2i l D ca ad yX7_ofThing wsX7_ofThing { frames := 1, cells := 0, slots := 0, locals := 22 } [.ref (ad 0), .int x, .int w] σ (fun r σ' => r = -1 ∧ I2 n p g rn d th rd sl sn sc ft tr σ') := by
  refine xk_entry cX7_ofThing 3 (some .int) (by decide) rfl (Nat.le_of_ble_eq_true rfl) ?_
  intro pP eE sS mM below meth cC hx hb hml hr hts hown hlk hP hK hX hS ls hl
  have hl : lv_has ls 3 [(0, .ref (ad 0)), (1, .int x), (2, .int w)] := hl
  obtain ⟨hT, hR, hRd, hSh, hnp, hft, htr⟩ := id hJ
  have hn5 := hT.2.2.1
  have hg9 := hT.2.2.2.1
  have hp6 := hR.2.1
  have hrn8 := hRd.2.1
  refine lv_aload_n hx hb dX7_ofThing_0 rfl (lv_at hl 0 rfl) ?_
  refine lv_iload_n hx hb dX7_ofThing_1 rfl (lv_at hl 1 rfl) ?_
  refine xk_fi (va_runV (As := [.int x]) (rest := []) ⟨hx, hb, hml, hown, hts⟩ (k2_isThing_out l hI (x := x) hT (by assumption)) (cwV 1 hts gX7_ofThing_X7_isThing rfl rfl rfl (by decide +kernel) ⟨Nat.le_of_ble_eq_true rfl, Nat.le_of_ble_eq_true rfl⟩) (xk_preV X2_ok hK hX hP (xk_recv hK hP 0 (by omega) (ci := 7) e2_obj rfl)) rfl rfl hl.1 rfl (lv_room (Nat.le_of_ble_eq_true rfl)) dX7_ofThing_2 ⟨Nat.le_of_ble_eq_true rfl, Nat.le_of_ble_eq_true rfl⟩) hS (fun H locs hP hS => ?_)
  refine xn_zne (tgt := 10) hx hb dX7_ofThing_5 (by decide) (by omega) (fun c_5 => absurd c_5 (by omega)) (fun c_5 => ?_)
  refine lv_iconst (v := (-1)) hx hb dX7_ofThing_8 (by decide) ?_
  exact xk_iret hx hb hr (vp_nar_int _) X2_ok hK hX hP hS hlk dX7_ofThing_9 (⟨rfl, hJ⟩)

set_option maxRecDepth 20000 in
theorem flX7_ofThing_22 {s : State} {av : Array Value} (hts : ∀ w ∈ wsX7_ofThing, w.before av s = true) : (Cond.fieldLink RX7 22 "WellBackModel" "kind" "[I").before av s = true := hts _ (by decide +kernel)
set_option maxRecDepth 20000 in
theorem inX7_ofThing_X7 : ∀ w ∈ u_ws RX7 TX7 30, w ∈ wsX7_ofThing := by decide +kernel
set_option maxHeartbeats 4000000 in
set_option maxRecDepth 100000 in
theorem a2_ofThing_0 (l : Launch) {D : va_G} {ca : Nat → ClassId} {ad : Nat → Nat} (hI : Ij ad 18) {σ : Sg} {n p g rn : Nat} {d : Nat → Nat} {th rd : Nat → Nat → Nat} {sl sn : Nat → Nat} {sc : Nat → Nat → Int32} {ft tr : Int32} {x : Nat} (hJ : I2 n p g rn d th rd sl sn sc ft tr σ) (hxn : x < n) : C2i l D ca ad yX7_ofThing wsX7_ofThing { frames := 1, cells := 0, slots := 0, locals := 22 } [.ref (ad 0), .int (nI x), .int (nI 0)] σ (fun r σ' => r = nI (th x 0) ∧ I2 n p g rn d th rd sl sn sc ft tr σ') := by
  refine xk_entry cX7_ofThing 3 (some .int) (by decide) rfl (Nat.le_of_ble_eq_true rfl) ?_
  intro pP eE sS mM below meth cC hx hb hml hr hts hown hlk hP hK hX hS ls hl
  have hl : lv_has ls 3 [(0, .ref (ad 0)), (1, .int (nI x)), (2, .int (nI 0))] := hl
  obtain ⟨hT, hR, hRd, hSh, hnp, hft, htr⟩ := id hJ
  have hn5 := hT.2.2.1
  have hg9 := hT.2.2.2.1
  have hp6 := hR.2.1
  have hrn8 := hRd.2.1
  have hXx := hT.2.2.2.2 x hxn
  obtain ⟨ho0, ho1, ho2, ho3, ho4⟩ := hXx.2
  have hp0 : 0 < p := hnp.mp (by omega)
  refine lv_aload_n hx hb dX7_ofThing_0 rfl (lv_at hl 0 rfl) ?_
  refine lv_iload_n hx hb dX7_ofThing_1 rfl (lv_at hl 1 rfl) ?_
  refine xk_fi (va_runV (As := [.int (nI x)]) (rest := []) ⟨hx, hb, hml, hown, hts⟩ (k2_isThing_in l hI (x := x) hT (by omega)) (cwV 1 hts gX7_ofThing_X7_isThing rfl rfl rfl (by decide +kernel) ⟨Nat.le_of_ble_eq_true rfl, Nat.le_of_ble_eq_true rfl⟩) (xk_preV X2_ok hK hX hP (xk_recv hK hP 0 (by omega) (ci := 7) e2_obj rfl)) rfl rfl hl.1 rfl (lv_room (Nat.le_of_ble_eq_true rfl)) dX7_ofThing_2 ⟨Nat.le_of_ble_eq_true rfl, Nat.le_of_ble_eq_true rfl⟩) hS (fun H locs hP hS => ?_)
  refine xn_zne (tgt := 10) hx hb dX7_ofThing_5 (by decide) (by omega) (fun c_5 => ?_) (fun c_5 => absurd c_5 (by omega))
  refine lv_iload_n hx hb dX7_ofThing_10 rfl (lv_at hl 2 rfl) ?_
  refine lv_tableIn (tgt := 48) hx hb dX7_ofThing_11 (by decide) (by decide) (off := 37) (by decide) (by decide) ?_
  refine lv_aload_n hx hb dX7_ofThing_48 rfl (lv_at hl 0 rfl) ?_
  refine xk_get hx hb hts (inX7_ofThing_X7) hown hK hP 0 (by omega) (ci := 7) e2_obj rfl 9 (by decide) (flX7_ofThing_22 hts) rfl (.ref (ad 5)) rfl dX7_ofThing_49 ?_
  refine lv_iload_n hx hb dX7_ofThing_52 rfl (lv_at hl 1 rfl) ?_
  refine xk_iald hx hb hK hP 5 (by omega) (n := 5) (e2_row 5 (by decide) rfl) rfl x (by omega) (by decide) dX7_ofThing_53 ?_
  refine xn_eqi (y := nI (th x 0)) (hXx.1 0 (by omega)) ?_
  exact xk_iret hx hb hr (vp_nar_int _) X2_ok hK hX hP hS hlk dX7_ofThing_54 (⟨rfl, hJ⟩)

set_option maxRecDepth 20000 in
theorem flX7_ofThing_25 {s : State} {av : Array Value} (hts : ∀ w ∈ wsX7_ofThing, w.before av s = true) : (Cond.fieldLink RX7 25 "WellBackModel" "weight" "[I").before av s = true := hts _ (by decide +kernel)
set_option maxHeartbeats 4000000 in
set_option maxRecDepth 100000 in
theorem a2_ofThing_1 (l : Launch) {D : va_G} {ca : Nat → ClassId} {ad : Nat → Nat} (hI : Ij ad 18) {σ : Sg} {n p g rn : Nat} {d : Nat → Nat} {th rd : Nat → Nat → Nat} {sl sn : Nat → Nat} {sc : Nat → Nat → Int32} {ft tr : Int32} {x : Nat} (hJ : I2 n p g rn d th rd sl sn sc ft tr σ) (hxn : x < n) : C2i l D ca ad yX7_ofThing wsX7_ofThing { frames := 1, cells := 0, slots := 0, locals := 22 } [.ref (ad 0), .int (nI x), .int (nI 1)] σ (fun r σ' => r = nI (th x 1) ∧ I2 n p g rn d th rd sl sn sc ft tr σ') := by
  refine xk_entry cX7_ofThing 3 (some .int) (by decide) rfl (Nat.le_of_ble_eq_true rfl) ?_
  intro pP eE sS mM below meth cC hx hb hml hr hts hown hlk hP hK hX hS ls hl
  have hl : lv_has ls 3 [(0, .ref (ad 0)), (1, .int (nI x)), (2, .int (nI 1))] := hl
  obtain ⟨hT, hR, hRd, hSh, hnp, hft, htr⟩ := id hJ
  have hn5 := hT.2.2.1
  have hg9 := hT.2.2.2.1
  have hp6 := hR.2.1
  have hrn8 := hRd.2.1
  have hXx := hT.2.2.2.2 x hxn
  obtain ⟨ho0, ho1, ho2, ho3, ho4⟩ := hXx.2
  have hp0 : 0 < p := hnp.mp (by omega)
  refine lv_aload_n hx hb dX7_ofThing_0 rfl (lv_at hl 0 rfl) ?_
  refine lv_iload_n hx hb dX7_ofThing_1 rfl (lv_at hl 1 rfl) ?_
  refine xk_fi (va_runV (As := [.int (nI x)]) (rest := []) ⟨hx, hb, hml, hown, hts⟩ (k2_isThing_in l hI (x := x) hT (by omega)) (cwV 1 hts gX7_ofThing_X7_isThing rfl rfl rfl (by decide +kernel) ⟨Nat.le_of_ble_eq_true rfl, Nat.le_of_ble_eq_true rfl⟩) (xk_preV X2_ok hK hX hP (xk_recv hK hP 0 (by omega) (ci := 7) e2_obj rfl)) rfl rfl hl.1 rfl (lv_room (Nat.le_of_ble_eq_true rfl)) dX7_ofThing_2 ⟨Nat.le_of_ble_eq_true rfl, Nat.le_of_ble_eq_true rfl⟩) hS (fun H locs hP hS => ?_)
  refine xn_zne (tgt := 10) hx hb dX7_ofThing_5 (by decide) (by omega) (fun c_5 => ?_) (fun c_5 => absurd c_5 (by omega))
  refine lv_iload_n hx hb dX7_ofThing_10 rfl (lv_at hl 2 rfl) ?_
  refine lv_tableIn (tgt := 55) hx hb dX7_ofThing_11 (by decide) (by decide) (off := 44) (by decide) (by decide) ?_
  refine lv_aload_n hx hb dX7_ofThing_55 rfl (lv_at hl 0 rfl) ?_
  refine xk_get hx hb hts (inX7_ofThing_X7) hown hK hP 0 (by omega) (ci := 7) e2_obj rfl 10 (by decide) (flX7_ofThing_25 hts) rfl (.ref (ad 6)) rfl dX7_ofThing_56 ?_
  refine lv_iload_n hx hb dX7_ofThing_59 rfl (lv_at hl 1 rfl) ?_
  refine xk_iald hx hb hK hP 6 (by omega) (n := 5) (e2_row 5 (by decide) rfl) rfl x (by omega) (by decide) dX7_ofThing_60 ?_
  refine xn_eqi (y := nI (th x 1)) (hXx.1 1 (by omega)) ?_
  exact xk_iret hx hb hr (vp_nar_int _) X2_ok hK hX hP hS hlk dX7_ofThing_61 (⟨rfl, hJ⟩)

set_option maxRecDepth 20000 in
theorem flX7_ofThing_28 {s : State} {av : Array Value} (hts : ∀ w ∈ wsX7_ofThing, w.before av s = true) : (Cond.fieldLink RX7 28 "WellBackModel" "owner" "[I").before av s = true := hts _ (by decide +kernel)
set_option maxHeartbeats 4000000 in
set_option maxRecDepth 100000 in
theorem a2_ofThing_2 (l : Launch) {D : va_G} {ca : Nat → ClassId} {ad : Nat → Nat} (hI : Ij ad 18) {σ : Sg} {n p g rn : Nat} {d : Nat → Nat} {th rd : Nat → Nat → Nat} {sl sn : Nat → Nat} {sc : Nat → Nat → Int32} {ft tr : Int32} {x : Nat} (hJ : I2 n p g rn d th rd sl sn sc ft tr σ) (hxn : x < n) : C2i l D ca ad yX7_ofThing wsX7_ofThing { frames := 1, cells := 0, slots := 0, locals := 22 } [.ref (ad 0), .int (nI x), .int (nI 2)] σ (fun r σ' => r = nI (th x 2) ∧ I2 n p g rn d th rd sl sn sc ft tr σ') := by
  refine xk_entry cX7_ofThing 3 (some .int) (by decide) rfl (Nat.le_of_ble_eq_true rfl) ?_
  intro pP eE sS mM below meth cC hx hb hml hr hts hown hlk hP hK hX hS ls hl
  have hl : lv_has ls 3 [(0, .ref (ad 0)), (1, .int (nI x)), (2, .int (nI 2))] := hl
  obtain ⟨hT, hR, hRd, hSh, hnp, hft, htr⟩ := id hJ
  have hn5 := hT.2.2.1
  have hg9 := hT.2.2.2.1
  have hp6 := hR.2.1
  have hrn8 := hRd.2.1
  have hXx := hT.2.2.2.2 x hxn
  obtain ⟨ho0, ho1, ho2, ho3, ho4⟩ := hXx.2
  have hp0 : 0 < p := hnp.mp (by omega)
  refine lv_aload_n hx hb dX7_ofThing_0 rfl (lv_at hl 0 rfl) ?_
  refine lv_iload_n hx hb dX7_ofThing_1 rfl (lv_at hl 1 rfl) ?_
  refine xk_fi (va_runV (As := [.int (nI x)]) (rest := []) ⟨hx, hb, hml, hown, hts⟩ (k2_isThing_in l hI (x := x) hT (by omega)) (cwV 1 hts gX7_ofThing_X7_isThing rfl rfl rfl (by decide +kernel) ⟨Nat.le_of_ble_eq_true rfl, Nat.le_of_ble_eq_true rfl⟩) (xk_preV X2_ok hK hX hP (xk_recv hK hP 0 (by omega) (ci := 7) e2_obj rfl)) rfl rfl hl.1 rfl (lv_room (Nat.le_of_ble_eq_true rfl)) dX7_ofThing_2 ⟨Nat.le_of_ble_eq_true rfl, Nat.le_of_ble_eq_true rfl⟩) hS (fun H locs hP hS => ?_)
  refine xn_zne (tgt := 10) hx hb dX7_ofThing_5 (by decide) (by omega) (fun c_5 => ?_) (fun c_5 => absurd c_5 (by omega))
  refine lv_iload_n hx hb dX7_ofThing_10 rfl (lv_at hl 2 rfl) ?_
  refine lv_tableIn (tgt := 62) hx hb dX7_ofThing_11 (by decide) (by decide) (off := 51) (by decide) (by decide) ?_
  refine lv_aload_n hx hb dX7_ofThing_62 rfl (lv_at hl 0 rfl) ?_
  refine xk_get hx hb hts (inX7_ofThing_X7) hown hK hP 0 (by omega) (ci := 7) e2_obj rfl 11 (by decide) (flX7_ofThing_28 hts) rfl (.ref (ad 7)) rfl dX7_ofThing_63 ?_
  refine lv_iload_n hx hb dX7_ofThing_66 rfl (lv_at hl 1 rfl) ?_
  refine xk_iald hx hb hK hP 7 (by omega) (n := 5) (e2_row 5 (by decide) rfl) rfl x (by omega) (by decide) dX7_ofThing_67 ?_
  refine xn_eqi (y := nI (th x 2)) (hXx.1 2 (by omega)) ?_
  exact xk_iret hx hb hr (vp_nar_int _) X2_ok hK hX hP hS hlk dX7_ofThing_68 (⟨rfl, hJ⟩)

set_option maxRecDepth 20000 in
theorem flX7_ofThing_31 {s : State} {av : Array Value} (hts : ∀ w ∈ wsX7_ofThing, w.before av s = true) : (Cond.fieldLink RX7 31 "WellBackModel" "goal" "[I").before av s = true := hts _ (by decide +kernel)
set_option maxHeartbeats 4000000 in
set_option maxRecDepth 100000 in
theorem a2_ofThing_3 (l : Launch) {D : va_G} {ca : Nat → ClassId} {ad : Nat → Nat} (hI : Ij ad 18) {σ : Sg} {n p g rn : Nat} {d : Nat → Nat} {th rd : Nat → Nat → Nat} {sl sn : Nat → Nat} {sc : Nat → Nat → Int32} {ft tr : Int32} {x : Nat} (hJ : I2 n p g rn d th rd sl sn sc ft tr σ) (hxn : x < n) : C2i l D ca ad yX7_ofThing wsX7_ofThing { frames := 1, cells := 0, slots := 0, locals := 22 } [.ref (ad 0), .int (nI x), .int (nI 3)] σ (fun r σ' => r = nI (th x 3) ∧ I2 n p g rn d th rd sl sn sc ft tr σ') := by
  refine xk_entry cX7_ofThing 3 (some .int) (by decide) rfl (Nat.le_of_ble_eq_true rfl) ?_
  intro pP eE sS mM below meth cC hx hb hml hr hts hown hlk hP hK hX hS ls hl
  have hl : lv_has ls 3 [(0, .ref (ad 0)), (1, .int (nI x)), (2, .int (nI 3))] := hl
  obtain ⟨hT, hR, hRd, hSh, hnp, hft, htr⟩ := id hJ
  have hn5 := hT.2.2.1
  have hg9 := hT.2.2.2.1
  have hp6 := hR.2.1
  have hrn8 := hRd.2.1
  have hXx := hT.2.2.2.2 x hxn
  obtain ⟨ho0, ho1, ho2, ho3, ho4⟩ := hXx.2
  have hp0 : 0 < p := hnp.mp (by omega)
  refine lv_aload_n hx hb dX7_ofThing_0 rfl (lv_at hl 0 rfl) ?_
  refine lv_iload_n hx hb dX7_ofThing_1 rfl (lv_at hl 1 rfl) ?_
  refine xk_fi (va_runV (As := [.int (nI x)]) (rest := []) ⟨hx, hb, hml, hown, hts⟩ (k2_isThing_in l hI (x := x) hT (by omega)) (cwV 1 hts gX7_ofThing_X7_isThing rfl rfl rfl (by decide +kernel) ⟨Nat.le_of_ble_eq_true rfl, Nat.le_of_ble_eq_true rfl⟩) (xk_preV X2_ok hK hX hP (xk_recv hK hP 0 (by omega) (ci := 7) e2_obj rfl)) rfl rfl hl.1 rfl (lv_room (Nat.le_of_ble_eq_true rfl)) dX7_ofThing_2 ⟨Nat.le_of_ble_eq_true rfl, Nat.le_of_ble_eq_true rfl⟩) hS (fun H locs hP hS => ?_)
  refine xn_zne (tgt := 10) hx hb dX7_ofThing_5 (by decide) (by omega) (fun c_5 => ?_) (fun c_5 => absurd c_5 (by omega))
  refine lv_iload_n hx hb dX7_ofThing_10 rfl (lv_at hl 2 rfl) ?_
  refine lv_tableIn (tgt := 69) hx hb dX7_ofThing_11 (by decide) (by decide) (off := 58) (by decide) (by decide) ?_
  refine lv_aload_n hx hb dX7_ofThing_69 rfl (lv_at hl 0 rfl) ?_
  refine xk_get hx hb hts (inX7_ofThing_X7) hown hK hP 0 (by omega) (ci := 7) e2_obj rfl 12 (by decide) (flX7_ofThing_31 hts) rfl (.ref (ad 8)) rfl dX7_ofThing_70 ?_
  refine lv_iload_n hx hb dX7_ofThing_73 rfl (lv_at hl 1 rfl) ?_
  refine xk_iald hx hb hK hP 8 (by omega) (n := 5) (e2_row 5 (by decide) rfl) rfl x (by omega) (by decide) dX7_ofThing_74 ?_
  refine xn_eqi (y := nI (th x 3)) (hXx.1 3 (by omega)) ?_
  exact xk_iret hx hb hr (vp_nar_int _) X2_ok hK hX hP hS hlk dX7_ofThing_75 (⟨rfl, hJ⟩)

set_option maxRecDepth 20000 in
theorem flX7_ofThing_34 {s : State} {av : Array Value} (hts : ∀ w ∈ wsX7_ofThing, w.before av s = true) : (Cond.fieldLink RX7 34 "WellBackModel" "hourOf" "[I").before av s = true := hts _ (by decide +kernel)
set_option maxHeartbeats 4000000 in
set_option maxRecDepth 100000 in
theorem a2_ofThing_4 (l : Launch) {D : va_G} {ca : Nat → ClassId} {ad : Nat → Nat} (hI : Ij ad 18) {σ : Sg} {n p g rn : Nat} {d : Nat → Nat} {th rd : Nat → Nat → Nat} {sl sn : Nat → Nat} {sc : Nat → Nat → Int32} {ft tr : Int32} {x : Nat} (hJ : I2 n p g rn d th rd sl sn sc ft tr σ) (hxn : x < n) : C2i l D ca ad yX7_ofThing wsX7_ofThing { frames := 1, cells := 0, slots := 0, locals := 22 } [.ref (ad 0), .int (nI x), .int (nI 4)] σ (fun r σ' => r = nI (th x 4) ∧ I2 n p g rn d th rd sl sn sc ft tr σ') := by
  refine xk_entry cX7_ofThing 3 (some .int) (by decide) rfl (Nat.le_of_ble_eq_true rfl) ?_
  intro pP eE sS mM below meth cC hx hb hml hr hts hown hlk hP hK hX hS ls hl
  have hl : lv_has ls 3 [(0, .ref (ad 0)), (1, .int (nI x)), (2, .int (nI 4))] := hl
  obtain ⟨hT, hR, hRd, hSh, hnp, hft, htr⟩ := id hJ
  have hn5 := hT.2.2.1
  have hg9 := hT.2.2.2.1
  have hp6 := hR.2.1
  have hrn8 := hRd.2.1
  have hXx := hT.2.2.2.2 x hxn
  obtain ⟨ho0, ho1, ho2, ho3, ho4⟩ := hXx.2
  have hp0 : 0 < p := hnp.mp (by omega)
  refine lv_aload_n hx hb dX7_ofThing_0 rfl (lv_at hl 0 rfl) ?_
  refine lv_iload_n hx hb dX7_ofThing_1 rfl (lv_at hl 1 rfl) ?_
  refine xk_fi (va_runV (As := [.int (nI x)]) (rest := []) ⟨hx, hb, hml, hown, hts⟩ (k2_isThing_in l hI (x := x) hT (by omega)) (cwV 1 hts gX7_ofThing_X7_isThing rfl rfl rfl (by decide +kernel) ⟨Nat.le_of_ble_eq_true rfl, Nat.le_of_ble_eq_true rfl⟩) (xk_preV X2_ok hK hX hP (xk_recv hK hP 0 (by omega) (ci := 7) e2_obj rfl)) rfl rfl hl.1 rfl (lv_room (Nat.le_of_ble_eq_true rfl)) dX7_ofThing_2 ⟨Nat.le_of_ble_eq_true rfl, Nat.le_of_ble_eq_true rfl⟩) hS (fun H locs hP hS => ?_)
  refine xn_zne (tgt := 10) hx hb dX7_ofThing_5 (by decide) (by omega) (fun c_5 => ?_) (fun c_5 => absurd c_5 (by omega))
  refine lv_iload_n hx hb dX7_ofThing_10 rfl (lv_at hl 2 rfl) ?_
  refine lv_tableIn (tgt := 76) hx hb dX7_ofThing_11 (by decide) (by decide) (off := 65) (by decide) (by decide) ?_
  refine lv_aload_n hx hb dX7_ofThing_76 rfl (lv_at hl 0 rfl) ?_
  refine xk_get hx hb hts (inX7_ofThing_X7) hown hK hP 0 (by omega) (ci := 7) e2_obj rfl 13 (by decide) (flX7_ofThing_34 hts) rfl (.ref (ad 9)) rfl dX7_ofThing_77 ?_
  refine lv_iload_n hx hb dX7_ofThing_80 rfl (lv_at hl 1 rfl) ?_
  refine xk_iald hx hb hK hP 9 (by omega) (n := 5) (e2_row 5 (by decide) rfl) rfl x (by omega) (by decide) dX7_ofThing_81 ?_
  refine xn_eqi (y := nI (th x 4)) (hXx.1 4 (by omega)) ?_
  exact xk_iret hx hb hr (vp_nar_int _) X2_ok hK hX hP hS hlk dX7_ofThing_82 (⟨rfl, hJ⟩)

set_option maxHeartbeats 4000000 in
set_option maxRecDepth 100000 in
theorem a2_ofThing_5 (l : Launch) {D : va_G} {ca : Nat → ClassId} {ad : Nat → Nat} (hI : Ij ad 18) {σ : Sg} {n p g rn : Nat} {d : Nat → Nat} {th rd : Nat → Nat → Nat} {sl sn : Nat → Nat} {sc : Nat → Nat → Int32} {ft tr : Int32} {x : Nat} (hJ : I2 n p g rn d th rd sl sn sc ft tr σ) (hxn : x < n) : C2i l D ca ad yX7_ofThing wsX7_ofThing { frames := 1, cells := 0, slots := 0, locals := 22 } [.ref (ad 0), .int (nI x), .int (nI 5)] σ (fun r σ' => r = nI (dl g th x) ∧ I2 n p g rn d th rd sl sn sc ft tr σ') := by
  refine xk_entry cX7_ofThing 3 (some .int) (by decide) rfl (Nat.le_of_ble_eq_true rfl) ?_
  intro pP eE sS mM below meth cC hx hb hml hr hts hown hlk hP hK hX hS ls hl
  have hl : lv_has ls 3 [(0, .ref (ad 0)), (1, .int (nI x)), (2, .int (nI 5))] := hl
  obtain ⟨hT, hR, hRd, hSh, hnp, hft, htr⟩ := id hJ
  have hn5 := hT.2.2.1
  have hg9 := hT.2.2.2.1
  have hp6 := hR.2.1
  have hrn8 := hRd.2.1
  have hXx := hT.2.2.2.2 x hxn
  obtain ⟨ho0, ho1, ho2, ho3, ho4⟩ := hXx.2
  have hp0 : 0 < p := hnp.mp (by omega)
  refine lv_aload_n hx hb dX7_ofThing_0 rfl (lv_at hl 0 rfl) ?_
  refine lv_iload_n hx hb dX7_ofThing_1 rfl (lv_at hl 1 rfl) ?_
  refine xk_fi (va_runV (As := [.int (nI x)]) (rest := []) ⟨hx, hb, hml, hown, hts⟩ (k2_isThing_in l hI (x := x) hT (by omega)) (cwV 1 hts gX7_ofThing_X7_isThing rfl rfl rfl (by decide +kernel) ⟨Nat.le_of_ble_eq_true rfl, Nat.le_of_ble_eq_true rfl⟩) (xk_preV X2_ok hK hX hP (xk_recv hK hP 0 (by omega) (ci := 7) e2_obj rfl)) rfl rfl hl.1 rfl (lv_room (Nat.le_of_ble_eq_true rfl)) dX7_ofThing_2 ⟨Nat.le_of_ble_eq_true rfl, Nat.le_of_ble_eq_true rfl⟩) hS (fun H locs hP hS => ?_)
  refine xn_zne (tgt := 10) hx hb dX7_ofThing_5 (by decide) (by omega) (fun c_5 => ?_) (fun c_5 => absurd c_5 (by omega))
  refine lv_iload_n hx hb dX7_ofThing_10 rfl (lv_at hl 2 rfl) ?_
  refine lv_tableIn (tgt := 83) hx hb dX7_ofThing_11 (by decide) (by decide) (off := 72) (by decide) (by decide) ?_
  refine lv_aload_n hx hb dX7_ofThing_83 rfl (lv_at hl 0 rfl) ?_
  refine lv_iload_n hx hb dX7_ofThing_84 rfl (lv_at hl 1 rfl) ?_
  refine xk_fi (va_runV (As := [.int (nI x)]) (rest := []) ⟨hx, hb, hml, hown, hts⟩ (k2_delay l hI (x := x) hT hxn) (cwV 1 hts gX7_ofThing_X7_delay rfl rfl rfl (by decide +kernel) ⟨Nat.le_of_ble_eq_true rfl, Nat.le_of_ble_eq_true rfl⟩) (xk_preV X2_ok hK hX hP (xk_recv hK hP 0 (by omega) (ci := 7) e2_obj rfl)) rfl rfl hl.1 rfl (lv_room (Nat.le_of_ble_eq_true rfl)) dX7_ofThing_85 ⟨Nat.le_of_ble_eq_true rfl, Nat.le_of_ble_eq_true rfl⟩) hS (fun H locs hP hS => ?_)
  exact xk_iret hx hb hr (vp_nar_int _) X2_ok hK hX hP hS hlk dX7_ofThing_88 (⟨rfl, hJ⟩)

set_option maxHeartbeats 4000000 in
set_option maxRecDepth 100000 in
theorem a2_ofThing_wo (l : Launch) {D : va_G} {ca : Nat → ClassId} {ad : Nat → Nat} (hI : Ij ad 18) {σ : Sg} {n p g rn : Nat} {d : Nat → Nat} {th rd : Nat → Nat → Nat} {sl sn : Nat → Nat} {sc : Nat → Nat → Int32} {ft tr : Int32} {x : Nat} {w : Int32} (hJ : I2 n p g rn d th rd sl sn sc ft tr σ) (hxn : x < n) (hw : ¬ (nI 0 ≤ w ∧ w ≤ nI 5)) : C2i l D ca ad yX7_ofThing wsX7_ofThing { frames := 1, cells := 0, slots := 0, locals := 22 } [.ref (ad 0), .int (nI x), .int w] σ (fun r σ' => r = -2 ∧ I2 n p g rn d th rd sl sn sc ft tr σ') := by
  refine xk_entry cX7_ofThing 3 (some .int) (by decide) rfl (Nat.le_of_ble_eq_true rfl) ?_
  intro pP eE sS mM below meth cC hx hb hml hr hts hown hlk hP hK hX hS ls hl
  have hl : lv_has ls 3 [(0, .ref (ad 0)), (1, .int (nI x)), (2, .int w)] := hl
  obtain ⟨hT, hR, hRd, hSh, hnp, hft, htr⟩ := id hJ
  have hn5 := hT.2.2.1
  have hg9 := hT.2.2.2.1
  have hp6 := hR.2.1
  have hrn8 := hRd.2.1
  have hXx := hT.2.2.2.2 x hxn
  obtain ⟨ho0, ho1, ho2, ho3, ho4⟩ := hXx.2
  have hp0 : 0 < p := hnp.mp (by omega)
  refine lv_aload_n hx hb dX7_ofThing_0 rfl (lv_at hl 0 rfl) ?_
  refine lv_iload_n hx hb dX7_ofThing_1 rfl (lv_at hl 1 rfl) ?_
  refine xk_fi (va_runV (As := [.int (nI x)]) (rest := []) ⟨hx, hb, hml, hown, hts⟩ (k2_isThing_in l hI (x := x) hT (by omega)) (cwV 1 hts gX7_ofThing_X7_isThing rfl rfl rfl (by decide +kernel) ⟨Nat.le_of_ble_eq_true rfl, Nat.le_of_ble_eq_true rfl⟩) (xk_preV X2_ok hK hX hP (xk_recv hK hP 0 (by omega) (ci := 7) e2_obj rfl)) rfl rfl hl.1 rfl (lv_room (Nat.le_of_ble_eq_true rfl)) dX7_ofThing_2 ⟨Nat.le_of_ble_eq_true rfl, Nat.le_of_ble_eq_true rfl⟩) hS (fun H locs hP hS => ?_)
  refine xn_zne (tgt := 10) hx hb dX7_ofThing_5 (by decide) (by omega) (fun c_5 => ?_) (fun c_5 => absurd c_5 (by omega))
  refine lv_iload_n hx hb dX7_ofThing_10 rfl (lv_at hl 2 rfl) ?_
  refine lv_tableOut (tgt := 89) hx hb dX7_ofThing_11 (xn_tab hw) (by decide) ?_
  refine lv_bipush (v := (-2)) hx hb dX7_ofThing_89 (by decide) ?_
  exact xk_iret hx hb hr (vp_nar_int _) X2_ok hK hX hP hS hlk dX7_ofThing_91 (⟨rfl, hJ⟩)

set_option maxRecDepth 20000 in
theorem flX7_draws_107 {s : State} {av : Array Value} (hts : ∀ w ∈ wsX7_draws, w.before av s = true) : (Cond.fieldLink RX7 107 "WellBackModel" "places" "I").before av s = true := hts _ (by decide +kernel)
set_option maxRecDepth 20000 in
theorem inX7_draws_X7 : ∀ w ∈ u_ws RX7 TX7 30, w ∈ wsX7_draws := by decide +kernel
set_option maxHeartbeats 4000000 in
set_option maxRecDepth 100000 in
theorem a2_draws_no (l : Launch) {D : va_G} {ca : Nat → ClassId} {ad : Nat → Nat} (hI : Ij ad 18) {σ : Sg} {n p g rn : Nat} {d : Nat → Nat} {th rd : Nat → Nat → Nat} {sl sn : Nat → Nat} {sc : Nat → Nat → Int32} {ft tr : Int32} {h : Int32} (hJ : I2 n p g rn d th rd sl sn sc ft tr σ) (hn0 : n = 0) : C2i l D ca ad yX7_draws wsX7_draws { frames := 1, cells := 0, slots := 0, locals := 22 } [.ref (ad 0), .int h] σ (fun r σ' => r = -3 ∧ I2 n p g rn d th rd sl sn sc ft tr σ') := by
  refine xk_entry cX7_draws 2 (some .int) (by decide) rfl (Nat.le_of_ble_eq_true rfl) ?_
  intro pP eE sS mM below meth cC hx hb hml hr hts hown hlk hP hK hX hS ls hl
  have hl : lv_has ls 2 [(0, .ref (ad 0)), (1, .int h)] := hl
  obtain ⟨hT, hR, hRd, hSh, hnp, hft, htr⟩ := id hJ
  have hn5 := hT.2.2.1
  have hg9 := hT.2.2.2.1
  have hp6 := hR.2.1
  have hrn8 := hRd.2.1
  have hp0z : p = 0 := by omega
  refine lv_aload_n hx hb dX7_draws_0 rfl (lv_at hl 0 rfl) ?_
  refine xk_get hx hb hts (inX7_draws_X7) hown hK hP 0 (by omega) (ci := 7) e2_obj rfl 6 (by decide) (flX7_draws_107 hts) rfl (.int (σ 0 6)) rfl dX7_draws_1 ?_
  refine xn_eqi (y := nI p) hR.1 ?_
  refine xn_zne (tgt := 10) hx hb dX7_draws_4 (by decide) (by omega) (fun c_4 => absurd c_4 (by omega)) (fun c_4 => ?_)
  refine lv_bipush (v := (-3)) hx hb dX7_draws_7 (by decide) ?_
  exact xk_iret hx hb hr (vp_nar_int _) X2_ok hK hX hP hS hlk dX7_draws_9 (⟨rfl, hJ⟩)

set_option maxHeartbeats 4000000 in
set_option maxRecDepth 100000 in
theorem a2_draws_ho (l : Launch) {D : va_G} {ca : Nat → ClassId} {ad : Nat → Nat} (hI : Ij ad 18) {σ : Sg} {n p g rn : Nat} {d : Nat → Nat} {th rd : Nat → Nat → Nat} {sl sn : Nat → Nat} {sc : Nat → Nat → Int32} {ft tr : Int32} {h : Int32} (hJ : I2 n p g rn d th rd sl sn sc ft tr σ) (hn0 : 0 < n) (hho : ¬ (nI 0 ≤ h ∧ h ≤ nI 99)) : C2i l D ca ad yX7_draws wsX7_draws { frames := 1, cells := 0, slots := 0, locals := 22 } [.ref (ad 0), .int h] σ (fun r σ' => r = -2 ∧ I2 n p g rn d th rd sl sn sc ft tr σ') := by
  refine xk_entry cX7_draws 2 (some .int) (by decide) rfl (Nat.le_of_ble_eq_true rfl) ?_
  intro pP eE sS mM below meth cC hx hb hml hr hts hown hlk hP hK hX hS ls hl
  have hl : lv_has ls 2 [(0, .ref (ad 0)), (1, .int h)] := hl
  obtain ⟨hT, hR, hRd, hSh, hnp, hft, htr⟩ := id hJ
  have hn5 := hT.2.2.1
  have hg9 := hT.2.2.2.1
  have hp6 := hR.2.1
  have hrn8 := hRd.2.1
  have hp0 : 0 < p := hnp.mp (by omega)
  refine lv_aload_n hx hb dX7_draws_0 rfl (lv_at hl 0 rfl) ?_
  refine xk_get hx hb hts (inX7_draws_X7) hown hK hP 0 (by omega) (ci := 7) e2_obj rfl 6 (by decide) (flX7_draws_107 hts) rfl (.int (σ 0 6)) rfl dX7_draws_1 ?_
  refine xn_eqi (y := nI p) hR.1 ?_
  refine xn_zne (tgt := 10) hx hb dX7_draws_4 (by decide) (by omega) (fun c_4 => ?_) (fun c_4 => absurd c_4 (by omega))
  refine lv_iload_n hx hb dX7_draws_10 rfl (lv_at hl 1 rfl) ?_
  refine lv_iconst (v := nI 0) hx hb dX7_draws_11 (by decide) ?_
  refine lv_bipush (v := nI 99) hx hb dX7_draws_12 (by decide) ?_
  refine xk_fi (va_runS (As := [.int h, .int (nI 0), .int (nI 99)]) (rest := []) ⟨hx, hb, hml, hown, hts⟩ (k2_within_f l hI h (nI 0) (nI 99) (by assumption)) (va_cwS 3 hts gX7_draws_X7_within rfl rfl rfl (by decide +kernel) ⟨Nat.le_of_ble_eq_true rfl, Nat.le_of_ble_eq_true rfl⟩) (xk_preS X2_ok hK hX hP) rfl rfl hl.1 rfl (lv_room (Nat.le_of_ble_eq_true rfl)) dX7_draws_14 ⟨Nat.le_of_ble_eq_true rfl, Nat.le_of_ble_eq_true rfl⟩) hS (fun H locs hP hS => ?_)
  refine xn_zeq (tgt := 34) hx hb dX7_draws_17 (by decide) (by omega) (fun c_17 => ?_) (fun c_17 => absurd c_17 (by omega))
  refine lv_bipush (v := (-2)) hx hb dX7_draws_34 (by decide) ?_
  exact xk_iret hx hb hr (vp_nar_int _) X2_ok hK hX hP hS hlk dX7_draws_36 (⟨rfl, hJ⟩)

set_option maxRecDepth 20000 in
theorem flX7_draws_19 {s : State} {av : Array Value} (hts : ∀ w ∈ wsX7_draws, w.before av s = true) : (Cond.fieldLink RX7 19 "WellBackModel" "rota" "[I").before av s = true := hts _ (by decide +kernel)
set_option maxHeartbeats 4000000 in
set_option maxRecDepth 100000 in
theorem a2_draws_ok (l : Launch) {D : va_G} {ca : Nat → ClassId} {ad : Nat → Nat} (hI : Ij ad 18) {σ : Sg} {n p g rn : Nat} {d : Nat → Nat} {th rd : Nat → Nat → Nat} {sl sn : Nat → Nat} {sc : Nat → Nat → Int32} {ft tr : Int32} {h : Nat} (hJ : I2 n p g rn d th rd sl sn sc ft tr σ) (hn0 : 0 < n) (hh : h ≤ 99) : C2i l D ca ad yX7_draws wsX7_draws { frames := 1, cells := 0, slots := 0, locals := 22 } [.ref (ad 0), .int (nI h)] σ (fun r σ' => r = nI (d (h % p)) ∧ I2 n p g rn d th rd sl sn sc ft tr σ') := by
  refine xk_entry cX7_draws 2 (some .int) (by decide) rfl (Nat.le_of_ble_eq_true rfl) ?_
  intro pP eE sS mM below meth cC hx hb hml hr hts hown hlk hP hK hX hS ls hl
  have hl : lv_has ls 2 [(0, .ref (ad 0)), (1, .int (nI h))] := hl
  obtain ⟨hT, hR, hRd, hSh, hnp, hft, htr⟩ := id hJ
  have hn5 := hT.2.2.1
  have hg9 := hT.2.2.2.1
  have hp6 := hR.2.1
  have hrn8 := hRd.2.1
  have hp0 : 0 < p := hnp.mp (by omega)
  have hmd := Nat.mod_lt h hp0
  refine lv_aload_n hx hb dX7_draws_0 rfl (lv_at hl 0 rfl) ?_
  refine xk_get hx hb hts (inX7_draws_X7) hown hK hP 0 (by omega) (ci := 7) e2_obj rfl 6 (by decide) (flX7_draws_107 hts) rfl (.int (σ 0 6)) rfl dX7_draws_1 ?_
  refine xn_eqi (y := nI p) hR.1 ?_
  refine xn_zne (tgt := 10) hx hb dX7_draws_4 (by decide) (by omega) (fun c_4 => ?_) (fun c_4 => absurd c_4 (by omega))
  refine lv_iload_n hx hb dX7_draws_10 rfl (lv_at hl 1 rfl) ?_
  refine lv_iconst (v := nI 0) hx hb dX7_draws_11 (by decide) ?_
  refine lv_bipush (v := nI 99) hx hb dX7_draws_12 (by decide) ?_
  refine xk_fi (va_runS (As := [.int (nI h), .int (nI 0), .int (nI 99)]) (rest := []) ⟨hx, hb, hml, hown, hts⟩ (k2_within_t l hI (nI h) (nI 0) (nI 99) (xn_in (by omega) (by omega) (by omega))) (va_cwS 3 hts gX7_draws_X7_within rfl rfl rfl (by decide +kernel) ⟨Nat.le_of_ble_eq_true rfl, Nat.le_of_ble_eq_true rfl⟩) (xk_preS X2_ok hK hX hP) rfl rfl hl.1 rfl (lv_room (Nat.le_of_ble_eq_true rfl)) dX7_draws_14 ⟨Nat.le_of_ble_eq_true rfl, Nat.le_of_ble_eq_true rfl⟩) hS (fun H locs hP hS => ?_)
  refine xn_zeq (tgt := 34) hx hb dX7_draws_17 (by decide) (by omega) (fun c_17 => absurd c_17 (by omega)) (fun c_17 => ?_)
  refine lv_aload_n hx hb dX7_draws_20 rfl (lv_at hl 0 rfl) ?_
  refine xk_get hx hb hts (inX7_draws_X7) hown hK hP 0 (by omega) (ci := 7) e2_obj rfl 8 (by decide) (flX7_draws_19 hts) rfl (.ref (ad 4)) rfl dX7_draws_21 ?_
  refine lv_iload_n hx hb dX7_draws_24 rfl (lv_at hl 1 rfl) ?_
  refine lv_aload_n hx hb dX7_draws_25 rfl (lv_at hl 0 rfl) ?_
  refine xk_get hx hb hts (inX7_draws_X7) hown hK hP 0 (by omega) (ci := 7) e2_obj rfl 6 (by decide) (flX7_draws_107 hts) rfl (.int (σ 0 6)) rfl dX7_draws_26 ?_
  refine xn_eqi (y := nI p) hR.1 ?_
  refine xn_irem hx hb (by omega) (by omega) (by omega) dX7_draws_29 ?_
  refine xk_iald hx hb hK hP 4 (by omega) (n := 6) (e2_row 6 (by decide) rfl) rfl (h % p) (by omega) (by decide) dX7_draws_30 ?_
  refine xn_eqi (y := nI (d (h % p))) ((hR.2.2 _ (by omega)).1) ?_
  refine lv_goto (tgt := 36) hx hb dX7_draws_31 (by decide) ?_
  exact xk_iret hx hb hr (vp_nar_int _) X2_ok hK hX hP hS hlk dX7_draws_36 (⟨rfl, hJ⟩)

set_option maxHeartbeats 4000000 in
set_option maxRecDepth 100000 in
theorem a2_weigh_xo (l : Launch) {D : va_G} {ca : Nat → ClassId} {ad : Nat → Nat} (hI : Ij ad 18) {σ : Sg} {n p g rn : Nat} {d : Nat → Nat} {th rd : Nat → Nat → Nat} {sl sn : Nat → Nat} {sc : Nat → Nat → Int32} {ft tr : Int32} {x : Int32} {v : Int32} (hJ : I2 n p g rn d th rd sl sn sc ft tr σ) (hxx : ∀ j, j < n → x ≠ nI j) : C2i l D ca ad yX7_weigh wsX7_weigh { frames := 1, cells := 0, slots := 0, locals := 22 } [.ref (ad 0), .int x, .int v] σ (fun r σ' => r = -1 ∧ I2 n p g rn d th rd sl sn sc ft tr σ') := by
  refine xk_entry cX7_weigh 4 (some .int) (by decide) rfl (Nat.le_of_ble_eq_true rfl) ?_
  intro pP eE sS mM below meth cC hx hb hml hr hts hown hlk hP hK hX hS ls hl
  have hl : lv_has ls 4 [(0, .ref (ad 0)), (1, .int x), (2, .int v)] := hl
  obtain ⟨hT, hR, hRd, hSh, hnp, hft, htr⟩ := id hJ
  have hn5 := hT.2.2.1
  have hg9 := hT.2.2.2.1
  have hp6 := hR.2.1
  have hrn8 := hRd.2.1
  refine lv_aload_n hx hb dX7_weigh_0 rfl (lv_at hl 0 rfl) ?_
  refine lv_iload_n hx hb dX7_weigh_1 rfl (lv_at hl 1 rfl) ?_
  refine xk_fi (va_runV (As := [.int x]) (rest := []) ⟨hx, hb, hml, hown, hts⟩ (k2_isThing_out l hI (x := x) hT (by assumption)) (cwV 1 hts gX7_weigh_X7_isThing rfl rfl rfl (by decide +kernel) ⟨Nat.le_of_ble_eq_true rfl, Nat.le_of_ble_eq_true rfl⟩) (xk_preV X2_ok hK hX hP (xk_recv hK hP 0 (by omega) (ci := 7) e2_obj rfl)) rfl rfl hl.1 rfl (lv_room (Nat.le_of_ble_eq_true rfl)) dX7_weigh_2 ⟨Nat.le_of_ble_eq_true rfl, Nat.le_of_ble_eq_true rfl⟩) hS (fun H locs hP hS => ?_)
  refine xn_zne (tgt := 10) hx hb dX7_weigh_5 (by decide) (by omega) (fun c_5 => absurd c_5 (by omega)) (fun c_5 => ?_)
  refine lv_iconst (v := (-1)) hx hb dX7_weigh_8 (by decide) ?_
  exact xk_iret hx hb hr (vp_nar_int _) X2_ok hK hX hP hS hlk dX7_weigh_9 (⟨rfl, hJ⟩)

set_option maxHeartbeats 4000000 in
set_option maxRecDepth 100000 in
theorem a2_weigh_vo (l : Launch) {D : va_G} {ca : Nat → ClassId} {ad : Nat → Nat} (hI : Ij ad 18) {σ : Sg} {n p g rn : Nat} {d : Nat → Nat} {th rd : Nat → Nat → Nat} {sl sn : Nat → Nat} {sc : Nat → Nat → Int32} {ft tr : Int32} {x : Nat} {v : Int32} (hJ : I2 n p g rn d th rd sl sn sc ft tr σ) (hxn : x < n) (hvo : ¬ (nI 0 ≤ v ∧ v ≤ nI 9)) : C2i l D ca ad yX7_weigh wsX7_weigh { frames := 1, cells := 0, slots := 0, locals := 22 } [.ref (ad 0), .int (nI x), .int v] σ (fun r σ' => r = -2 ∧ I2 n p g rn d th rd sl sn sc ft tr σ') := by
  refine xk_entry cX7_weigh 4 (some .int) (by decide) rfl (Nat.le_of_ble_eq_true rfl) ?_
  intro pP eE sS mM below meth cC hx hb hml hr hts hown hlk hP hK hX hS ls hl
  have hl : lv_has ls 4 [(0, .ref (ad 0)), (1, .int (nI x)), (2, .int v)] := hl
  obtain ⟨hT, hR, hRd, hSh, hnp, hft, htr⟩ := id hJ
  have hn5 := hT.2.2.1
  have hg9 := hT.2.2.2.1
  have hp6 := hR.2.1
  have hrn8 := hRd.2.1
  have hXx := hT.2.2.2.2 x hxn
  obtain ⟨ho0, ho1, ho2, ho3, ho4⟩ := hXx.2
  have hp0 : 0 < p := hnp.mp (by omega)
  refine lv_aload_n hx hb dX7_weigh_0 rfl (lv_at hl 0 rfl) ?_
  refine lv_iload_n hx hb dX7_weigh_1 rfl (lv_at hl 1 rfl) ?_
  refine xk_fi (va_runV (As := [.int (nI x)]) (rest := []) ⟨hx, hb, hml, hown, hts⟩ (k2_isThing_in l hI (x := x) hT (by omega)) (cwV 1 hts gX7_weigh_X7_isThing rfl rfl rfl (by decide +kernel) ⟨Nat.le_of_ble_eq_true rfl, Nat.le_of_ble_eq_true rfl⟩) (xk_preV X2_ok hK hX hP (xk_recv hK hP 0 (by omega) (ci := 7) e2_obj rfl)) rfl rfl hl.1 rfl (lv_room (Nat.le_of_ble_eq_true rfl)) dX7_weigh_2 ⟨Nat.le_of_ble_eq_true rfl, Nat.le_of_ble_eq_true rfl⟩) hS (fun H locs hP hS => ?_)
  refine xn_zne (tgt := 10) hx hb dX7_weigh_5 (by decide) (by omega) (fun c_5 => ?_) (fun c_5 => absurd c_5 (by omega))
  refine lv_iload_n hx hb dX7_weigh_10 rfl (lv_at hl 2 rfl) ?_
  refine lv_iconst (v := nI 0) hx hb dX7_weigh_11 (by decide) ?_
  refine lv_bipush (v := nI 9) hx hb dX7_weigh_12 (by decide) ?_
  refine xk_fi (va_runS (As := [.int v, .int (nI 0), .int (nI 9)]) (rest := []) ⟨hx, hb, hml, hown, hts⟩ (k2_within_f l hI v (nI 0) (nI 9) (by assumption)) (va_cwS 3 hts gX7_weigh_X7_within rfl rfl rfl (by decide +kernel) ⟨Nat.le_of_ble_eq_true rfl, Nat.le_of_ble_eq_true rfl⟩) (xk_preS X2_ok hK hX hP) rfl rfl hl.1 rfl (lv_room (Nat.le_of_ble_eq_true rfl)) dX7_weigh_14 ⟨Nat.le_of_ble_eq_true rfl, Nat.le_of_ble_eq_true rfl⟩) hS (fun H locs hP hS => ?_)
  refine xn_zne (tgt := 23) hx hb dX7_weigh_17 (by decide) (by omega) (fun c_17 => absurd c_17 (by omega)) (fun c_17 => ?_)
  refine lv_bipush (v := (-2)) hx hb dX7_weigh_20 (by decide) ?_
  exact xk_iret hx hb hr (vp_nar_int _) X2_ok hK hX hP hS hlk dX7_weigh_22 (⟨rfl, hJ⟩)

set_option maxRecDepth 20000 in
theorem flX7_weigh_25 {s : State} {av : Array Value} (hts : ∀ w ∈ wsX7_weigh, w.before av s = true) : (Cond.fieldLink RX7 25 "WellBackModel" "weight" "[I").before av s = true := hts _ (by decide +kernel)
set_option maxRecDepth 20000 in
theorem inX7_weigh_X7 : ∀ w ∈ u_ws RX7 TX7 30, w ∈ wsX7_weigh := by decide +kernel
set_option maxHeartbeats 4000000 in
set_option maxRecDepth 100000 in
theorem a2_weigh_ok (l : Launch) {D : va_G} {ca : Nat → ClassId} {ad : Nat → Nat} (hI : Ij ad 18) {σ : Sg} {n p g rn : Nat} {d : Nat → Nat} {th rd : Nat → Nat → Nat} {sl sn : Nat → Nat} {sc : Nat → Nat → Int32} {ft tr : Int32} {x : Nat} {v : Nat} (hJ : I2 n p g rn d th rd sl sn sc ft tr σ) (hxn : x < n) (hv9 : v ≤ 9) : C2i l D ca ad yX7_weigh wsX7_weigh { frames := 1, cells := 0, slots := 0, locals := 22 } [.ref (ad 0), .int (nI x), .int (nI v)] σ (fun r σ' => r = nI (th x 1) ∧ I2 n p g rn d (uth th x 1 v) rd sl sn sc ft tr σ') := by
  refine xk_entry cX7_weigh 4 (some .int) (by decide) rfl (Nat.le_of_ble_eq_true rfl) ?_
  intro pP eE sS mM below meth cC hx hb hml hr hts hown hlk hP hK hX hS ls hl
  have hl : lv_has ls 4 [(0, .ref (ad 0)), (1, .int (nI x)), (2, .int (nI v))] := hl
  obtain ⟨hT, hR, hRd, hSh, hnp, hft, htr⟩ := id hJ
  have hn5 := hT.2.2.1
  have hg9 := hT.2.2.2.1
  have hp6 := hR.2.1
  have hrn8 := hRd.2.1
  have hXx := hT.2.2.2.2 x hxn
  obtain ⟨ho0, ho1, ho2, ho3, ho4⟩ := hXx.2
  have hp0 : 0 < p := hnp.mp (by omega)
  refine lv_aload_n hx hb dX7_weigh_0 rfl (lv_at hl 0 rfl) ?_
  refine lv_iload_n hx hb dX7_weigh_1 rfl (lv_at hl 1 rfl) ?_
  refine xk_fi (va_runV (As := [.int (nI x)]) (rest := []) ⟨hx, hb, hml, hown, hts⟩ (k2_isThing_in l hI (x := x) hT (by omega)) (cwV 1 hts gX7_weigh_X7_isThing rfl rfl rfl (by decide +kernel) ⟨Nat.le_of_ble_eq_true rfl, Nat.le_of_ble_eq_true rfl⟩) (xk_preV X2_ok hK hX hP (xk_recv hK hP 0 (by omega) (ci := 7) e2_obj rfl)) rfl rfl hl.1 rfl (lv_room (Nat.le_of_ble_eq_true rfl)) dX7_weigh_2 ⟨Nat.le_of_ble_eq_true rfl, Nat.le_of_ble_eq_true rfl⟩) hS (fun H locs hP hS => ?_)
  refine xn_zne (tgt := 10) hx hb dX7_weigh_5 (by decide) (by omega) (fun c_5 => ?_) (fun c_5 => absurd c_5 (by omega))
  refine lv_iload_n hx hb dX7_weigh_10 rfl (lv_at hl 2 rfl) ?_
  refine lv_iconst (v := nI 0) hx hb dX7_weigh_11 (by decide) ?_
  refine lv_bipush (v := nI 9) hx hb dX7_weigh_12 (by decide) ?_
  refine xk_fi (va_runS (As := [.int (nI v), .int (nI 0), .int (nI 9)]) (rest := []) ⟨hx, hb, hml, hown, hts⟩ (k2_within_t l hI (nI v) (nI 0) (nI 9) (xn_in (by omega) (by omega) (by omega))) (va_cwS 3 hts gX7_weigh_X7_within rfl rfl rfl (by decide +kernel) ⟨Nat.le_of_ble_eq_true rfl, Nat.le_of_ble_eq_true rfl⟩) (xk_preS X2_ok hK hX hP) rfl rfl hl.1 rfl (lv_room (Nat.le_of_ble_eq_true rfl)) dX7_weigh_14 ⟨Nat.le_of_ble_eq_true rfl, Nat.le_of_ble_eq_true rfl⟩) hS (fun H locs hP hS => ?_)
  refine xn_zne (tgt := 23) hx hb dX7_weigh_17 (by decide) (by omega) (fun c_17 => ?_) (fun c_17 => absurd c_17 (by omega))
  refine lv_aload_n hx hb dX7_weigh_23 rfl (lv_at hl 0 rfl) ?_
  refine xk_get hx hb hts (inX7_weigh_X7) hown hK hP 0 (by omega) (ci := 7) e2_obj rfl 10 (by decide) (flX7_weigh_25 hts) rfl (.ref (ad 6)) rfl dX7_weigh_24 ?_
  refine lv_iload_n hx hb dX7_weigh_27 rfl (lv_at hl 1 rfl) ?_
  refine xk_iald hx hb hK hP 6 (by omega) (n := 5) (e2_row 5 (by decide) rfl) rfl x (by omega) (by decide) dX7_weigh_28 ?_
  refine xn_eqi (y := nI (th x 1)) (hXx.1 1 (by omega)) ?_
  refine lv_istore_n (lv' := [(3, .int (nI (th x 1))), (0, .ref (ad 0)), (1, .int (nI x)), (2, .int (nI v))]) hx hb dX7_weigh_29 rfl hl (by decide) rfl (fun ls hl => ?_)
  refine lv_aload_n hx hb dX7_weigh_30 rfl (lv_at hl 1 rfl) ?_
  refine xk_get hx hb hts (inX7_weigh_X7) hown hK hP 0 (by omega) (ci := 7) e2_obj rfl 10 (by decide) (flX7_weigh_25 hts) rfl (.ref (ad 6)) rfl dX7_weigh_31 ?_
  refine lv_iload_n hx hb dX7_weigh_34 rfl (lv_at hl 2 rfl) ?_
  refine lv_iload_n hx hb dX7_weigh_35 rfl (lv_at hl 3 rfl) ?_
  refine xk_iast hx hb hK hI hP hS 6 (by omega) (n := 5) (fun τ => (e2_row 5 (by decide) rfl)) rfl x (by omega) (by decide) e2_loc dX7_weigh_36 (fun H locs hP hS => ?_)
  refine lv_iload_n hx hb dX7_weigh_37 rfl (lv_at hl 0 rfl) ?_
  exact xk_iret hx hb hr (vp_nar_int _) X2_ok hK hX hP hS hlk dX7_weigh_38 (⟨rfl, I2_w hJ hxn hv9⟩)

set_option maxHeartbeats 4000000 in
set_option maxRecDepth 100000 in
theorem a2_dig_vo (l : Launch) {D : va_G} {ca : Nat → ClassId} {ad : Nat → Nat} (hI : Ij ad 18) {σ : Sg} {n p g rn : Nat} {d : Nat → Nat} {th rd : Nat → Nat → Nat} {sl sn : Nat → Nat} {sc : Nat → Nat → Int32} {ft tr : Int32} {v : Int32} (hJ : I2 n p g rn d th rd sl sn sc ft tr σ) (hvo : ¬ (nI 0 ≤ v ∧ v ≤ nI 9)) : C2i l D ca ad yX7_dig wsX7_dig { frames := 1, cells := 0, slots := 0, locals := 22 } [.ref (ad 0), .int v] σ (fun r σ' => r = -2 ∧ I2 n p g rn d th rd sl sn sc ft tr σ') := by
  refine xk_entry cX7_dig 3 (some .int) (by decide) rfl (Nat.le_of_ble_eq_true rfl) ?_
  intro pP eE sS mM below meth cC hx hb hml hr hts hown hlk hP hK hX hS ls hl
  have hl : lv_has ls 3 [(0, .ref (ad 0)), (1, .int v)] := hl
  obtain ⟨hT, hR, hRd, hSh, hnp, hft, htr⟩ := id hJ
  have hn5 := hT.2.2.1
  have hg9 := hT.2.2.2.1
  have hp6 := hR.2.1
  have hrn8 := hRd.2.1
  refine lv_iload_n hx hb dX7_dig_0 rfl (lv_at hl 1 rfl) ?_
  refine lv_iconst (v := nI 0) hx hb dX7_dig_1 (by decide) ?_
  refine lv_bipush (v := nI 9) hx hb dX7_dig_2 (by decide) ?_
  refine xk_fi (va_runS (As := [.int v, .int (nI 0), .int (nI 9)]) (rest := []) ⟨hx, hb, hml, hown, hts⟩ (k2_within_f l hI v (nI 0) (nI 9) (by assumption)) (va_cwS 3 hts gX7_dig_X7_within rfl rfl rfl (by decide +kernel) ⟨Nat.le_of_ble_eq_true rfl, Nat.le_of_ble_eq_true rfl⟩) (xk_preS X2_ok hK hX hP) rfl rfl hl.1 rfl (lv_room (Nat.le_of_ble_eq_true rfl)) dX7_dig_4 ⟨Nat.le_of_ble_eq_true rfl, Nat.le_of_ble_eq_true rfl⟩) hS (fun H locs hP hS => ?_)
  refine xn_zne (tgt := 13) hx hb dX7_dig_7 (by decide) (by omega) (fun c_7 => absurd c_7 (by omega)) (fun c_7 => ?_)
  refine lv_bipush (v := (-2)) hx hb dX7_dig_10 (by decide) ?_
  exact xk_iret hx hb hr (vp_nar_int _) X2_ok hK hX hP hS hlk dX7_dig_12 (⟨rfl, hJ⟩)

set_option maxRecDepth 20000 in
theorem flX7_dig_107 {s : State} {av : Array Value} (hts : ∀ w ∈ wsX7_dig, w.before av s = true) : (Cond.fieldLink RX7 107 "WellBackModel" "places" "I").before av s = true := hts _ (by decide +kernel)
set_option maxRecDepth 20000 in
theorem inX7_dig_X7 : ∀ w ∈ u_ws RX7 TX7 30, w ∈ wsX7_dig := by decide +kernel
set_option maxHeartbeats 4000000 in
set_option maxRecDepth 100000 in
theorem a2_dig_no (l : Launch) {D : va_G} {ca : Nat → ClassId} {ad : Nat → Nat} (hI : Ij ad 18) {σ : Sg} {n p g rn : Nat} {d : Nat → Nat} {th rd : Nat → Nat → Nat} {sl sn : Nat → Nat} {sc : Nat → Nat → Int32} {ft tr : Int32} {v : Nat} (hJ : I2 n p g rn d th rd sl sn sc ft tr σ) (hv9 : v ≤ 9) (hn0 : n = 0) : C2i l D ca ad yX7_dig wsX7_dig { frames := 1, cells := 0, slots := 0, locals := 22 } [.ref (ad 0), .int (nI v)] σ (fun r σ' => r = -3 ∧ I2 n p g rn d th rd sl sn sc ft tr σ') := by
  refine xk_entry cX7_dig 3 (some .int) (by decide) rfl (Nat.le_of_ble_eq_true rfl) ?_
  intro pP eE sS mM below meth cC hx hb hml hr hts hown hlk hP hK hX hS ls hl
  have hl : lv_has ls 3 [(0, .ref (ad 0)), (1, .int (nI v))] := hl
  obtain ⟨hT, hR, hRd, hSh, hnp, hft, htr⟩ := id hJ
  have hn5 := hT.2.2.1
  have hg9 := hT.2.2.2.1
  have hp6 := hR.2.1
  have hrn8 := hRd.2.1
  have hp0z : p = 0 := by omega
  refine lv_iload_n hx hb dX7_dig_0 rfl (lv_at hl 1 rfl) ?_
  refine lv_iconst (v := nI 0) hx hb dX7_dig_1 (by decide) ?_
  refine lv_bipush (v := nI 9) hx hb dX7_dig_2 (by decide) ?_
  refine xk_fi (va_runS (As := [.int (nI v), .int (nI 0), .int (nI 9)]) (rest := []) ⟨hx, hb, hml, hown, hts⟩ (k2_within_t l hI (nI v) (nI 0) (nI 9) (xn_in (by omega) (by omega) (by omega))) (va_cwS 3 hts gX7_dig_X7_within rfl rfl rfl (by decide +kernel) ⟨Nat.le_of_ble_eq_true rfl, Nat.le_of_ble_eq_true rfl⟩) (xk_preS X2_ok hK hX hP) rfl rfl hl.1 rfl (lv_room (Nat.le_of_ble_eq_true rfl)) dX7_dig_4 ⟨Nat.le_of_ble_eq_true rfl, Nat.le_of_ble_eq_true rfl⟩) hS (fun H locs hP hS => ?_)
  refine xn_zne (tgt := 13) hx hb dX7_dig_7 (by decide) (by omega) (fun c_7 => ?_) (fun c_7 => absurd c_7 (by omega))
  refine lv_aload_n hx hb dX7_dig_13 rfl (lv_at hl 0 rfl) ?_
  refine xk_get hx hb hts (inX7_dig_X7) hown hK hP 0 (by omega) (ci := 7) e2_obj rfl 6 (by decide) (flX7_dig_107 hts) rfl (.int (σ 0 6)) rfl dX7_dig_14 ?_
  refine xn_eqi (y := nI p) hR.1 ?_
  refine xn_zne (tgt := 23) hx hb dX7_dig_17 (by decide) (by omega) (fun c_17 => absurd c_17 (by omega)) (fun c_17 => ?_)
  refine lv_bipush (v := (-3)) hx hb dX7_dig_20 (by decide) ?_
  exact xk_iret hx hb hr (vp_nar_int _) X2_ok hK hX hP hS hlk dX7_dig_22 (⟨rfl, hJ⟩)

set_option maxRecDepth 20000 in
theorem flX7_dig_101 {s : State} {av : Array Value} (hts : ∀ w ∈ wsX7_dig, w.before av s = true) : (Cond.fieldLink RX7 101 "WellBackModel" "depth" "I").before av s = true := hts _ (by decide +kernel)
set_option maxHeartbeats 4000000 in
set_option maxRecDepth 100000 in
theorem a2_dig_ok (l : Launch) {D : va_G} {ca : Nat → ClassId} {ad : Nat → Nat} (hI : Ij ad 18) {σ : Sg} {n p g rn : Nat} {d : Nat → Nat} {th rd : Nat → Nat → Nat} {sl sn : Nat → Nat} {sc : Nat → Nat → Int32} {ft tr : Int32} {v : Nat} (hJ : I2 n p g rn d th rd sl sn sc ft tr σ) (hv9 : v ≤ 9) (hn0 : 0 < n) : C2i l D ca ad yX7_dig wsX7_dig { frames := 1, cells := 0, slots := 0, locals := 22 } [.ref (ad 0), .int (nI v)] σ (fun r σ' => r = nI g ∧ I2 n p v rn d th rd sl sn sc ft tr σ') := by
  refine xk_entry cX7_dig 3 (some .int) (by decide) rfl (Nat.le_of_ble_eq_true rfl) ?_
  intro pP eE sS mM below meth cC hx hb hml hr hts hown hlk hP hK hX hS ls hl
  have hl : lv_has ls 3 [(0, .ref (ad 0)), (1, .int (nI v))] := hl
  obtain ⟨hT, hR, hRd, hSh, hnp, hft, htr⟩ := id hJ
  have hn5 := hT.2.2.1
  have hg9 := hT.2.2.2.1
  have hp6 := hR.2.1
  have hrn8 := hRd.2.1
  have hp0 : 0 < p := hnp.mp (by omega)
  refine lv_iload_n hx hb dX7_dig_0 rfl (lv_at hl 1 rfl) ?_
  refine lv_iconst (v := nI 0) hx hb dX7_dig_1 (by decide) ?_
  refine lv_bipush (v := nI 9) hx hb dX7_dig_2 (by decide) ?_
  refine xk_fi (va_runS (As := [.int (nI v), .int (nI 0), .int (nI 9)]) (rest := []) ⟨hx, hb, hml, hown, hts⟩ (k2_within_t l hI (nI v) (nI 0) (nI 9) (xn_in (by omega) (by omega) (by omega))) (va_cwS 3 hts gX7_dig_X7_within rfl rfl rfl (by decide +kernel) ⟨Nat.le_of_ble_eq_true rfl, Nat.le_of_ble_eq_true rfl⟩) (xk_preS X2_ok hK hX hP) rfl rfl hl.1 rfl (lv_room (Nat.le_of_ble_eq_true rfl)) dX7_dig_4 ⟨Nat.le_of_ble_eq_true rfl, Nat.le_of_ble_eq_true rfl⟩) hS (fun H locs hP hS => ?_)
  refine xn_zne (tgt := 13) hx hb dX7_dig_7 (by decide) (by omega) (fun c_7 => ?_) (fun c_7 => absurd c_7 (by omega))
  refine lv_aload_n hx hb dX7_dig_13 rfl (lv_at hl 0 rfl) ?_
  refine xk_get hx hb hts (inX7_dig_X7) hown hK hP 0 (by omega) (ci := 7) e2_obj rfl 6 (by decide) (flX7_dig_107 hts) rfl (.int (σ 0 6)) rfl dX7_dig_14 ?_
  refine xn_eqi (y := nI p) hR.1 ?_
  refine xn_zne (tgt := 23) hx hb dX7_dig_17 (by decide) (by omega) (fun c_17 => ?_) (fun c_17 => absurd c_17 (by omega))
  refine lv_aload_n hx hb dX7_dig_23 rfl (lv_at hl 0 rfl) ?_
  refine xk_get hx hb hts (inX7_dig_X7) hown hK hP 0 (by omega) (ci := 7) e2_obj rfl 5 (by decide) (flX7_dig_101 hts) rfl (.int (σ 0 5)) rfl dX7_dig_24 ?_
  refine xn_eqi (y := nI g) hT.1 ?_
  refine lv_istore_n (lv' := [(2, .int (nI g)), (0, .ref (ad 0)), (1, .int (nI v))]) hx hb dX7_dig_27 rfl hl (by decide) rfl (fun ls hl => ?_)
  refine lv_aload_n hx hb dX7_dig_28 rfl (lv_at hl 1 rfl) ?_
  refine lv_iload_n hx hb dX7_dig_29 rfl (lv_at hl 2 rfl) ?_
  refine xk_put hx hb hts (inX7_dig_X7) tyX7 tyX7_ok nmX7 hown hK hI hP hS 0 (by omega) (ci := 7) e2_obj rfl 5 (by decide) (flX7_dig_101 hts) rfl rfl (by decide +kernel) (Nat.le_of_ble_eq_true rfl) e2_loc (by rw [e2_obj]; simp [up]) dX7_dig_30 (fun H locs hP hS => ?_)
  refine lv_iload_n hx hb dX7_dig_33 rfl (lv_at hl 0 rfl) ?_
  exact xk_iret hx hb hr (vp_nar_int _) X2_ok hK hX hP hS hlk dX7_dig_34 (⟨rfl, I2_g hJ hv9⟩)

set_option maxRecDepth 20000 in
theorem flX7_hire_107 {s : State} {av : Array Value} (hts : ∀ w ∈ wsX7_hire, w.before av s = true) : (Cond.fieldLink RX7 107 "WellBackModel" "places" "I").before av s = true := hts _ (by decide +kernel)
set_option maxRecDepth 20000 in
theorem inX7_hire_X7 : ∀ w ∈ u_ws RX7 TX7 30, w ∈ wsX7_hire := by decide +kernel
set_option maxHeartbeats 4000000 in
set_option maxRecDepth 100000 in
theorem a2_hire_ko (l : Launch) {D : va_G} {ca : Nat → ClassId} {ad : Nat → Nat} (hI : Ij ad 18) {σ : Sg} {n p g rn : Nat} {d : Nat → Nat} {th rd : Nat → Nat → Nat} {sl sn : Nat → Nat} {sc : Nat → Nat → Int32} {ft tr : Int32} {k e : Int32} (hJ : I2 n p g rn d th rd sl sn sc ft tr σ) (hko : ∀ j, j < p → k ≠ nI j) : C2i l D ca ad yX7_hire wsX7_hire { frames := 2, cells := 0, slots := 0, locals := 42 } [.ref (ad 0), .int k, .int e] σ (fun r σ' => r = -1 ∧ I2 n p g rn d th rd sl sn sc ft tr σ') := by
  refine xk_entry cX7_hire 4 (some .int) (by decide) rfl (Nat.le_of_ble_eq_true rfl) ?_
  intro pP eE sS mM below meth cC hx hb hml hr hts hown hlk hP hK hX hS ls hl
  have hl : lv_has ls 4 [(0, .ref (ad 0)), (1, .int k), (2, .int e)] := hl
  obtain ⟨hT, hR, hRd, hSh, hnp, hft, htr⟩ := id hJ
  have hn5 := hT.2.2.1
  have hg9 := hT.2.2.2.1
  have hp6 := hR.2.1
  have hrn8 := hRd.2.1
  refine lv_iload_n hx hb dX7_hire_0 rfl (lv_at hl 1 rfl) ?_
  refine lv_if_lt (tgt := 19) hx hb dX7_hire_1 (by decide) (fun c_1 => ?_) (fun c_1 => ?_)
  · refine lv_iconst (v := (-1)) hx hb dX7_hire_19 (by decide) ?_
    exact xk_iret hx hb hr (vp_nar_int _) X2_ok hK hX hP hS hlk dX7_hire_20 (⟨rfl, hJ⟩)
  · obtain ⟨j, hj, rfl⟩ := nI_of c_1
    refine lv_iload_n hx hb dX7_hire_4 rfl (lv_at hl 1 rfl) ?_
    refine lv_aload_n hx hb dX7_hire_5 rfl (lv_at hl 0 rfl) ?_
    refine xk_get hx hb hts (inX7_hire_X7) hown hK hP 0 (by omega) (ci := 7) e2_obj rfl 6 (by decide) (flX7_hire_107 hts) rfl (.int (σ 0 6)) rfl dX7_hire_6 ?_
    refine xn_eqi (y := nI p) hR.1 ?_
    refine xn_ige (tgt := 19) hx hb dX7_hire_9 (by decide) (by omega) (by omega) (fun c_9 => ?_) (fun c_9 => ?_)
    · refine lv_iconst (v := (-1)) hx hb dX7_hire_19 (by decide) ?_
      exact xk_iret hx hb hr (vp_nar_int _) X2_ok hK hX hP hS hlk dX7_hire_20 (⟨rfl, hJ⟩)
    · exact absurd rfl (hko j c_9)

set_option maxHeartbeats 4000000 in
set_option maxRecDepth 100000 in
theorem a2_hire_do (l : Launch) {D : va_G} {ca : Nat → ClassId} {ad : Nat → Nat} (hI : Ij ad 18) {σ : Sg} {n p g rn : Nat} {d : Nat → Nat} {th rd : Nat → Nat → Nat} {sl sn : Nat → Nat} {sc : Nat → Nat → Int32} {ft tr : Int32} {k : Nat} {e : Int32} (hJ : I2 n p g rn d th rd sl sn sc ft tr σ) (hkp : k < p) (heo : ¬ (nI 0 ≤ e ∧ e ≤ nI 4)) : C2i l D ca ad yX7_hire wsX7_hire { frames := 2, cells := 0, slots := 0, locals := 42 } [.ref (ad 0), .int (nI k), .int e] σ (fun r σ' => r = -1 ∧ I2 n p g rn d th rd sl sn sc ft tr σ') := by
  refine xk_entry cX7_hire 4 (some .int) (by decide) rfl (Nat.le_of_ble_eq_true rfl) ?_
  intro pP eE sS mM below meth cC hx hb hml hr hts hown hlk hP hK hX hS ls hl
  have hl : lv_has ls 4 [(0, .ref (ad 0)), (1, .int (nI k)), (2, .int e)] := hl
  obtain ⟨hT, hR, hRd, hSh, hnp, hft, htr⟩ := id hJ
  have hn5 := hT.2.2.1
  have hg9 := hT.2.2.2.1
  have hp6 := hR.2.1
  have hrn8 := hRd.2.1
  refine lv_iload_n hx hb dX7_hire_0 rfl (lv_at hl 1 rfl) ?_
  refine xn_zlt (tgt := 19) hx hb dX7_hire_1 (by decide) (by omega) (fun c_1 => absurd c_1 (by omega)) (fun c_1 => ?_)
  refine lv_iload_n hx hb dX7_hire_4 rfl (lv_at hl 1 rfl) ?_
  refine lv_aload_n hx hb dX7_hire_5 rfl (lv_at hl 0 rfl) ?_
  refine xk_get hx hb hts (inX7_hire_X7) hown hK hP 0 (by omega) (ci := 7) e2_obj rfl 6 (by decide) (flX7_hire_107 hts) rfl (.int (σ 0 6)) rfl dX7_hire_6 ?_
  refine xn_eqi (y := nI p) hR.1 ?_
  refine xn_ige (tgt := 19) hx hb dX7_hire_9 (by decide) (by omega) (by omega) (fun c_9 => absurd c_9 (by omega)) (fun c_9 => ?_)
  refine lv_iload_n hx hb dX7_hire_12 rfl (lv_at hl 2 rfl) ?_
  refine xk_fi (va_runS (As := [.int e]) (rest := []) ⟨hx, hb, hml, hown, hts⟩ (k2_isDrawer_f l hI e (by assumption)) (va_cwS 1 hts gX7_hire_X7_isDrawer rfl rfl rfl (by decide +kernel) ⟨Nat.le_of_ble_eq_true rfl, Nat.le_of_ble_eq_true rfl⟩) (xk_preS X2_ok hK hX hP) rfl rfl hl.1 rfl (lv_room (Nat.le_of_ble_eq_true rfl)) dX7_hire_13 ⟨Nat.le_of_ble_eq_true rfl, Nat.le_of_ble_eq_true rfl⟩) hS (fun H locs hP hS => ?_)
  refine xn_zne (tgt := 21) hx hb dX7_hire_16 (by decide) (by omega) (fun c_16 => absurd c_16 (by omega)) (fun c_16 => ?_)
  refine lv_iconst (v := (-1)) hx hb dX7_hire_19 (by decide) ?_
  exact xk_iret hx hb hr (vp_nar_int _) X2_ok hK hX hP hS hlk dX7_hire_20 (⟨rfl, hJ⟩)

set_option maxRecDepth 20000 in
theorem flX7_hire_19 {s : State} {av : Array Value} (hts : ∀ w ∈ wsX7_hire, w.before av s = true) : (Cond.fieldLink RX7 19 "WellBackModel" "rota" "[I").before av s = true := hts _ (by decide +kernel)
set_option maxHeartbeats 4000000 in
set_option maxRecDepth 100000 in
theorem a2_hire_ok (l : Launch) {D : va_G} {ca : Nat → ClassId} {ad : Nat → Nat} (hI : Ij ad 18) {σ : Sg} {n p g rn : Nat} {d : Nat → Nat} {th rd : Nat → Nat → Nat} {sl sn : Nat → Nat} {sc : Nat → Nat → Int32} {ft tr : Int32} {k e : Nat} (hJ : I2 n p g rn d th rd sl sn sc ft tr σ) (hkp : k < p) (he4 : e ≤ 4) : C2i l D ca ad yX7_hire wsX7_hire { frames := 2, cells := 0, slots := 0, locals := 42 } [.ref (ad 0), .int (nI k), .int (nI e)] σ (fun r σ' => r = nI (d k) ∧ I2 n p g rn (fun j => if j = k then e else d j) th rd sl sn sc ft tr σ') := by
  refine xk_entry cX7_hire 4 (some .int) (by decide) rfl (Nat.le_of_ble_eq_true rfl) ?_
  intro pP eE sS mM below meth cC hx hb hml hr hts hown hlk hP hK hX hS ls hl
  have hl : lv_has ls 4 [(0, .ref (ad 0)), (1, .int (nI k)), (2, .int (nI e))] := hl
  obtain ⟨hT, hR, hRd, hSh, hnp, hft, htr⟩ := id hJ
  have hn5 := hT.2.2.1
  have hg9 := hT.2.2.2.1
  have hp6 := hR.2.1
  have hrn8 := hRd.2.1
  refine lv_iload_n hx hb dX7_hire_0 rfl (lv_at hl 1 rfl) ?_
  refine xn_zlt (tgt := 19) hx hb dX7_hire_1 (by decide) (by omega) (fun c_1 => absurd c_1 (by omega)) (fun c_1 => ?_)
  refine lv_iload_n hx hb dX7_hire_4 rfl (lv_at hl 1 rfl) ?_
  refine lv_aload_n hx hb dX7_hire_5 rfl (lv_at hl 0 rfl) ?_
  refine xk_get hx hb hts (inX7_hire_X7) hown hK hP 0 (by omega) (ci := 7) e2_obj rfl 6 (by decide) (flX7_hire_107 hts) rfl (.int (σ 0 6)) rfl dX7_hire_6 ?_
  refine xn_eqi (y := nI p) hR.1 ?_
  refine xn_ige (tgt := 19) hx hb dX7_hire_9 (by decide) (by omega) (by omega) (fun c_9 => absurd c_9 (by omega)) (fun c_9 => ?_)
  refine lv_iload_n hx hb dX7_hire_12 rfl (lv_at hl 2 rfl) ?_
  refine xk_fi (va_runS (As := [.int (nI e)]) (rest := []) ⟨hx, hb, hml, hown, hts⟩ (k2_isDrawer_t l hI (nI e) (xn_in (by omega) (by omega) (by omega))) (va_cwS 1 hts gX7_hire_X7_isDrawer rfl rfl rfl (by decide +kernel) ⟨Nat.le_of_ble_eq_true rfl, Nat.le_of_ble_eq_true rfl⟩) (xk_preS X2_ok hK hX hP) rfl rfl hl.1 rfl (lv_room (Nat.le_of_ble_eq_true rfl)) dX7_hire_13 ⟨Nat.le_of_ble_eq_true rfl, Nat.le_of_ble_eq_true rfl⟩) hS (fun H locs hP hS => ?_)
  refine xn_zne (tgt := 21) hx hb dX7_hire_16 (by decide) (by omega) (fun c_16 => ?_) (fun c_16 => absurd c_16 (by omega))
  refine lv_aload_n hx hb dX7_hire_21 rfl (lv_at hl 0 rfl) ?_
  refine xk_get hx hb hts (inX7_hire_X7) hown hK hP 0 (by omega) (ci := 7) e2_obj rfl 8 (by decide) (flX7_hire_19 hts) rfl (.ref (ad 4)) rfl dX7_hire_22 ?_
  refine lv_iload_n hx hb dX7_hire_25 rfl (lv_at hl 1 rfl) ?_
  refine xk_iald hx hb hK hP 4 (by omega) (n := 6) (e2_row 6 (by decide) rfl) rfl k (by omega) (by decide) dX7_hire_26 ?_
  refine xn_eqi (y := nI (d k)) ((hR.2.2 _ (by omega)).1) ?_
  refine lv_istore_n (lv' := [(3, .int (nI (d k))), (0, .ref (ad 0)), (1, .int (nI k)), (2, .int (nI e))]) hx hb dX7_hire_27 rfl hl (by decide) rfl (fun ls hl => ?_)
  refine lv_aload_n hx hb dX7_hire_28 rfl (lv_at hl 1 rfl) ?_
  refine xk_get hx hb hts (inX7_hire_X7) hown hK hP 0 (by omega) (ci := 7) e2_obj rfl 8 (by decide) (flX7_hire_19 hts) rfl (.ref (ad 4)) rfl dX7_hire_29 ?_
  refine lv_iload_n hx hb dX7_hire_32 rfl (lv_at hl 2 rfl) ?_
  refine lv_iload_n hx hb dX7_hire_33 rfl (lv_at hl 3 rfl) ?_
  refine xk_iast hx hb hK hI hP hS 4 (by omega) (n := 6) (fun τ => (e2_row 6 (by decide) rfl)) rfl k (by omega) (by decide) e2_loc dX7_hire_34 (fun H locs hP hS => ?_)
  refine lv_iload_n hx hb dX7_hire_35 rfl (lv_at hl 0 rfl) ?_
  exact xk_iret hx hb hr (vp_nar_int _) X2_ok hK hX hP hS hlk dX7_hire_36 (⟨rfl, I2_d hJ he4⟩)

set_option maxHeartbeats 4000000 in
set_option maxRecDepth 100000 in
theorem a2_drop_xo (l : Launch) {D : va_G} {ca : Nat → ClassId} {ad : Nat → Nat} (hI : Ij ad 18) {σ : Sg} {n p g rn : Nat} {d : Nat → Nat} {th rd : Nat → Nat → Nat} {sl sn : Nat → Nat} {sc : Nat → Nat → Int32} {ft tr : Int32} {x : Int32} {e h w : Int32} (hJ : I2 n p g rn d th rd sl sn sc ft tr σ) (hxx : ∀ j, j < n → x ≠ nI j) : C2i l D ca ad yX7_drop wsX7_drop { frames := 2, cells := 0, slots := 0, locals := 48 } [.ref (ad 0), .int x, .int e, .int h, .int w] σ (fun r σ' => r = -1 ∧ I2 n p g rn d th rd sl sn sc ft tr σ') := by
  refine xk_entry cX7_drop 5 (some .int) (by decide) rfl (Nat.le_of_ble_eq_true rfl) ?_
  intro pP eE sS mM below meth cC hx hb hml hr hts hown hlk hP hK hX hS ls hl
  have hl : lv_has ls 5 [(0, .ref (ad 0)), (1, .int x), (2, .int e), (3, .int h), (4, .int w)] := hl
  obtain ⟨hT, hR, hRd, hSh, hnp, hft, htr⟩ := id hJ
  have hn5 := hT.2.2.1
  have hg9 := hT.2.2.2.1
  have hp6 := hR.2.1
  have hrn8 := hRd.2.1
  refine lv_aload_n hx hb dX7_drop_0 rfl (lv_at hl 0 rfl) ?_
  refine lv_iload_n hx hb dX7_drop_1 rfl (lv_at hl 1 rfl) ?_
  refine xk_fi (va_runV (As := [.int x]) (rest := []) ⟨hx, hb, hml, hown, hts⟩ (k2_isThing_out l hI (x := x) hT (by assumption)) (cwV 1 hts gX7_drop_X7_isThing rfl rfl rfl (by decide +kernel) ⟨Nat.le_of_ble_eq_true rfl, Nat.le_of_ble_eq_true rfl⟩) (xk_preV X2_ok hK hX hP (xk_recv hK hP 0 (by omega) (ci := 7) e2_obj rfl)) rfl rfl hl.1 rfl (lv_room (Nat.le_of_ble_eq_true rfl)) dX7_drop_2 ⟨Nat.le_of_ble_eq_true rfl, Nat.le_of_ble_eq_true rfl⟩) hS (fun H locs hP hS => ?_)
  refine xn_zeq (tgt := 15) hx hb dX7_drop_5 (by decide) (by omega) (fun c_5 => ?_) (fun c_5 => absurd c_5 (by omega))
  refine lv_iconst (v := (-1)) hx hb dX7_drop_15 (by decide) ?_
  exact xk_iret hx hb hr (vp_nar_int _) X2_ok hK hX hP hS hlk dX7_drop_16 (⟨rfl, hJ⟩)

set_option maxHeartbeats 4000000 in
set_option maxRecDepth 100000 in
theorem a2_drop_do (l : Launch) {D : va_G} {ca : Nat → ClassId} {ad : Nat → Nat} (hI : Ij ad 18) {σ : Sg} {n p g rn : Nat} {d : Nat → Nat} {th rd : Nat → Nat → Nat} {sl sn : Nat → Nat} {sc : Nat → Nat → Int32} {ft tr : Int32} {x : Nat} {e h w : Int32} (hJ : I2 n p g rn d th rd sl sn sc ft tr σ) (hxn : x < n) (heo : ¬ (nI 0 ≤ e ∧ e ≤ nI 4)) : C2i l D ca ad yX7_drop wsX7_drop { frames := 2, cells := 0, slots := 0, locals := 48 } [.ref (ad 0), .int (nI x), .int e, .int h, .int w] σ (fun r σ' => r = -1 ∧ I2 n p g rn d th rd sl sn sc ft tr σ') := by
  refine xk_entry cX7_drop 5 (some .int) (by decide) rfl (Nat.le_of_ble_eq_true rfl) ?_
  intro pP eE sS mM below meth cC hx hb hml hr hts hown hlk hP hK hX hS ls hl
  have hl : lv_has ls 5 [(0, .ref (ad 0)), (1, .int (nI x)), (2, .int e), (3, .int h), (4, .int w)] := hl
  obtain ⟨hT, hR, hRd, hSh, hnp, hft, htr⟩ := id hJ
  have hn5 := hT.2.2.1
  have hg9 := hT.2.2.2.1
  have hp6 := hR.2.1
  have hrn8 := hRd.2.1
  have hXx := hT.2.2.2.2 x hxn
  obtain ⟨ho0, ho1, ho2, ho3, ho4⟩ := hXx.2
  have hp0 : 0 < p := hnp.mp (by omega)
  refine lv_aload_n hx hb dX7_drop_0 rfl (lv_at hl 0 rfl) ?_
  refine lv_iload_n hx hb dX7_drop_1 rfl (lv_at hl 1 rfl) ?_
  refine xk_fi (va_runV (As := [.int (nI x)]) (rest := []) ⟨hx, hb, hml, hown, hts⟩ (k2_isThing_in l hI (x := x) hT (by omega)) (cwV 1 hts gX7_drop_X7_isThing rfl rfl rfl (by decide +kernel) ⟨Nat.le_of_ble_eq_true rfl, Nat.le_of_ble_eq_true rfl⟩) (xk_preV X2_ok hK hX hP (xk_recv hK hP 0 (by omega) (ci := 7) e2_obj rfl)) rfl rfl hl.1 rfl (lv_room (Nat.le_of_ble_eq_true rfl)) dX7_drop_2 ⟨Nat.le_of_ble_eq_true rfl, Nat.le_of_ble_eq_true rfl⟩) hS (fun H locs hP hS => ?_)
  refine xn_zeq (tgt := 15) hx hb dX7_drop_5 (by decide) (by omega) (fun c_5 => absurd c_5 (by omega)) (fun c_5 => ?_)
  refine lv_iload_n hx hb dX7_drop_8 rfl (lv_at hl 2 rfl) ?_
  refine xk_fi (va_runS (As := [.int e]) (rest := []) ⟨hx, hb, hml, hown, hts⟩ (k2_isDrawer_f l hI e (by assumption)) (va_cwS 1 hts gX7_drop_X7_isDrawer rfl rfl rfl (by decide +kernel) ⟨Nat.le_of_ble_eq_true rfl, Nat.le_of_ble_eq_true rfl⟩) (xk_preS X2_ok hK hX hP) rfl rfl hl.1 rfl (lv_room (Nat.le_of_ble_eq_true rfl)) dX7_drop_9 ⟨Nat.le_of_ble_eq_true rfl, Nat.le_of_ble_eq_true rfl⟩) hS (fun H locs hP hS => ?_)
  refine xn_zne (tgt := 17) hx hb dX7_drop_12 (by decide) (by omega) (fun c_12 => absurd c_12 (by omega)) (fun c_12 => ?_)
  refine lv_iconst (v := (-1)) hx hb dX7_drop_15 (by decide) ?_
  exact xk_iret hx hb hr (vp_nar_int _) X2_ok hK hX hP hS hlk dX7_drop_16 (⟨rfl, hJ⟩)

set_option maxHeartbeats 4000000 in
set_option maxRecDepth 100000 in
theorem a2_drop_ho (l : Launch) {D : va_G} {ca : Nat → ClassId} {ad : Nat → Nat} (hI : Ij ad 18) {σ : Sg} {n p g rn : Nat} {d : Nat → Nat} {th rd : Nat → Nat → Nat} {sl sn : Nat → Nat} {sc : Nat → Nat → Int32} {ft tr : Int32} {x : Nat} {e : Nat} {h w : Int32} (hJ : I2 n p g rn d th rd sl sn sc ft tr σ) (hxn : x < n) (he4 : e ≤ 4) (hho : ¬ (nI 0 ≤ h ∧ h ≤ nI 99)) : C2i l D ca ad yX7_drop wsX7_drop { frames := 2, cells := 0, slots := 0, locals := 48 } [.ref (ad 0), .int (nI x), .int (nI e), .int h, .int w] σ (fun r σ' => r = -2 ∧ I2 n p g rn d th rd sl sn sc ft tr σ') := by
  refine xk_entry cX7_drop 5 (some .int) (by decide) rfl (Nat.le_of_ble_eq_true rfl) ?_
  intro pP eE sS mM below meth cC hx hb hml hr hts hown hlk hP hK hX hS ls hl
  have hl : lv_has ls 5 [(0, .ref (ad 0)), (1, .int (nI x)), (2, .int (nI e)), (3, .int h), (4, .int w)] := hl
  obtain ⟨hT, hR, hRd, hSh, hnp, hft, htr⟩ := id hJ
  have hn5 := hT.2.2.1
  have hg9 := hT.2.2.2.1
  have hp6 := hR.2.1
  have hrn8 := hRd.2.1
  have hXx := hT.2.2.2.2 x hxn
  obtain ⟨ho0, ho1, ho2, ho3, ho4⟩ := hXx.2
  have hp0 : 0 < p := hnp.mp (by omega)
  refine lv_aload_n hx hb dX7_drop_0 rfl (lv_at hl 0 rfl) ?_
  refine lv_iload_n hx hb dX7_drop_1 rfl (lv_at hl 1 rfl) ?_
  refine xk_fi (va_runV (As := [.int (nI x)]) (rest := []) ⟨hx, hb, hml, hown, hts⟩ (k2_isThing_in l hI (x := x) hT (by omega)) (cwV 1 hts gX7_drop_X7_isThing rfl rfl rfl (by decide +kernel) ⟨Nat.le_of_ble_eq_true rfl, Nat.le_of_ble_eq_true rfl⟩) (xk_preV X2_ok hK hX hP (xk_recv hK hP 0 (by omega) (ci := 7) e2_obj rfl)) rfl rfl hl.1 rfl (lv_room (Nat.le_of_ble_eq_true rfl)) dX7_drop_2 ⟨Nat.le_of_ble_eq_true rfl, Nat.le_of_ble_eq_true rfl⟩) hS (fun H locs hP hS => ?_)
  refine xn_zeq (tgt := 15) hx hb dX7_drop_5 (by decide) (by omega) (fun c_5 => absurd c_5 (by omega)) (fun c_5 => ?_)
  refine lv_iload_n hx hb dX7_drop_8 rfl (lv_at hl 2 rfl) ?_
  refine xk_fi (va_runS (As := [.int (nI e)]) (rest := []) ⟨hx, hb, hml, hown, hts⟩ (k2_isDrawer_t l hI (nI e) (xn_in (by omega) (by omega) (by omega))) (va_cwS 1 hts gX7_drop_X7_isDrawer rfl rfl rfl (by decide +kernel) ⟨Nat.le_of_ble_eq_true rfl, Nat.le_of_ble_eq_true rfl⟩) (xk_preS X2_ok hK hX hP) rfl rfl hl.1 rfl (lv_room (Nat.le_of_ble_eq_true rfl)) dX7_drop_9 ⟨Nat.le_of_ble_eq_true rfl, Nat.le_of_ble_eq_true rfl⟩) hS (fun H locs hP hS => ?_)
  refine xn_zne (tgt := 17) hx hb dX7_drop_12 (by decide) (by omega) (fun c_12 => ?_) (fun c_12 => absurd c_12 (by omega))
  refine lv_iload_n hx hb dX7_drop_17 rfl (lv_at hl 3 rfl) ?_
  refine lv_iconst (v := nI 0) hx hb dX7_drop_18 (by decide) ?_
  refine lv_bipush (v := nI 99) hx hb dX7_drop_19 (by decide) ?_
  refine xk_fi (va_runS (As := [.int h, .int (nI 0), .int (nI 99)]) (rest := []) ⟨hx, hb, hml, hown, hts⟩ (k2_within_f l hI h (nI 0) (nI 99) (by assumption)) (va_cwS 3 hts gX7_drop_X7_within rfl rfl rfl (by decide +kernel) ⟨Nat.le_of_ble_eq_true rfl, Nat.le_of_ble_eq_true rfl⟩) (xk_preS X2_ok hK hX hP) rfl rfl hl.1 rfl (lv_room (Nat.le_of_ble_eq_true rfl)) dX7_drop_21 ⟨Nat.le_of_ble_eq_true rfl, Nat.le_of_ble_eq_true rfl⟩) hS (fun H locs hP hS => ?_)
  refine xn_zeq (tgt := 37) hx hb dX7_drop_24 (by decide) (by omega) (fun c_24 => ?_) (fun c_24 => absurd c_24 (by omega))
  refine lv_bipush (v := (-2)) hx hb dX7_drop_37 (by decide) ?_
  exact xk_iret hx hb hr (vp_nar_int _) X2_ok hK hX hP hS hlk dX7_drop_39 (⟨rfl, hJ⟩)

set_option maxHeartbeats 4000000 in
set_option maxRecDepth 100000 in
theorem a2_drop_wo (l : Launch) {D : va_G} {ca : Nat → ClassId} {ad : Nat → Nat} (hI : Ij ad 18) {σ : Sg} {n p g rn : Nat} {d : Nat → Nat} {th rd : Nat → Nat → Nat} {sl sn : Nat → Nat} {sc : Nat → Nat → Int32} {ft tr : Int32} {x : Nat} {e h : Nat} {w : Int32} (hJ : I2 n p g rn d th rd sl sn sc ft tr σ) (hxn : x < n) (he4 : e ≤ 4) (hh : h ≤ 99) (hwo : ¬ (nI 0 ≤ w ∧ w ≤ nI 2)) : C2i l D ca ad yX7_drop wsX7_drop { frames := 2, cells := 0, slots := 0, locals := 48 } [.ref (ad 0), .int (nI x), .int (nI e), .int (nI h), .int w] σ (fun r σ' => r = -2 ∧ I2 n p g rn d th rd sl sn sc ft tr σ') := by
  refine xk_entry cX7_drop 5 (some .int) (by decide) rfl (Nat.le_of_ble_eq_true rfl) ?_
  intro pP eE sS mM below meth cC hx hb hml hr hts hown hlk hP hK hX hS ls hl
  have hl : lv_has ls 5 [(0, .ref (ad 0)), (1, .int (nI x)), (2, .int (nI e)), (3, .int (nI h)), (4, .int w)] := hl
  obtain ⟨hT, hR, hRd, hSh, hnp, hft, htr⟩ := id hJ
  have hn5 := hT.2.2.1
  have hg9 := hT.2.2.2.1
  have hp6 := hR.2.1
  have hrn8 := hRd.2.1
  have hXx := hT.2.2.2.2 x hxn
  obtain ⟨ho0, ho1, ho2, ho3, ho4⟩ := hXx.2
  have hp0 : 0 < p := hnp.mp (by omega)
  refine lv_aload_n hx hb dX7_drop_0 rfl (lv_at hl 0 rfl) ?_
  refine lv_iload_n hx hb dX7_drop_1 rfl (lv_at hl 1 rfl) ?_
  refine xk_fi (va_runV (As := [.int (nI x)]) (rest := []) ⟨hx, hb, hml, hown, hts⟩ (k2_isThing_in l hI (x := x) hT (by omega)) (cwV 1 hts gX7_drop_X7_isThing rfl rfl rfl (by decide +kernel) ⟨Nat.le_of_ble_eq_true rfl, Nat.le_of_ble_eq_true rfl⟩) (xk_preV X2_ok hK hX hP (xk_recv hK hP 0 (by omega) (ci := 7) e2_obj rfl)) rfl rfl hl.1 rfl (lv_room (Nat.le_of_ble_eq_true rfl)) dX7_drop_2 ⟨Nat.le_of_ble_eq_true rfl, Nat.le_of_ble_eq_true rfl⟩) hS (fun H locs hP hS => ?_)
  refine xn_zeq (tgt := 15) hx hb dX7_drop_5 (by decide) (by omega) (fun c_5 => absurd c_5 (by omega)) (fun c_5 => ?_)
  refine lv_iload_n hx hb dX7_drop_8 rfl (lv_at hl 2 rfl) ?_
  refine xk_fi (va_runS (As := [.int (nI e)]) (rest := []) ⟨hx, hb, hml, hown, hts⟩ (k2_isDrawer_t l hI (nI e) (xn_in (by omega) (by omega) (by omega))) (va_cwS 1 hts gX7_drop_X7_isDrawer rfl rfl rfl (by decide +kernel) ⟨Nat.le_of_ble_eq_true rfl, Nat.le_of_ble_eq_true rfl⟩) (xk_preS X2_ok hK hX hP) rfl rfl hl.1 rfl (lv_room (Nat.le_of_ble_eq_true rfl)) dX7_drop_9 ⟨Nat.le_of_ble_eq_true rfl, Nat.le_of_ble_eq_true rfl⟩) hS (fun H locs hP hS => ?_)
  refine xn_zne (tgt := 17) hx hb dX7_drop_12 (by decide) (by omega) (fun c_12 => ?_) (fun c_12 => absurd c_12 (by omega))
  refine lv_iload_n hx hb dX7_drop_17 rfl (lv_at hl 3 rfl) ?_
  refine lv_iconst (v := nI 0) hx hb dX7_drop_18 (by decide) ?_
  refine lv_bipush (v := nI 99) hx hb dX7_drop_19 (by decide) ?_
  refine xk_fi (va_runS (As := [.int (nI h), .int (nI 0), .int (nI 99)]) (rest := []) ⟨hx, hb, hml, hown, hts⟩ (k2_within_t l hI (nI h) (nI 0) (nI 99) (xn_in (by omega) (by omega) (by omega))) (va_cwS 3 hts gX7_drop_X7_within rfl rfl rfl (by decide +kernel) ⟨Nat.le_of_ble_eq_true rfl, Nat.le_of_ble_eq_true rfl⟩) (xk_preS X2_ok hK hX hP) rfl rfl hl.1 rfl (lv_room (Nat.le_of_ble_eq_true rfl)) dX7_drop_21 ⟨Nat.le_of_ble_eq_true rfl, Nat.le_of_ble_eq_true rfl⟩) hS (fun H locs hP hS => ?_)
  refine xn_zeq (tgt := 37) hx hb dX7_drop_24 (by decide) (by omega) (fun c_24 => absurd c_24 (by omega)) (fun c_24 => ?_)
  refine lv_iload hx hb dX7_drop_27 (lv_at hl 4 rfl) ?_
  refine lv_iconst (v := nI 0) hx hb dX7_drop_29 (by decide) ?_
  refine lv_iconst (v := nI 2) hx hb dX7_drop_30 (by decide) ?_
  refine xk_fi (va_runS (As := [.int w, .int (nI 0), .int (nI 2)]) (rest := []) ⟨hx, hb, hml, hown, hts⟩ (k2_within_f l hI w (nI 0) (nI 2) (by assumption)) (va_cwS 3 hts gX7_drop_X7_within rfl rfl rfl (by decide +kernel) ⟨Nat.le_of_ble_eq_true rfl, Nat.le_of_ble_eq_true rfl⟩) (xk_preS X2_ok hK hX hP) rfl rfl hl.1 rfl (lv_room (Nat.le_of_ble_eq_true rfl)) dX7_drop_31 ⟨Nat.le_of_ble_eq_true rfl, Nat.le_of_ble_eq_true rfl⟩) hS (fun H locs hP hS => ?_)
  refine xn_zne (tgt := 40) hx hb dX7_drop_34 (by decide) (by omega) (fun c_34 => absurd c_34 (by omega)) (fun c_34 => ?_)
  refine lv_bipush (v := (-2)) hx hb dX7_drop_37 (by decide) ?_
  exact xk_iret hx hb hr (vp_nar_int _) X2_ok hK hX hP hS hlk dX7_drop_39 (⟨rfl, hJ⟩)

set_option maxRecDepth 20000 in
theorem flX7_drop_138 {s : State} {av : Array Value} (hts : ∀ w ∈ wsX7_drop, w.before av s = true) : (Cond.fieldLink RX7 138 "WellBackModel" "drawer" "I").before av s = true := hts _ (by decide +kernel)
set_option maxRecDepth 20000 in
theorem inX7_drop_X7 : ∀ w ∈ u_ws RX7 TX7 30, w ∈ wsX7_drop := by decide +kernel
set_option maxHeartbeats 4000000 in
set_option maxRecDepth 100000 in
theorem a2_drop_z0 (l : Launch) {D : va_G} {ca : Nat → ClassId} {ad : Nat → Nat} (hI : Ij ad 18) {σ : Sg} {n p g rn : Nat} {d : Nat → Nat} {th rd : Nat → Nat → Nat} {sl sn : Nat → Nat} {sc : Nat → Nat → Int32} {ft tr : Int32} {x : Nat} {e h : Nat} (hJ : I2 n p g rn d th rd sl sn sc ft tr σ) (hxn : x < n) (he4 : e ≤ 4) (hh : h ≤ 99) (hc : cta p d e h (dl g th x) p 1 = 0) : C2i l D ca ad yX7_drop wsX7_drop { frames := 2, cells := 0, slots := 0, locals := 48 } [.ref (ad 0), .int (nI x), .int (nI e), .int (nI h), .int (nI 0)] σ (fun r σ' => r = -9 ∧ I2 n p g rn d th rd sl sn sc ft tr σ') := by
  refine xk_entry cX7_drop 5 (some .int) (by decide) rfl (Nat.le_of_ble_eq_true rfl) ?_
  intro pP eE sS mM below meth cC hx hb hml hr hts hown hlk hP hK hX hS ls hl
  have hl : lv_has ls 5 [(0, .ref (ad 0)), (1, .int (nI x)), (2, .int (nI e)), (3, .int (nI h)), (4, .int (nI 0))] := hl
  obtain ⟨hT, hR, hRd, hSh, hnp, hft, htr⟩ := id hJ
  have hn5 := hT.2.2.1
  have hg9 := hT.2.2.2.1
  have hp6 := hR.2.1
  have hrn8 := hRd.2.1
  have hXx := hT.2.2.2.2 x hxn
  obtain ⟨ho0, ho1, ho2, ho3, ho4⟩ := hXx.2
  have hp0 : 0 < p := hnp.mp (by omega)
  refine lv_aload_n hx hb dX7_drop_0 rfl (lv_at hl 0 rfl) ?_
  refine lv_iload_n hx hb dX7_drop_1 rfl (lv_at hl 1 rfl) ?_
  refine xk_fi (va_runV (As := [.int (nI x)]) (rest := []) ⟨hx, hb, hml, hown, hts⟩ (k2_isThing_in l hI (x := x) hT (by omega)) (cwV 1 hts gX7_drop_X7_isThing rfl rfl rfl (by decide +kernel) ⟨Nat.le_of_ble_eq_true rfl, Nat.le_of_ble_eq_true rfl⟩) (xk_preV X2_ok hK hX hP (xk_recv hK hP 0 (by omega) (ci := 7) e2_obj rfl)) rfl rfl hl.1 rfl (lv_room (Nat.le_of_ble_eq_true rfl)) dX7_drop_2 ⟨Nat.le_of_ble_eq_true rfl, Nat.le_of_ble_eq_true rfl⟩) hS (fun H locs hP hS => ?_)
  refine xn_zeq (tgt := 15) hx hb dX7_drop_5 (by decide) (by omega) (fun c_5 => absurd c_5 (by omega)) (fun c_5 => ?_)
  refine lv_iload_n hx hb dX7_drop_8 rfl (lv_at hl 2 rfl) ?_
  refine xk_fi (va_runS (As := [.int (nI e)]) (rest := []) ⟨hx, hb, hml, hown, hts⟩ (k2_isDrawer_t l hI (nI e) (xn_in (by omega) (by omega) (by omega))) (va_cwS 1 hts gX7_drop_X7_isDrawer rfl rfl rfl (by decide +kernel) ⟨Nat.le_of_ble_eq_true rfl, Nat.le_of_ble_eq_true rfl⟩) (xk_preS X2_ok hK hX hP) rfl rfl hl.1 rfl (lv_room (Nat.le_of_ble_eq_true rfl)) dX7_drop_9 ⟨Nat.le_of_ble_eq_true rfl, Nat.le_of_ble_eq_true rfl⟩) hS (fun H locs hP hS => ?_)
  refine xn_zne (tgt := 17) hx hb dX7_drop_12 (by decide) (by omega) (fun c_12 => ?_) (fun c_12 => absurd c_12 (by omega))
  refine lv_iload_n hx hb dX7_drop_17 rfl (lv_at hl 3 rfl) ?_
  refine lv_iconst (v := nI 0) hx hb dX7_drop_18 (by decide) ?_
  refine lv_bipush (v := nI 99) hx hb dX7_drop_19 (by decide) ?_
  refine xk_fi (va_runS (As := [.int (nI h), .int (nI 0), .int (nI 99)]) (rest := []) ⟨hx, hb, hml, hown, hts⟩ (k2_within_t l hI (nI h) (nI 0) (nI 99) (xn_in (by omega) (by omega) (by omega))) (va_cwS 3 hts gX7_drop_X7_within rfl rfl rfl (by decide +kernel) ⟨Nat.le_of_ble_eq_true rfl, Nat.le_of_ble_eq_true rfl⟩) (xk_preS X2_ok hK hX hP) rfl rfl hl.1 rfl (lv_room (Nat.le_of_ble_eq_true rfl)) dX7_drop_21 ⟨Nat.le_of_ble_eq_true rfl, Nat.le_of_ble_eq_true rfl⟩) hS (fun H locs hP hS => ?_)
  refine xn_zeq (tgt := 37) hx hb dX7_drop_24 (by decide) (by omega) (fun c_24 => absurd c_24 (by omega)) (fun c_24 => ?_)
  refine lv_iload hx hb dX7_drop_27 (lv_at hl 4 rfl) ?_
  refine lv_iconst (v := nI 0) hx hb dX7_drop_29 (by decide) ?_
  refine lv_iconst (v := nI 2) hx hb dX7_drop_30 (by decide) ?_
  refine xk_fi (va_runS (As := [.int (nI 0), .int (nI 0), .int (nI 2)]) (rest := []) ⟨hx, hb, hml, hown, hts⟩ (k2_within_t l hI (nI 0) (nI 0) (nI 2) (xn_in (by omega) (by omega) (by omega))) (va_cwS 3 hts gX7_drop_X7_within rfl rfl rfl (by decide +kernel) ⟨Nat.le_of_ble_eq_true rfl, Nat.le_of_ble_eq_true rfl⟩) (xk_preS X2_ok hK hX hP) rfl rfl hl.1 rfl (lv_room (Nat.le_of_ble_eq_true rfl)) dX7_drop_31 ⟨Nat.le_of_ble_eq_true rfl, Nat.le_of_ble_eq_true rfl⟩) hS (fun H locs hP hS => ?_)
  refine xn_zne (tgt := 40) hx hb dX7_drop_34 (by decide) (by omega) (fun c_34 => ?_) (fun c_34 => absurd c_34 (by omega))
  refine lv_aload_n hx hb dX7_drop_40 rfl (lv_at hl 0 rfl) ?_
  refine lv_iload_n hx hb dX7_drop_41 rfl (lv_at hl 1 rfl) ?_
  refine lv_iload_n hx hb dX7_drop_42 rfl (lv_at hl 2 rfl) ?_
  refine lv_iload_n hx hb dX7_drop_43 rfl (lv_at hl 3 rfl) ?_
  refine xk_cv (va_runV (As := [.int (nI x), .int (nI e), .int (nI h)]) (rest := []) ⟨hx, hb, hml, hown, hts⟩ (k2_follow l hI (x := x) (e := e) (h := h) hT hR hp0 hxn (by omega) (by omega)) (cwV 3 hts gX7_drop_X7_follow rfl rfl rfl (by decide +kernel) ⟨Nat.le_of_ble_eq_true rfl, Nat.le_of_ble_eq_true rfl⟩) (xk_preV X2_ok hK hX hP (xk_recv hK hP 0 (by omega) (ci := 7) e2_obj rfl)) rfl rfl hl.1 rfl (lv_room (Nat.le_of_ble_eq_true rfl)) dX7_drop_44 ⟨Nat.le_of_ble_eq_true rfl, Nat.le_of_ble_eq_true rfl⟩) hS (fun τ44 H locs hp hP hS => ?_)
  obtain ⟨hq20, hq21, hq22, hF44⟩ := hp
  refine lv_iload hx hb dX7_drop_47 (lv_at hl 4 rfl) ?_
  refine xn_zne (tgt := 59) hx hb dX7_drop_49 (by decide) (by omega) (fun c_49 => absurd c_49 (by omega)) (fun c_49 => ?_)
  refine lv_aload_n hx hb dX7_drop_52 rfl (lv_at hl 0 rfl) ?_
  refine xk_get hx hb hts (inX7_drop_X7) hown hK hP 0 (by omega) (ci := 7) e2_obj rfl 20 (by decide) (flX7_drop_138 hts) rfl (.int (τ44 0 20)) rfl dX7_drop_53 ?_
  refine xn_eqi (y := (-9)) (hq20.trans (if_pos hc)) ?_
  refine lv_goto (tgt := 76) hx hb dX7_drop_56 (by decide) ?_
  exact xk_iret hx hb hr (vp_nar_int _) X2_ok hK hX hP hS hlk dX7_drop_76 (⟨rfl, I2_fr hJ hF44.M⟩)

set_option maxHeartbeats 4000000 in
set_option maxRecDepth 100000 in
theorem a2_drop_n0 (l : Launch) {D : va_G} {ca : Nat → ClassId} {ad : Nat → Nat} (hI : Ij ad 18) {σ : Sg} {n p g rn : Nat} {d : Nat → Nat} {th rd : Nat → Nat → Nat} {sl sn : Nat → Nat} {sc : Nat → Nat → Int32} {ft tr : Int32} {x : Nat} {e h : Nat} (hJ : I2 n p g rn d th rd sl sn sc ft tr σ) (hxn : x < n) (he4 : e ≤ 4) (hh : h ≤ 99) (hc : ¬ cta p d e h (dl g th x) p 1 = 0) : C2i l D ca ad yX7_drop wsX7_drop { frames := 2, cells := 0, slots := 0, locals := 48 } [.ref (ad 0), .int (nI x), .int (nI e), .int (nI h), .int (nI 0)] σ (fun r σ' => r = nI (d ((h + cta p d e h (dl g th x) p 1 * dl g th x) % p)) ∧ I2 n p g rn d th rd sl sn sc ft tr σ') := by
  refine xk_entry cX7_drop 5 (some .int) (by decide) rfl (Nat.le_of_ble_eq_true rfl) ?_
  intro pP eE sS mM below meth cC hx hb hml hr hts hown hlk hP hK hX hS ls hl
  have hl : lv_has ls 5 [(0, .ref (ad 0)), (1, .int (nI x)), (2, .int (nI e)), (3, .int (nI h)), (4, .int (nI 0))] := hl
  obtain ⟨hT, hR, hRd, hSh, hnp, hft, htr⟩ := id hJ
  have hn5 := hT.2.2.1
  have hg9 := hT.2.2.2.1
  have hp6 := hR.2.1
  have hrn8 := hRd.2.1
  have hXx := hT.2.2.2.2 x hxn
  obtain ⟨ho0, ho1, ho2, ho3, ho4⟩ := hXx.2
  have hp0 : 0 < p := hnp.mp (by omega)
  refine lv_aload_n hx hb dX7_drop_0 rfl (lv_at hl 0 rfl) ?_
  refine lv_iload_n hx hb dX7_drop_1 rfl (lv_at hl 1 rfl) ?_
  refine xk_fi (va_runV (As := [.int (nI x)]) (rest := []) ⟨hx, hb, hml, hown, hts⟩ (k2_isThing_in l hI (x := x) hT (by omega)) (cwV 1 hts gX7_drop_X7_isThing rfl rfl rfl (by decide +kernel) ⟨Nat.le_of_ble_eq_true rfl, Nat.le_of_ble_eq_true rfl⟩) (xk_preV X2_ok hK hX hP (xk_recv hK hP 0 (by omega) (ci := 7) e2_obj rfl)) rfl rfl hl.1 rfl (lv_room (Nat.le_of_ble_eq_true rfl)) dX7_drop_2 ⟨Nat.le_of_ble_eq_true rfl, Nat.le_of_ble_eq_true rfl⟩) hS (fun H locs hP hS => ?_)
  refine xn_zeq (tgt := 15) hx hb dX7_drop_5 (by decide) (by omega) (fun c_5 => absurd c_5 (by omega)) (fun c_5 => ?_)
  refine lv_iload_n hx hb dX7_drop_8 rfl (lv_at hl 2 rfl) ?_
  refine xk_fi (va_runS (As := [.int (nI e)]) (rest := []) ⟨hx, hb, hml, hown, hts⟩ (k2_isDrawer_t l hI (nI e) (xn_in (by omega) (by omega) (by omega))) (va_cwS 1 hts gX7_drop_X7_isDrawer rfl rfl rfl (by decide +kernel) ⟨Nat.le_of_ble_eq_true rfl, Nat.le_of_ble_eq_true rfl⟩) (xk_preS X2_ok hK hX hP) rfl rfl hl.1 rfl (lv_room (Nat.le_of_ble_eq_true rfl)) dX7_drop_9 ⟨Nat.le_of_ble_eq_true rfl, Nat.le_of_ble_eq_true rfl⟩) hS (fun H locs hP hS => ?_)
  refine xn_zne (tgt := 17) hx hb dX7_drop_12 (by decide) (by omega) (fun c_12 => ?_) (fun c_12 => absurd c_12 (by omega))
  refine lv_iload_n hx hb dX7_drop_17 rfl (lv_at hl 3 rfl) ?_
  refine lv_iconst (v := nI 0) hx hb dX7_drop_18 (by decide) ?_
  refine lv_bipush (v := nI 99) hx hb dX7_drop_19 (by decide) ?_
  refine xk_fi (va_runS (As := [.int (nI h), .int (nI 0), .int (nI 99)]) (rest := []) ⟨hx, hb, hml, hown, hts⟩ (k2_within_t l hI (nI h) (nI 0) (nI 99) (xn_in (by omega) (by omega) (by omega))) (va_cwS 3 hts gX7_drop_X7_within rfl rfl rfl (by decide +kernel) ⟨Nat.le_of_ble_eq_true rfl, Nat.le_of_ble_eq_true rfl⟩) (xk_preS X2_ok hK hX hP) rfl rfl hl.1 rfl (lv_room (Nat.le_of_ble_eq_true rfl)) dX7_drop_21 ⟨Nat.le_of_ble_eq_true rfl, Nat.le_of_ble_eq_true rfl⟩) hS (fun H locs hP hS => ?_)
  refine xn_zeq (tgt := 37) hx hb dX7_drop_24 (by decide) (by omega) (fun c_24 => absurd c_24 (by omega)) (fun c_24 => ?_)
  refine lv_iload hx hb dX7_drop_27 (lv_at hl 4 rfl) ?_
  refine lv_iconst (v := nI 0) hx hb dX7_drop_29 (by decide) ?_
  refine lv_iconst (v := nI 2) hx hb dX7_drop_30 (by decide) ?_
  refine xk_fi (va_runS (As := [.int (nI 0), .int (nI 0), .int (nI 2)]) (rest := []) ⟨hx, hb, hml, hown, hts⟩ (k2_within_t l hI (nI 0) (nI 0) (nI 2) (xn_in (by omega) (by omega) (by omega))) (va_cwS 3 hts gX7_drop_X7_within rfl rfl rfl (by decide +kernel) ⟨Nat.le_of_ble_eq_true rfl, Nat.le_of_ble_eq_true rfl⟩) (xk_preS X2_ok hK hX hP) rfl rfl hl.1 rfl (lv_room (Nat.le_of_ble_eq_true rfl)) dX7_drop_31 ⟨Nat.le_of_ble_eq_true rfl, Nat.le_of_ble_eq_true rfl⟩) hS (fun H locs hP hS => ?_)
  refine xn_zne (tgt := 40) hx hb dX7_drop_34 (by decide) (by omega) (fun c_34 => ?_) (fun c_34 => absurd c_34 (by omega))
  refine lv_aload_n hx hb dX7_drop_40 rfl (lv_at hl 0 rfl) ?_
  refine lv_iload_n hx hb dX7_drop_41 rfl (lv_at hl 1 rfl) ?_
  refine lv_iload_n hx hb dX7_drop_42 rfl (lv_at hl 2 rfl) ?_
  refine lv_iload_n hx hb dX7_drop_43 rfl (lv_at hl 3 rfl) ?_
  refine xk_cv (va_runV (As := [.int (nI x), .int (nI e), .int (nI h)]) (rest := []) ⟨hx, hb, hml, hown, hts⟩ (k2_follow l hI (x := x) (e := e) (h := h) hT hR hp0 hxn (by omega) (by omega)) (cwV 3 hts gX7_drop_X7_follow rfl rfl rfl (by decide +kernel) ⟨Nat.le_of_ble_eq_true rfl, Nat.le_of_ble_eq_true rfl⟩) (xk_preV X2_ok hK hX hP (xk_recv hK hP 0 (by omega) (ci := 7) e2_obj rfl)) rfl rfl hl.1 rfl (lv_room (Nat.le_of_ble_eq_true rfl)) dX7_drop_44 ⟨Nat.le_of_ble_eq_true rfl, Nat.le_of_ble_eq_true rfl⟩) hS (fun τ44 H locs hp hP hS => ?_)
  obtain ⟨hq20, hq21, hq22, hF44⟩ := hp
  refine lv_iload hx hb dX7_drop_47 (lv_at hl 4 rfl) ?_
  refine xn_zne (tgt := 59) hx hb dX7_drop_49 (by decide) (by omega) (fun c_49 => absurd c_49 (by omega)) (fun c_49 => ?_)
  refine lv_aload_n hx hb dX7_drop_52 rfl (lv_at hl 0 rfl) ?_
  refine xk_get hx hb hts (inX7_drop_X7) hown hK hP 0 (by omega) (ci := 7) e2_obj rfl 20 (by decide) (flX7_drop_138 hts) rfl (.int (τ44 0 20)) rfl dX7_drop_53 ?_
  refine xn_eqi (y := nI (d ((h + cta p d e h (dl g th x) p 1 * dl g th x) % p))) (hq20.trans (if_neg hc)) ?_
  refine lv_goto (tgt := 76) hx hb dX7_drop_56 (by decide) ?_
  exact xk_iret hx hb hr (vp_nar_int _) X2_ok hK hX hP hS hlk dX7_drop_76 (⟨rfl, I2_fr hJ hF44.M⟩)

set_option maxRecDepth 20000 in
theorem flX7_drop_141 {s : State} {av : Array Value} (hts : ∀ w ∈ wsX7_drop, w.before av s = true) : (Cond.fieldLink RX7 141 "WellBackModel" "drawn" "I").before av s = true := hts _ (by decide +kernel)
set_option maxHeartbeats 4000000 in
set_option maxRecDepth 100000 in
theorem a2_drop_z1 (l : Launch) {D : va_G} {ca : Nat → ClassId} {ad : Nat → Nat} (hI : Ij ad 18) {σ : Sg} {n p g rn : Nat} {d : Nat → Nat} {th rd : Nat → Nat → Nat} {sl sn : Nat → Nat} {sc : Nat → Nat → Int32} {ft tr : Int32} {x : Nat} {e h : Nat} (hJ : I2 n p g rn d th rd sl sn sc ft tr σ) (hxn : x < n) (he4 : e ≤ 4) (hh : h ≤ 99) (hc : cta p d e h (dl g th x) p 1 = 0) : C2i l D ca ad yX7_drop wsX7_drop { frames := 2, cells := 0, slots := 0, locals := 48 } [.ref (ad 0), .int (nI x), .int (nI e), .int (nI h), .int (nI 1)] σ (fun r σ' => r = -9 ∧ I2 n p g rn d th rd sl sn sc ft tr σ') := by
  refine xk_entry cX7_drop 5 (some .int) (by decide) rfl (Nat.le_of_ble_eq_true rfl) ?_
  intro pP eE sS mM below meth cC hx hb hml hr hts hown hlk hP hK hX hS ls hl
  have hl : lv_has ls 5 [(0, .ref (ad 0)), (1, .int (nI x)), (2, .int (nI e)), (3, .int (nI h)), (4, .int (nI 1))] := hl
  obtain ⟨hT, hR, hRd, hSh, hnp, hft, htr⟩ := id hJ
  have hn5 := hT.2.2.1
  have hg9 := hT.2.2.2.1
  have hp6 := hR.2.1
  have hrn8 := hRd.2.1
  have hXx := hT.2.2.2.2 x hxn
  obtain ⟨ho0, ho1, ho2, ho3, ho4⟩ := hXx.2
  have hp0 : 0 < p := hnp.mp (by omega)
  refine lv_aload_n hx hb dX7_drop_0 rfl (lv_at hl 0 rfl) ?_
  refine lv_iload_n hx hb dX7_drop_1 rfl (lv_at hl 1 rfl) ?_
  refine xk_fi (va_runV (As := [.int (nI x)]) (rest := []) ⟨hx, hb, hml, hown, hts⟩ (k2_isThing_in l hI (x := x) hT (by omega)) (cwV 1 hts gX7_drop_X7_isThing rfl rfl rfl (by decide +kernel) ⟨Nat.le_of_ble_eq_true rfl, Nat.le_of_ble_eq_true rfl⟩) (xk_preV X2_ok hK hX hP (xk_recv hK hP 0 (by omega) (ci := 7) e2_obj rfl)) rfl rfl hl.1 rfl (lv_room (Nat.le_of_ble_eq_true rfl)) dX7_drop_2 ⟨Nat.le_of_ble_eq_true rfl, Nat.le_of_ble_eq_true rfl⟩) hS (fun H locs hP hS => ?_)
  refine xn_zeq (tgt := 15) hx hb dX7_drop_5 (by decide) (by omega) (fun c_5 => absurd c_5 (by omega)) (fun c_5 => ?_)
  refine lv_iload_n hx hb dX7_drop_8 rfl (lv_at hl 2 rfl) ?_
  refine xk_fi (va_runS (As := [.int (nI e)]) (rest := []) ⟨hx, hb, hml, hown, hts⟩ (k2_isDrawer_t l hI (nI e) (xn_in (by omega) (by omega) (by omega))) (va_cwS 1 hts gX7_drop_X7_isDrawer rfl rfl rfl (by decide +kernel) ⟨Nat.le_of_ble_eq_true rfl, Nat.le_of_ble_eq_true rfl⟩) (xk_preS X2_ok hK hX hP) rfl rfl hl.1 rfl (lv_room (Nat.le_of_ble_eq_true rfl)) dX7_drop_9 ⟨Nat.le_of_ble_eq_true rfl, Nat.le_of_ble_eq_true rfl⟩) hS (fun H locs hP hS => ?_)
  refine xn_zne (tgt := 17) hx hb dX7_drop_12 (by decide) (by omega) (fun c_12 => ?_) (fun c_12 => absurd c_12 (by omega))
  refine lv_iload_n hx hb dX7_drop_17 rfl (lv_at hl 3 rfl) ?_
  refine lv_iconst (v := nI 0) hx hb dX7_drop_18 (by decide) ?_
  refine lv_bipush (v := nI 99) hx hb dX7_drop_19 (by decide) ?_
  refine xk_fi (va_runS (As := [.int (nI h), .int (nI 0), .int (nI 99)]) (rest := []) ⟨hx, hb, hml, hown, hts⟩ (k2_within_t l hI (nI h) (nI 0) (nI 99) (xn_in (by omega) (by omega) (by omega))) (va_cwS 3 hts gX7_drop_X7_within rfl rfl rfl (by decide +kernel) ⟨Nat.le_of_ble_eq_true rfl, Nat.le_of_ble_eq_true rfl⟩) (xk_preS X2_ok hK hX hP) rfl rfl hl.1 rfl (lv_room (Nat.le_of_ble_eq_true rfl)) dX7_drop_21 ⟨Nat.le_of_ble_eq_true rfl, Nat.le_of_ble_eq_true rfl⟩) hS (fun H locs hP hS => ?_)
  refine xn_zeq (tgt := 37) hx hb dX7_drop_24 (by decide) (by omega) (fun c_24 => absurd c_24 (by omega)) (fun c_24 => ?_)
  refine lv_iload hx hb dX7_drop_27 (lv_at hl 4 rfl) ?_
  refine lv_iconst (v := nI 0) hx hb dX7_drop_29 (by decide) ?_
  refine lv_iconst (v := nI 2) hx hb dX7_drop_30 (by decide) ?_
  refine xk_fi (va_runS (As := [.int (nI 1), .int (nI 0), .int (nI 2)]) (rest := []) ⟨hx, hb, hml, hown, hts⟩ (k2_within_t l hI (nI 1) (nI 0) (nI 2) (xn_in (by omega) (by omega) (by omega))) (va_cwS 3 hts gX7_drop_X7_within rfl rfl rfl (by decide +kernel) ⟨Nat.le_of_ble_eq_true rfl, Nat.le_of_ble_eq_true rfl⟩) (xk_preS X2_ok hK hX hP) rfl rfl hl.1 rfl (lv_room (Nat.le_of_ble_eq_true rfl)) dX7_drop_31 ⟨Nat.le_of_ble_eq_true rfl, Nat.le_of_ble_eq_true rfl⟩) hS (fun H locs hP hS => ?_)
  refine xn_zne (tgt := 40) hx hb dX7_drop_34 (by decide) (by omega) (fun c_34 => ?_) (fun c_34 => absurd c_34 (by omega))
  refine lv_aload_n hx hb dX7_drop_40 rfl (lv_at hl 0 rfl) ?_
  refine lv_iload_n hx hb dX7_drop_41 rfl (lv_at hl 1 rfl) ?_
  refine lv_iload_n hx hb dX7_drop_42 rfl (lv_at hl 2 rfl) ?_
  refine lv_iload_n hx hb dX7_drop_43 rfl (lv_at hl 3 rfl) ?_
  refine xk_cv (va_runV (As := [.int (nI x), .int (nI e), .int (nI h)]) (rest := []) ⟨hx, hb, hml, hown, hts⟩ (k2_follow l hI (x := x) (e := e) (h := h) hT hR hp0 hxn (by omega) (by omega)) (cwV 3 hts gX7_drop_X7_follow rfl rfl rfl (by decide +kernel) ⟨Nat.le_of_ble_eq_true rfl, Nat.le_of_ble_eq_true rfl⟩) (xk_preV X2_ok hK hX hP (xk_recv hK hP 0 (by omega) (ci := 7) e2_obj rfl)) rfl rfl hl.1 rfl (lv_room (Nat.le_of_ble_eq_true rfl)) dX7_drop_44 ⟨Nat.le_of_ble_eq_true rfl, Nat.le_of_ble_eq_true rfl⟩) hS (fun τ44 H locs hp hP hS => ?_)
  obtain ⟨hq20, hq21, hq22, hF44⟩ := hp
  refine lv_iload hx hb dX7_drop_47 (lv_at hl 4 rfl) ?_
  refine xn_zne (tgt := 59) hx hb dX7_drop_49 (by decide) (by omega) (fun c_49 => ?_) (fun c_49 => absurd c_49 (by omega))
  refine lv_iload hx hb dX7_drop_59 (lv_at hl 4 rfl) ?_
  refine lv_iconst (v := nI 1) hx hb dX7_drop_61 (by decide) ?_
  refine xn_ine (tgt := 72) hx hb dX7_drop_62 (by decide) (by omega) (by omega) (fun c_62 => absurd c_62 (by omega)) (fun c_62 => ?_)
  refine lv_aload_n hx hb dX7_drop_65 rfl (lv_at hl 0 rfl) ?_
  refine xk_get hx hb hts (inX7_drop_X7) hown hK hP 0 (by omega) (ci := 7) e2_obj rfl 21 (by decide) (flX7_drop_141 hts) rfl (.int (τ44 0 21)) rfl dX7_drop_66 ?_
  refine xn_eqi (y := (-9)) (hq21.trans (if_pos hc)) ?_
  refine lv_goto (tgt := 76) hx hb dX7_drop_69 (by decide) ?_
  exact xk_iret hx hb hr (vp_nar_int _) X2_ok hK hX hP hS hlk dX7_drop_76 (⟨rfl, I2_fr hJ hF44.M⟩)

set_option maxHeartbeats 4000000 in
set_option maxRecDepth 100000 in
theorem a2_drop_n1 (l : Launch) {D : va_G} {ca : Nat → ClassId} {ad : Nat → Nat} (hI : Ij ad 18) {σ : Sg} {n p g rn : Nat} {d : Nat → Nat} {th rd : Nat → Nat → Nat} {sl sn : Nat → Nat} {sc : Nat → Nat → Int32} {ft tr : Int32} {x : Nat} {e h : Nat} (hJ : I2 n p g rn d th rd sl sn sc ft tr σ) (hxn : x < n) (he4 : e ≤ 4) (hh : h ≤ 99) (hc : ¬ cta p d e h (dl g th x) p 1 = 0) : C2i l D ca ad yX7_drop wsX7_drop { frames := 2, cells := 0, slots := 0, locals := 48 } [.ref (ad 0), .int (nI x), .int (nI e), .int (nI h), .int (nI 1)] σ (fun r σ' => r = nI (h + cta p d e h (dl g th x) p 1 * dl g th x) ∧ I2 n p g rn d th rd sl sn sc ft tr σ') := by
  refine xk_entry cX7_drop 5 (some .int) (by decide) rfl (Nat.le_of_ble_eq_true rfl) ?_
  intro pP eE sS mM below meth cC hx hb hml hr hts hown hlk hP hK hX hS ls hl
  have hl : lv_has ls 5 [(0, .ref (ad 0)), (1, .int (nI x)), (2, .int (nI e)), (3, .int (nI h)), (4, .int (nI 1))] := hl
  obtain ⟨hT, hR, hRd, hSh, hnp, hft, htr⟩ := id hJ
  have hn5 := hT.2.2.1
  have hg9 := hT.2.2.2.1
  have hp6 := hR.2.1
  have hrn8 := hRd.2.1
  have hXx := hT.2.2.2.2 x hxn
  obtain ⟨ho0, ho1, ho2, ho3, ho4⟩ := hXx.2
  have hp0 : 0 < p := hnp.mp (by omega)
  refine lv_aload_n hx hb dX7_drop_0 rfl (lv_at hl 0 rfl) ?_
  refine lv_iload_n hx hb dX7_drop_1 rfl (lv_at hl 1 rfl) ?_
  refine xk_fi (va_runV (As := [.int (nI x)]) (rest := []) ⟨hx, hb, hml, hown, hts⟩ (k2_isThing_in l hI (x := x) hT (by omega)) (cwV 1 hts gX7_drop_X7_isThing rfl rfl rfl (by decide +kernel) ⟨Nat.le_of_ble_eq_true rfl, Nat.le_of_ble_eq_true rfl⟩) (xk_preV X2_ok hK hX hP (xk_recv hK hP 0 (by omega) (ci := 7) e2_obj rfl)) rfl rfl hl.1 rfl (lv_room (Nat.le_of_ble_eq_true rfl)) dX7_drop_2 ⟨Nat.le_of_ble_eq_true rfl, Nat.le_of_ble_eq_true rfl⟩) hS (fun H locs hP hS => ?_)
  refine xn_zeq (tgt := 15) hx hb dX7_drop_5 (by decide) (by omega) (fun c_5 => absurd c_5 (by omega)) (fun c_5 => ?_)
  refine lv_iload_n hx hb dX7_drop_8 rfl (lv_at hl 2 rfl) ?_
  refine xk_fi (va_runS (As := [.int (nI e)]) (rest := []) ⟨hx, hb, hml, hown, hts⟩ (k2_isDrawer_t l hI (nI e) (xn_in (by omega) (by omega) (by omega))) (va_cwS 1 hts gX7_drop_X7_isDrawer rfl rfl rfl (by decide +kernel) ⟨Nat.le_of_ble_eq_true rfl, Nat.le_of_ble_eq_true rfl⟩) (xk_preS X2_ok hK hX hP) rfl rfl hl.1 rfl (lv_room (Nat.le_of_ble_eq_true rfl)) dX7_drop_9 ⟨Nat.le_of_ble_eq_true rfl, Nat.le_of_ble_eq_true rfl⟩) hS (fun H locs hP hS => ?_)
  refine xn_zne (tgt := 17) hx hb dX7_drop_12 (by decide) (by omega) (fun c_12 => ?_) (fun c_12 => absurd c_12 (by omega))
  refine lv_iload_n hx hb dX7_drop_17 rfl (lv_at hl 3 rfl) ?_
  refine lv_iconst (v := nI 0) hx hb dX7_drop_18 (by decide) ?_
  refine lv_bipush (v := nI 99) hx hb dX7_drop_19 (by decide) ?_
  refine xk_fi (va_runS (As := [.int (nI h), .int (nI 0), .int (nI 99)]) (rest := []) ⟨hx, hb, hml, hown, hts⟩ (k2_within_t l hI (nI h) (nI 0) (nI 99) (xn_in (by omega) (by omega) (by omega))) (va_cwS 3 hts gX7_drop_X7_within rfl rfl rfl (by decide +kernel) ⟨Nat.le_of_ble_eq_true rfl, Nat.le_of_ble_eq_true rfl⟩) (xk_preS X2_ok hK hX hP) rfl rfl hl.1 rfl (lv_room (Nat.le_of_ble_eq_true rfl)) dX7_drop_21 ⟨Nat.le_of_ble_eq_true rfl, Nat.le_of_ble_eq_true rfl⟩) hS (fun H locs hP hS => ?_)
  refine xn_zeq (tgt := 37) hx hb dX7_drop_24 (by decide) (by omega) (fun c_24 => absurd c_24 (by omega)) (fun c_24 => ?_)
  refine lv_iload hx hb dX7_drop_27 (lv_at hl 4 rfl) ?_
  refine lv_iconst (v := nI 0) hx hb dX7_drop_29 (by decide) ?_
  refine lv_iconst (v := nI 2) hx hb dX7_drop_30 (by decide) ?_
  refine xk_fi (va_runS (As := [.int (nI 1), .int (nI 0), .int (nI 2)]) (rest := []) ⟨hx, hb, hml, hown, hts⟩ (k2_within_t l hI (nI 1) (nI 0) (nI 2) (xn_in (by omega) (by omega) (by omega))) (va_cwS 3 hts gX7_drop_X7_within rfl rfl rfl (by decide +kernel) ⟨Nat.le_of_ble_eq_true rfl, Nat.le_of_ble_eq_true rfl⟩) (xk_preS X2_ok hK hX hP) rfl rfl hl.1 rfl (lv_room (Nat.le_of_ble_eq_true rfl)) dX7_drop_31 ⟨Nat.le_of_ble_eq_true rfl, Nat.le_of_ble_eq_true rfl⟩) hS (fun H locs hP hS => ?_)
  refine xn_zne (tgt := 40) hx hb dX7_drop_34 (by decide) (by omega) (fun c_34 => ?_) (fun c_34 => absurd c_34 (by omega))
  refine lv_aload_n hx hb dX7_drop_40 rfl (lv_at hl 0 rfl) ?_
  refine lv_iload_n hx hb dX7_drop_41 rfl (lv_at hl 1 rfl) ?_
  refine lv_iload_n hx hb dX7_drop_42 rfl (lv_at hl 2 rfl) ?_
  refine lv_iload_n hx hb dX7_drop_43 rfl (lv_at hl 3 rfl) ?_
  refine xk_cv (va_runV (As := [.int (nI x), .int (nI e), .int (nI h)]) (rest := []) ⟨hx, hb, hml, hown, hts⟩ (k2_follow l hI (x := x) (e := e) (h := h) hT hR hp0 hxn (by omega) (by omega)) (cwV 3 hts gX7_drop_X7_follow rfl rfl rfl (by decide +kernel) ⟨Nat.le_of_ble_eq_true rfl, Nat.le_of_ble_eq_true rfl⟩) (xk_preV X2_ok hK hX hP (xk_recv hK hP 0 (by omega) (ci := 7) e2_obj rfl)) rfl rfl hl.1 rfl (lv_room (Nat.le_of_ble_eq_true rfl)) dX7_drop_44 ⟨Nat.le_of_ble_eq_true rfl, Nat.le_of_ble_eq_true rfl⟩) hS (fun τ44 H locs hp hP hS => ?_)
  obtain ⟨hq20, hq21, hq22, hF44⟩ := hp
  refine lv_iload hx hb dX7_drop_47 (lv_at hl 4 rfl) ?_
  refine xn_zne (tgt := 59) hx hb dX7_drop_49 (by decide) (by omega) (fun c_49 => ?_) (fun c_49 => absurd c_49 (by omega))
  refine lv_iload hx hb dX7_drop_59 (lv_at hl 4 rfl) ?_
  refine lv_iconst (v := nI 1) hx hb dX7_drop_61 (by decide) ?_
  refine xn_ine (tgt := 72) hx hb dX7_drop_62 (by decide) (by omega) (by omega) (fun c_62 => absurd c_62 (by omega)) (fun c_62 => ?_)
  refine lv_aload_n hx hb dX7_drop_65 rfl (lv_at hl 0 rfl) ?_
  refine xk_get hx hb hts (inX7_drop_X7) hown hK hP 0 (by omega) (ci := 7) e2_obj rfl 21 (by decide) (flX7_drop_141 hts) rfl (.int (τ44 0 21)) rfl dX7_drop_66 ?_
  refine xn_eqi (y := nI (h + cta p d e h (dl g th x) p 1 * dl g th x)) (hq21.trans (if_neg hc)) ?_
  refine lv_goto (tgt := 76) hx hb dX7_drop_69 (by decide) ?_
  exact xk_iret hx hb hr (vp_nar_int _) X2_ok hK hX hP hS hlk dX7_drop_76 (⟨rfl, I2_fr hJ hF44.M⟩)

set_option maxRecDepth 20000 in
theorem flX7_drop_144 {s : State} {av : Array Value} (hts : ∀ w ∈ wsX7_drop, w.before av s = true) : (Cond.fieldLink RX7 144 "WellBackModel" "ups" "I").before av s = true := hts _ (by decide +kernel)
set_option maxHeartbeats 4000000 in
set_option maxRecDepth 100000 in
theorem a2_drop_z2 (l : Launch) {D : va_G} {ca : Nat → ClassId} {ad : Nat → Nat} (hI : Ij ad 18) {σ : Sg} {n p g rn : Nat} {d : Nat → Nat} {th rd : Nat → Nat → Nat} {sl sn : Nat → Nat} {sc : Nat → Nat → Int32} {ft tr : Int32} {x : Nat} {e h : Nat} (hJ : I2 n p g rn d th rd sl sn sc ft tr σ) (hxn : x < n) (he4 : e ≤ 4) (hh : h ≤ 99) (hc : cta p d e h (dl g th x) p 1 = 0) : C2i l D ca ad yX7_drop wsX7_drop { frames := 2, cells := 0, slots := 0, locals := 48 } [.ref (ad 0), .int (nI x), .int (nI e), .int (nI h), .int (nI 2)] σ (fun r σ' => r = -9 ∧ I2 n p g rn d th rd sl sn sc ft tr σ') := by
  refine xk_entry cX7_drop 5 (some .int) (by decide) rfl (Nat.le_of_ble_eq_true rfl) ?_
  intro pP eE sS mM below meth cC hx hb hml hr hts hown hlk hP hK hX hS ls hl
  have hl : lv_has ls 5 [(0, .ref (ad 0)), (1, .int (nI x)), (2, .int (nI e)), (3, .int (nI h)), (4, .int (nI 2))] := hl
  obtain ⟨hT, hR, hRd, hSh, hnp, hft, htr⟩ := id hJ
  have hn5 := hT.2.2.1
  have hg9 := hT.2.2.2.1
  have hp6 := hR.2.1
  have hrn8 := hRd.2.1
  have hXx := hT.2.2.2.2 x hxn
  obtain ⟨ho0, ho1, ho2, ho3, ho4⟩ := hXx.2
  have hp0 : 0 < p := hnp.mp (by omega)
  refine lv_aload_n hx hb dX7_drop_0 rfl (lv_at hl 0 rfl) ?_
  refine lv_iload_n hx hb dX7_drop_1 rfl (lv_at hl 1 rfl) ?_
  refine xk_fi (va_runV (As := [.int (nI x)]) (rest := []) ⟨hx, hb, hml, hown, hts⟩ (k2_isThing_in l hI (x := x) hT (by omega)) (cwV 1 hts gX7_drop_X7_isThing rfl rfl rfl (by decide +kernel) ⟨Nat.le_of_ble_eq_true rfl, Nat.le_of_ble_eq_true rfl⟩) (xk_preV X2_ok hK hX hP (xk_recv hK hP 0 (by omega) (ci := 7) e2_obj rfl)) rfl rfl hl.1 rfl (lv_room (Nat.le_of_ble_eq_true rfl)) dX7_drop_2 ⟨Nat.le_of_ble_eq_true rfl, Nat.le_of_ble_eq_true rfl⟩) hS (fun H locs hP hS => ?_)
  refine xn_zeq (tgt := 15) hx hb dX7_drop_5 (by decide) (by omega) (fun c_5 => absurd c_5 (by omega)) (fun c_5 => ?_)
  refine lv_iload_n hx hb dX7_drop_8 rfl (lv_at hl 2 rfl) ?_
  refine xk_fi (va_runS (As := [.int (nI e)]) (rest := []) ⟨hx, hb, hml, hown, hts⟩ (k2_isDrawer_t l hI (nI e) (xn_in (by omega) (by omega) (by omega))) (va_cwS 1 hts gX7_drop_X7_isDrawer rfl rfl rfl (by decide +kernel) ⟨Nat.le_of_ble_eq_true rfl, Nat.le_of_ble_eq_true rfl⟩) (xk_preS X2_ok hK hX hP) rfl rfl hl.1 rfl (lv_room (Nat.le_of_ble_eq_true rfl)) dX7_drop_9 ⟨Nat.le_of_ble_eq_true rfl, Nat.le_of_ble_eq_true rfl⟩) hS (fun H locs hP hS => ?_)
  refine xn_zne (tgt := 17) hx hb dX7_drop_12 (by decide) (by omega) (fun c_12 => ?_) (fun c_12 => absurd c_12 (by omega))
  refine lv_iload_n hx hb dX7_drop_17 rfl (lv_at hl 3 rfl) ?_
  refine lv_iconst (v := nI 0) hx hb dX7_drop_18 (by decide) ?_
  refine lv_bipush (v := nI 99) hx hb dX7_drop_19 (by decide) ?_
  refine xk_fi (va_runS (As := [.int (nI h), .int (nI 0), .int (nI 99)]) (rest := []) ⟨hx, hb, hml, hown, hts⟩ (k2_within_t l hI (nI h) (nI 0) (nI 99) (xn_in (by omega) (by omega) (by omega))) (va_cwS 3 hts gX7_drop_X7_within rfl rfl rfl (by decide +kernel) ⟨Nat.le_of_ble_eq_true rfl, Nat.le_of_ble_eq_true rfl⟩) (xk_preS X2_ok hK hX hP) rfl rfl hl.1 rfl (lv_room (Nat.le_of_ble_eq_true rfl)) dX7_drop_21 ⟨Nat.le_of_ble_eq_true rfl, Nat.le_of_ble_eq_true rfl⟩) hS (fun H locs hP hS => ?_)
  refine xn_zeq (tgt := 37) hx hb dX7_drop_24 (by decide) (by omega) (fun c_24 => absurd c_24 (by omega)) (fun c_24 => ?_)
  refine lv_iload hx hb dX7_drop_27 (lv_at hl 4 rfl) ?_
  refine lv_iconst (v := nI 0) hx hb dX7_drop_29 (by decide) ?_
  refine lv_iconst (v := nI 2) hx hb dX7_drop_30 (by decide) ?_
  refine xk_fi (va_runS (As := [.int (nI 2), .int (nI 0), .int (nI 2)]) (rest := []) ⟨hx, hb, hml, hown, hts⟩ (k2_within_t l hI (nI 2) (nI 0) (nI 2) (xn_in (by omega) (by omega) (by omega))) (va_cwS 3 hts gX7_drop_X7_within rfl rfl rfl (by decide +kernel) ⟨Nat.le_of_ble_eq_true rfl, Nat.le_of_ble_eq_true rfl⟩) (xk_preS X2_ok hK hX hP) rfl rfl hl.1 rfl (lv_room (Nat.le_of_ble_eq_true rfl)) dX7_drop_31 ⟨Nat.le_of_ble_eq_true rfl, Nat.le_of_ble_eq_true rfl⟩) hS (fun H locs hP hS => ?_)
  refine xn_zne (tgt := 40) hx hb dX7_drop_34 (by decide) (by omega) (fun c_34 => ?_) (fun c_34 => absurd c_34 (by omega))
  refine lv_aload_n hx hb dX7_drop_40 rfl (lv_at hl 0 rfl) ?_
  refine lv_iload_n hx hb dX7_drop_41 rfl (lv_at hl 1 rfl) ?_
  refine lv_iload_n hx hb dX7_drop_42 rfl (lv_at hl 2 rfl) ?_
  refine lv_iload_n hx hb dX7_drop_43 rfl (lv_at hl 3 rfl) ?_
  refine xk_cv (va_runV (As := [.int (nI x), .int (nI e), .int (nI h)]) (rest := []) ⟨hx, hb, hml, hown, hts⟩ (k2_follow l hI (x := x) (e := e) (h := h) hT hR hp0 hxn (by omega) (by omega)) (cwV 3 hts gX7_drop_X7_follow rfl rfl rfl (by decide +kernel) ⟨Nat.le_of_ble_eq_true rfl, Nat.le_of_ble_eq_true rfl⟩) (xk_preV X2_ok hK hX hP (xk_recv hK hP 0 (by omega) (ci := 7) e2_obj rfl)) rfl rfl hl.1 rfl (lv_room (Nat.le_of_ble_eq_true rfl)) dX7_drop_44 ⟨Nat.le_of_ble_eq_true rfl, Nat.le_of_ble_eq_true rfl⟩) hS (fun τ44 H locs hp hP hS => ?_)
  obtain ⟨hq20, hq21, hq22, hF44⟩ := hp
  refine lv_iload hx hb dX7_drop_47 (lv_at hl 4 rfl) ?_
  refine xn_zne (tgt := 59) hx hb dX7_drop_49 (by decide) (by omega) (fun c_49 => ?_) (fun c_49 => absurd c_49 (by omega))
  refine lv_iload hx hb dX7_drop_59 (lv_at hl 4 rfl) ?_
  refine lv_iconst (v := nI 1) hx hb dX7_drop_61 (by decide) ?_
  refine xn_ine (tgt := 72) hx hb dX7_drop_62 (by decide) (by omega) (by omega) (fun c_62 => ?_) (fun c_62 => absurd c_62 (by omega))
  refine lv_aload_n hx hb dX7_drop_72 rfl (lv_at hl 0 rfl) ?_
  refine xk_get hx hb hts (inX7_drop_X7) hown hK hP 0 (by omega) (ci := 7) e2_obj rfl 22 (by decide) (flX7_drop_144 hts) rfl (.int (τ44 0 22)) rfl dX7_drop_73 ?_
  refine xn_eqi (y := (-9)) (hq22.trans (if_pos hc)) ?_
  exact xk_iret hx hb hr (vp_nar_int _) X2_ok hK hX hP hS hlk dX7_drop_76 (⟨rfl, I2_fr hJ hF44.M⟩)

set_option maxHeartbeats 4000000 in
set_option maxRecDepth 100000 in
theorem a2_drop_n2 (l : Launch) {D : va_G} {ca : Nat → ClassId} {ad : Nat → Nat} (hI : Ij ad 18) {σ : Sg} {n p g rn : Nat} {d : Nat → Nat} {th rd : Nat → Nat → Nat} {sl sn : Nat → Nat} {sc : Nat → Nat → Int32} {ft tr : Int32} {x : Nat} {e h : Nat} (hJ : I2 n p g rn d th rd sl sn sc ft tr σ) (hxn : x < n) (he4 : e ≤ 4) (hh : h ≤ 99) (hc : ¬ cta p d e h (dl g th x) p 1 = 0) : C2i l D ca ad yX7_drop wsX7_drop { frames := 2, cells := 0, slots := 0, locals := 48 } [.ref (ad 0), .int (nI x), .int (nI e), .int (nI h), .int (nI 2)] σ (fun r σ' => r = nI (cta p d e h (dl g th x) p 1) ∧ I2 n p g rn d th rd sl sn sc ft tr σ') := by
  refine xk_entry cX7_drop 5 (some .int) (by decide) rfl (Nat.le_of_ble_eq_true rfl) ?_
  intro pP eE sS mM below meth cC hx hb hml hr hts hown hlk hP hK hX hS ls hl
  have hl : lv_has ls 5 [(0, .ref (ad 0)), (1, .int (nI x)), (2, .int (nI e)), (3, .int (nI h)), (4, .int (nI 2))] := hl
  obtain ⟨hT, hR, hRd, hSh, hnp, hft, htr⟩ := id hJ
  have hn5 := hT.2.2.1
  have hg9 := hT.2.2.2.1
  have hp6 := hR.2.1
  have hrn8 := hRd.2.1
  have hXx := hT.2.2.2.2 x hxn
  obtain ⟨ho0, ho1, ho2, ho3, ho4⟩ := hXx.2
  have hp0 : 0 < p := hnp.mp (by omega)
  refine lv_aload_n hx hb dX7_drop_0 rfl (lv_at hl 0 rfl) ?_
  refine lv_iload_n hx hb dX7_drop_1 rfl (lv_at hl 1 rfl) ?_
  refine xk_fi (va_runV (As := [.int (nI x)]) (rest := []) ⟨hx, hb, hml, hown, hts⟩ (k2_isThing_in l hI (x := x) hT (by omega)) (cwV 1 hts gX7_drop_X7_isThing rfl rfl rfl (by decide +kernel) ⟨Nat.le_of_ble_eq_true rfl, Nat.le_of_ble_eq_true rfl⟩) (xk_preV X2_ok hK hX hP (xk_recv hK hP 0 (by omega) (ci := 7) e2_obj rfl)) rfl rfl hl.1 rfl (lv_room (Nat.le_of_ble_eq_true rfl)) dX7_drop_2 ⟨Nat.le_of_ble_eq_true rfl, Nat.le_of_ble_eq_true rfl⟩) hS (fun H locs hP hS => ?_)
  refine xn_zeq (tgt := 15) hx hb dX7_drop_5 (by decide) (by omega) (fun c_5 => absurd c_5 (by omega)) (fun c_5 => ?_)
  refine lv_iload_n hx hb dX7_drop_8 rfl (lv_at hl 2 rfl) ?_
  refine xk_fi (va_runS (As := [.int (nI e)]) (rest := []) ⟨hx, hb, hml, hown, hts⟩ (k2_isDrawer_t l hI (nI e) (xn_in (by omega) (by omega) (by omega))) (va_cwS 1 hts gX7_drop_X7_isDrawer rfl rfl rfl (by decide +kernel) ⟨Nat.le_of_ble_eq_true rfl, Nat.le_of_ble_eq_true rfl⟩) (xk_preS X2_ok hK hX hP) rfl rfl hl.1 rfl (lv_room (Nat.le_of_ble_eq_true rfl)) dX7_drop_9 ⟨Nat.le_of_ble_eq_true rfl, Nat.le_of_ble_eq_true rfl⟩) hS (fun H locs hP hS => ?_)
  refine xn_zne (tgt := 17) hx hb dX7_drop_12 (by decide) (by omega) (fun c_12 => ?_) (fun c_12 => absurd c_12 (by omega))
  refine lv_iload_n hx hb dX7_drop_17 rfl (lv_at hl 3 rfl) ?_
  refine lv_iconst (v := nI 0) hx hb dX7_drop_18 (by decide) ?_
  refine lv_bipush (v := nI 99) hx hb dX7_drop_19 (by decide) ?_
  refine xk_fi (va_runS (As := [.int (nI h), .int (nI 0), .int (nI 99)]) (rest := []) ⟨hx, hb, hml, hown, hts⟩ (k2_within_t l hI (nI h) (nI 0) (nI 99) (xn_in (by omega) (by omega) (by omega))) (va_cwS 3 hts gX7_drop_X7_within rfl rfl rfl (by decide +kernel) ⟨Nat.le_of_ble_eq_true rfl, Nat.le_of_ble_eq_true rfl⟩) (xk_preS X2_ok hK hX hP) rfl rfl hl.1 rfl (lv_room (Nat.le_of_ble_eq_true rfl)) dX7_drop_21 ⟨Nat.le_of_ble_eq_true rfl, Nat.le_of_ble_eq_true rfl⟩) hS (fun H locs hP hS => ?_)
  refine xn_zeq (tgt := 37) hx hb dX7_drop_24 (by decide) (by omega) (fun c_24 => absurd c_24 (by omega)) (fun c_24 => ?_)
  refine lv_iload hx hb dX7_drop_27 (lv_at hl 4 rfl) ?_
  refine lv_iconst (v := nI 0) hx hb dX7_drop_29 (by decide) ?_
  refine lv_iconst (v := nI 2) hx hb dX7_drop_30 (by decide) ?_
  refine xk_fi (va_runS (As := [.int (nI 2), .int (nI 0), .int (nI 2)]) (rest := []) ⟨hx, hb, hml, hown, hts⟩ (k2_within_t l hI (nI 2) (nI 0) (nI 2) (xn_in (by omega) (by omega) (by omega))) (va_cwS 3 hts gX7_drop_X7_within rfl rfl rfl (by decide +kernel) ⟨Nat.le_of_ble_eq_true rfl, Nat.le_of_ble_eq_true rfl⟩) (xk_preS X2_ok hK hX hP) rfl rfl hl.1 rfl (lv_room (Nat.le_of_ble_eq_true rfl)) dX7_drop_31 ⟨Nat.le_of_ble_eq_true rfl, Nat.le_of_ble_eq_true rfl⟩) hS (fun H locs hP hS => ?_)
  refine xn_zne (tgt := 40) hx hb dX7_drop_34 (by decide) (by omega) (fun c_34 => ?_) (fun c_34 => absurd c_34 (by omega))
  refine lv_aload_n hx hb dX7_drop_40 rfl (lv_at hl 0 rfl) ?_
  refine lv_iload_n hx hb dX7_drop_41 rfl (lv_at hl 1 rfl) ?_
  refine lv_iload_n hx hb dX7_drop_42 rfl (lv_at hl 2 rfl) ?_
  refine lv_iload_n hx hb dX7_drop_43 rfl (lv_at hl 3 rfl) ?_
  refine xk_cv (va_runV (As := [.int (nI x), .int (nI e), .int (nI h)]) (rest := []) ⟨hx, hb, hml, hown, hts⟩ (k2_follow l hI (x := x) (e := e) (h := h) hT hR hp0 hxn (by omega) (by omega)) (cwV 3 hts gX7_drop_X7_follow rfl rfl rfl (by decide +kernel) ⟨Nat.le_of_ble_eq_true rfl, Nat.le_of_ble_eq_true rfl⟩) (xk_preV X2_ok hK hX hP (xk_recv hK hP 0 (by omega) (ci := 7) e2_obj rfl)) rfl rfl hl.1 rfl (lv_room (Nat.le_of_ble_eq_true rfl)) dX7_drop_44 ⟨Nat.le_of_ble_eq_true rfl, Nat.le_of_ble_eq_true rfl⟩) hS (fun τ44 H locs hp hP hS => ?_)
  obtain ⟨hq20, hq21, hq22, hF44⟩ := hp
  refine lv_iload hx hb dX7_drop_47 (lv_at hl 4 rfl) ?_
  refine xn_zne (tgt := 59) hx hb dX7_drop_49 (by decide) (by omega) (fun c_49 => ?_) (fun c_49 => absurd c_49 (by omega))
  refine lv_iload hx hb dX7_drop_59 (lv_at hl 4 rfl) ?_
  refine lv_iconst (v := nI 1) hx hb dX7_drop_61 (by decide) ?_
  refine xn_ine (tgt := 72) hx hb dX7_drop_62 (by decide) (by omega) (by omega) (fun c_62 => ?_) (fun c_62 => absurd c_62 (by omega))
  refine lv_aload_n hx hb dX7_drop_72 rfl (lv_at hl 0 rfl) ?_
  refine xk_get hx hb hts (inX7_drop_X7) hown hK hP 0 (by omega) (ci := 7) e2_obj rfl 22 (by decide) (flX7_drop_144 hts) rfl (.int (τ44 0 22)) rfl dX7_drop_73 ?_
  refine xn_eqi (y := nI (cta p d e h (dl g th x) p 1)) (hq22.trans (if_neg hc)) ?_
  exact xk_iret hx hb hr (vp_nar_int _) X2_ok hK hX hP hS hlk dX7_drop_76 (⟨rfl, I2_fr hJ hF44.M⟩)

set_option maxHeartbeats 4000000 in
set_option maxRecDepth 100000 in
theorem a2_when_xo (l : Launch) {D : va_G} {ca : Nat → ClassId} {ad : Nat → Nat} (hI : Ij ad 18) {σ : Sg} {n p g rn : Nat} {d : Nat → Nat} {th rd : Nat → Nat → Nat} {sl sn : Nat → Nat} {sc : Nat → Nat → Int32} {ft tr : Int32} {x : Int32} {e : Int32} (hJ : I2 n p g rn d th rd sl sn sc ft tr σ) (hxx : ∀ j, j < n → x ≠ nI j) : C2i l D ca ad yX7_when wsX7_when { frames := 3, cells := 0, slots := 0, locals := 70 } [.ref (ad 0), .int x, .int e] σ (fun r σ' => r = -1 ∧ I2 n p g rn d th rd sl sn sc ft tr σ') := by
  refine xk_entry cX7_when 4 (some .int) (by decide) rfl (Nat.le_of_ble_eq_true rfl) ?_
  intro pP eE sS mM below meth cC hx hb hml hr hts hown hlk hP hK hX hS ls hl
  have hl : lv_has ls 4 [(0, .ref (ad 0)), (1, .int x), (2, .int e)] := hl
  obtain ⟨hT, hR, hRd, hSh, hnp, hft, htr⟩ := id hJ
  have hn5 := hT.2.2.1
  have hg9 := hT.2.2.2.1
  have hp6 := hR.2.1
  have hrn8 := hRd.2.1
  refine lv_aload_n hx hb dX7_when_0 rfl (lv_at hl 0 rfl) ?_
  refine lv_iload_n hx hb dX7_when_1 rfl (lv_at hl 1 rfl) ?_
  refine xk_fi (va_runV (As := [.int x]) (rest := []) ⟨hx, hb, hml, hown, hts⟩ (k2_isThing_out l hI (x := x) hT (by assumption)) (cwV 1 hts gX7_when_X7_isThing rfl rfl rfl (by decide +kernel) ⟨Nat.le_of_ble_eq_true rfl, Nat.le_of_ble_eq_true rfl⟩) (xk_preV X2_ok hK hX hP (xk_recv hK hP 0 (by omega) (ci := 7) e2_obj rfl)) rfl rfl hl.1 rfl (lv_room (Nat.le_of_ble_eq_true rfl)) dX7_when_2 ⟨Nat.le_of_ble_eq_true rfl, Nat.le_of_ble_eq_true rfl⟩) hS (fun H locs hP hS => ?_)
  refine xn_zeq (tgt := 15) hx hb dX7_when_5 (by decide) (by omega) (fun c_5 => ?_) (fun c_5 => absurd c_5 (by omega))
  refine lv_iconst (v := (-1)) hx hb dX7_when_15 (by decide) ?_
  exact xk_iret hx hb hr (vp_nar_int _) X2_ok hK hX hP hS hlk dX7_when_16 (⟨rfl, hJ⟩)

set_option maxHeartbeats 4000000 in
set_option maxRecDepth 100000 in
theorem a2_when_do (l : Launch) {D : va_G} {ca : Nat → ClassId} {ad : Nat → Nat} (hI : Ij ad 18) {σ : Sg} {n p g rn : Nat} {d : Nat → Nat} {th rd : Nat → Nat → Nat} {sl sn : Nat → Nat} {sc : Nat → Nat → Int32} {ft tr : Int32} {x : Nat} {e : Int32} (hJ : I2 n p g rn d th rd sl sn sc ft tr σ) (hxn : x < n) (heo : ¬ (nI 0 ≤ e ∧ e ≤ nI 4)) : C2i l D ca ad yX7_when wsX7_when { frames := 3, cells := 0, slots := 0, locals := 70 } [.ref (ad 0), .int (nI x), .int e] σ (fun r σ' => r = -1 ∧ I2 n p g rn d th rd sl sn sc ft tr σ') := by
  refine xk_entry cX7_when 4 (some .int) (by decide) rfl (Nat.le_of_ble_eq_true rfl) ?_
  intro pP eE sS mM below meth cC hx hb hml hr hts hown hlk hP hK hX hS ls hl
  have hl : lv_has ls 4 [(0, .ref (ad 0)), (1, .int (nI x)), (2, .int e)] := hl
  obtain ⟨hT, hR, hRd, hSh, hnp, hft, htr⟩ := id hJ
  have hn5 := hT.2.2.1
  have hg9 := hT.2.2.2.1
  have hp6 := hR.2.1
  have hrn8 := hRd.2.1
  have hXx := hT.2.2.2.2 x hxn
  obtain ⟨ho0, ho1, ho2, ho3, ho4⟩ := hXx.2
  have hp0 : 0 < p := hnp.mp (by omega)
  refine lv_aload_n hx hb dX7_when_0 rfl (lv_at hl 0 rfl) ?_
  refine lv_iload_n hx hb dX7_when_1 rfl (lv_at hl 1 rfl) ?_
  refine xk_fi (va_runV (As := [.int (nI x)]) (rest := []) ⟨hx, hb, hml, hown, hts⟩ (k2_isThing_in l hI (x := x) hT (by omega)) (cwV 1 hts gX7_when_X7_isThing rfl rfl rfl (by decide +kernel) ⟨Nat.le_of_ble_eq_true rfl, Nat.le_of_ble_eq_true rfl⟩) (xk_preV X2_ok hK hX hP (xk_recv hK hP 0 (by omega) (ci := 7) e2_obj rfl)) rfl rfl hl.1 rfl (lv_room (Nat.le_of_ble_eq_true rfl)) dX7_when_2 ⟨Nat.le_of_ble_eq_true rfl, Nat.le_of_ble_eq_true rfl⟩) hS (fun H locs hP hS => ?_)
  refine xn_zeq (tgt := 15) hx hb dX7_when_5 (by decide) (by omega) (fun c_5 => absurd c_5 (by omega)) (fun c_5 => ?_)
  refine lv_iload_n hx hb dX7_when_8 rfl (lv_at hl 2 rfl) ?_
  refine xk_fi (va_runS (As := [.int e]) (rest := []) ⟨hx, hb, hml, hown, hts⟩ (k2_isDrawer_f l hI e (by assumption)) (va_cwS 1 hts gX7_when_X7_isDrawer rfl rfl rfl (by decide +kernel) ⟨Nat.le_of_ble_eq_true rfl, Nat.le_of_ble_eq_true rfl⟩) (xk_preS X2_ok hK hX hP) rfl rfl hl.1 rfl (lv_room (Nat.le_of_ble_eq_true rfl)) dX7_when_9 ⟨Nat.le_of_ble_eq_true rfl, Nat.le_of_ble_eq_true rfl⟩) hS (fun H locs hP hS => ?_)
  refine xn_zne (tgt := 17) hx hb dX7_when_12 (by decide) (by omega) (fun c_12 => absurd c_12 (by omega)) (fun c_12 => ?_)
  refine lv_iconst (v := (-1)) hx hb dX7_when_15 (by decide) ?_
  exact xk_iret hx hb hr (vp_nar_int _) X2_ok hK hX hP hS hlk dX7_when_16 (⟨rfl, hJ⟩)

set_option maxHeartbeats 4000000 in
set_option maxRecDepth 100000 in
theorem a2_when_ok (l : Launch) {D : va_G} {ca : Nat → ClassId} {ad : Nat → Nat} (hI : Ij ad 18) {σ : Sg} {n p g rn : Nat} {d : Nat → Nat} {th rd : Nat → Nat → Nat} {sl sn : Nat → Nat} {sc : Nat → Nat → Int32} {ft tr : Int32} {x : Nat} {e : Nat} (hJ : I2 n p g rn d th rd sl sn sc ft tr σ) (hxn : x < n) (he4 : e ≤ 4) : C2i l D ca ad yX7_when wsX7_when { frames := 3, cells := 0, slots := 0, locals := 70 } [.ref (ad 0), .int (nI x), .int (nI e)] σ (fun r σ' => r = wF (fun h => decide (oth p d (th x 2) h (dl g th x) = nI e)) 24 0 ∧ I2 n p g rn d th rd sl sn sc ft tr σ') := by
  refine xk_entry cX7_when 4 (some .int) (by decide) rfl (Nat.le_of_ble_eq_true rfl) ?_
  intro pP eE sS mM below meth cC hx hb hml hr hts hown hlk hP hK hX hS ls hl
  have hl : lv_has ls 4 [(0, .ref (ad 0)), (1, .int (nI x)), (2, .int (nI e))] := hl
  obtain ⟨hT, hR, hRd, hSh, hnp, hft, htr⟩ := id hJ
  have hn5 := hT.2.2.1
  have hg9 := hT.2.2.2.1
  have hp6 := hR.2.1
  have hrn8 := hRd.2.1
  have hXx := hT.2.2.2.2 x hxn
  obtain ⟨ho0, ho1, ho2, ho3, ho4⟩ := hXx.2
  have hp0 : 0 < p := hnp.mp (by omega)
  refine lv_aload_n hx hb dX7_when_0 rfl (lv_at hl 0 rfl) ?_
  refine lv_iload_n hx hb dX7_when_1 rfl (lv_at hl 1 rfl) ?_
  refine xk_fi (va_runV (As := [.int (nI x)]) (rest := []) ⟨hx, hb, hml, hown, hts⟩ (k2_isThing_in l hI (x := x) hT (by omega)) (cwV 1 hts gX7_when_X7_isThing rfl rfl rfl (by decide +kernel) ⟨Nat.le_of_ble_eq_true rfl, Nat.le_of_ble_eq_true rfl⟩) (xk_preV X2_ok hK hX hP (xk_recv hK hP 0 (by omega) (ci := 7) e2_obj rfl)) rfl rfl hl.1 rfl (lv_room (Nat.le_of_ble_eq_true rfl)) dX7_when_2 ⟨Nat.le_of_ble_eq_true rfl, Nat.le_of_ble_eq_true rfl⟩) hS (fun H locs hP hS => ?_)
  refine xn_zeq (tgt := 15) hx hb dX7_when_5 (by decide) (by omega) (fun c_5 => absurd c_5 (by omega)) (fun c_5 => ?_)
  refine lv_iload_n hx hb dX7_when_8 rfl (lv_at hl 2 rfl) ?_
  refine xk_fi (va_runS (As := [.int (nI e)]) (rest := []) ⟨hx, hb, hml, hown, hts⟩ (k2_isDrawer_t l hI (nI e) (xn_in (by omega) (by omega) (by omega))) (va_cwS 1 hts gX7_when_X7_isDrawer rfl rfl rfl (by decide +kernel) ⟨Nat.le_of_ble_eq_true rfl, Nat.le_of_ble_eq_true rfl⟩) (xk_preS X2_ok hK hX hP) rfl rfl hl.1 rfl (lv_room (Nat.le_of_ble_eq_true rfl)) dX7_when_9 ⟨Nat.le_of_ble_eq_true rfl, Nat.le_of_ble_eq_true rfl⟩) hS (fun H locs hP hS => ?_)
  refine xn_zne (tgt := 17) hx hb dX7_when_12 (by decide) (by omega) (fun c_12 => ?_) (fun c_12 => absurd c_12 (by omega))
  refine lv_iconst (v := nI 0) hx hb dX7_when_17 (by decide) ?_
  refine lv_istore_n (lv' := [(3, .int (nI 0)), (0, .ref (ad 0)), (1, .int (nI x)), (2, .int (nI e))]) hx hb dX7_when_18 rfl hl (by decide) rfl (fun ls hl => ?_)
  have LP_19 : ∀ (n_19 : Nat) (h : Nat) (τ : Sg), (h ≤ 24) → (wF (fun h => decide (oth p d (th x 2) h (dl g th x) = nI e)) (24 - h) h = wF (fun h => decide (oth p d (th x 2) h (dl g th x) = nI e)) 24 0) → (FrF σ τ) → (24 - h) < n_19 → ∀ (H : Heap) (locs : List Loc) (ls : Array Slot), va_P D vwCl (wl ad 18 (en2 ad ca τ)) H → va_S (AA ad 18) sS.heap H locs → lv_has ls 4 [(0, .ref (ad 0)), (1, .int (nI x)), (2, .int (nI e)), (3, .int (nI h))] → Wwi2 pP l eE { frames := 3, cells := 0, slots := 0, locals := 70 } sS mM [.ref (ad 0), .int (nI x), .int (nI e)] below meth cC D ca ad (fun r σ' => r = wF (fun h => decide (oth p d (th x 2) h (dl g th x) = nI e)) 24 0 ∧ I2 n p g rn d th rd sl sn sc ft tr σ') H locs (F0 mM 19 ls []) := by
    intro n_19
    induction n_19 with
    | zero =>
      intro h τ hh hv hF hn_19
      exact absurd hn_19 (Nat.not_lt_zero _)
    | succ n_19 ih_19 =>
      intro h τ hh hv hF hn_19 H locs ls hP hS hl
      refine lv_iload_n hx hb dX7_when_19 rfl (lv_at hl 3 rfl) ?_
      refine lv_bipush (v := nI 23) hx hb dX7_when_20 (by decide) ?_
      refine xn_igt (tgt := 43) hx hb dX7_when_22 (by decide) (by omega) (by omega) (fun c_22 => ?_) (fun c_22 => ?_)
      · refine lv_bipush (v := (-9)) hx hb dX7_when_43 (by decide) ?_
        exact xk_iret hx hb hr (vp_nar_int _) X2_ok hK hX hP hS hlk dX7_when_45 (⟨by rw [← hv, show 24 - h = 0 by omega]; rfl, I2_fr hJ hF.M⟩)
      · refine lv_aload_n hx hb dX7_when_25 rfl (lv_at hl 0 rfl) ?_
        refine lv_iload_n hx hb dX7_when_26 rfl (lv_at hl 1 rfl) ?_
        refine lv_iload_n hx hb dX7_when_27 rfl (lv_at hl 3 rfl) ?_
        refine xk_ci (va_runV (As := [.int (nI x), .int (nI h)]) (rest := []) ⟨hx, hb, hml, hown, hts⟩ (k2_drawerBy l hI (x := x) (h := h) (ThM_fr hT hF.M) (RotaM_fr hR hF.M) hp0 hxn (by omega)) (cwV 2 hts gX7_when_X7_drawerBy rfl rfl rfl (by decide +kernel) ⟨Nat.le_of_ble_eq_true rfl, Nat.le_of_ble_eq_true rfl⟩) (xk_preV X2_ok hK hX hP (xk_recv hK hP 0 (by omega) (ci := 7) e2_obj rfl)) rfl rfl hl.1 rfl (lv_room (Nat.le_of_ble_eq_true rfl)) dX7_when_28 ⟨Nat.le_of_ble_eq_true rfl, Nat.le_of_ble_eq_true rfl⟩) hS (fun r28 τ28 H locs hp hP hS => ?_)
        obtain ⟨rfl, -, hF28⟩ := hp
        refine lv_iload_n hx hb dX7_when_31 rfl (lv_at hl 2 rfl) ?_
        refine lv_icmp_ne (tgt := 37) hx hb dX7_when_32 (by decide) (fun c_32 => ?_) (fun c_32 => ?_)
        · refine lv_iinc (v := nI (h + 1)) (lv' := [(3, .int (nI (h + 1))), (0, .ref (ad 0)), (1, .int (nI x)), (2, .int (nI e))]) hx hb dX7_when_37 hl (k := 3) rfl (xn_inc _ 1) (by decide) rfl (fun ls hl => ?_)
          refine lv_goto (tgt := 19) hx hb dX7_when_40 (by decide) ?_
          exact ih_19 (h + 1) τ28 (by omega) (by rw [← hv, show 24 - h = (24 - (h + 1)) + 1 by omega]; simp only [wF]; rw [if_neg (by simpa using c_32)]) (hF.tr hF28) (by omega) _ _ _ hP hS (lv_sub hl [1, 2, 3, 0] rfl)
        · refine lv_iload_n hx hb dX7_when_35 rfl (lv_at hl 3 rfl) ?_
          exact xk_iret hx hb hr (vp_nar_int _) X2_ok hK hX hP hS hlk dX7_when_36 (⟨by rw [← hv, show 24 - h = (23 - h) + 1 by omega]; simp only [wF]; rw [if_pos (by simpa using c_32)], I2_fr hJ (hF.tr hF28).M⟩)
  exact LP_19 _ 0 σ (by omega) rfl FrF.rf (Nat.lt_succ_self _) _ _ _ hP hS (lv_sub hl [1, 2, 3, 0] rfl)

set_option maxHeartbeats 4000000 in
set_option maxRecDepth 100000 in
theorem a2_tell_xo (l : Launch) {D : va_G} {ca : Nat → ClassId} {ad : Nat → Nat} (hI : Ij ad 18) {σ : Sg} {n p g rn : Nat} {d : Nat → Nat} {th rd : Nat → Nat → Nat} {sl sn : Nat → Nat} {sc : Nat → Nat → Int32} {ft tr : Int32} {x : Int32} (hJ : I2 n p g rn d th rd sl sn sc ft tr σ) (hxx : ∀ j, j < n → x ≠ nI j) : C2i l D ca ad yX7_tell wsX7_tell { frames := 1, cells := 0, slots := 0, locals := 21 } [.ref (ad 0), .int x] σ (fun r σ' => r = -1 ∧ I2 n p g rn d th rd sl sn sc ft tr σ') := by
  refine xk_entry cX7_tell 3 (some .int) (by decide) rfl (Nat.le_of_ble_eq_true rfl) ?_
  intro pP eE sS mM below meth cC hx hb hml hr hts hown hlk hP hK hX hS ls hl
  have hl : lv_has ls 3 [(0, .ref (ad 0)), (1, .int x)] := hl
  obtain ⟨hT, hR, hRd, hSh, hnp, hft, htr⟩ := id hJ
  have hn5 := hT.2.2.1
  have hg9 := hT.2.2.2.1
  have hp6 := hR.2.1
  have hrn8 := hRd.2.1
  refine lv_aload_n hx hb dX7_tell_0 rfl (lv_at hl 0 rfl) ?_
  refine lv_iload_n hx hb dX7_tell_1 rfl (lv_at hl 1 rfl) ?_
  refine xk_fi (va_runV (As := [.int x]) (rest := []) ⟨hx, hb, hml, hown, hts⟩ (k2_isThing_out l hI (x := x) hT (by assumption)) (cwV 1 hts gX7_tell_X7_isThing rfl rfl rfl (by decide +kernel) ⟨Nat.le_of_ble_eq_true rfl, Nat.le_of_ble_eq_true rfl⟩) (xk_preV X2_ok hK hX hP (xk_recv hK hP 0 (by omega) (ci := 7) e2_obj rfl)) rfl rfl hl.1 rfl (lv_room (Nat.le_of_ble_eq_true rfl)) dX7_tell_2 ⟨Nat.le_of_ble_eq_true rfl, Nat.le_of_ble_eq_true rfl⟩) hS (fun H locs hP hS => ?_)
  refine xn_zne (tgt := 10) hx hb dX7_tell_5 (by decide) (by omega) (fun c_5 => absurd c_5 (by omega)) (fun c_5 => ?_)
  refine lv_iconst (v := (-1)) hx hb dX7_tell_8 (by decide) ?_
  exact xk_iret hx hb hr (vp_nar_int _) X2_ok hK hX hP hS hlk dX7_tell_9 (⟨rfl, hJ⟩)

set_option maxRecDepth 20000 in
theorem flX7_tell_22 {s : State} {av : Array Value} (hts : ∀ w ∈ wsX7_tell, w.before av s = true) : (Cond.fieldLink RX7 22 "WellBackModel" "kind" "[I").before av s = true := hts _ (by decide +kernel)
set_option maxRecDepth 20000 in
theorem flX7_tell_25 {s : State} {av : Array Value} (hts : ∀ w ∈ wsX7_tell, w.before av s = true) : (Cond.fieldLink RX7 25 "WellBackModel" "weight" "[I").before av s = true := hts _ (by decide +kernel)
set_option maxRecDepth 20000 in
theorem inX7_tell_X7 : ∀ w ∈ u_ws RX7 TX7 30, w ∈ wsX7_tell := by decide +kernel
set_option maxHeartbeats 4000000 in
set_option maxRecDepth 100000 in
theorem a2_tell_k0 (l : Launch) {D : va_G} {ca : Nat → ClassId} {ad : Nat → Nat} (hI : Ij ad 18) {σ : Sg} {n p g rn : Nat} {d : Nat → Nat} {th rd : Nat → Nat → Nat} {sl sn : Nat → Nat} {sc : Nat → Nat → Int32} {ft tr : Int32} {x : Nat} (hJ : I2 n p g rn d th rd sl sn sc ft tr σ) (hxn : x < n) (hk : th x 0 = 0) : C2i l D ca ad yX7_tell wsX7_tell { frames := 1, cells := 0, slots := 0, locals := 21 } [.ref (ad 0), .int (nI x)] σ (fun r σ' => r = nI (th x 1) ∧ I2 n p g rn d th rd sl sn sc ft (tc tr 1) σ') := by
  refine xk_entry cX7_tell 3 (some .int) (by decide) rfl (Nat.le_of_ble_eq_true rfl) ?_
  intro pP eE sS mM below meth cC hx hb hml hr hts hown hlk hP hK hX hS ls hl
  have hl : lv_has ls 3 [(0, .ref (ad 0)), (1, .int (nI x))] := hl
  obtain ⟨hT, hR, hRd, hSh, hnp, hft, htr⟩ := id hJ
  have hn5 := hT.2.2.1
  have hg9 := hT.2.2.2.1
  have hp6 := hR.2.1
  have hrn8 := hRd.2.1
  have hXx := hT.2.2.2.2 x hxn
  obtain ⟨ho0, ho1, ho2, ho3, ho4⟩ := hXx.2
  have hp0 : 0 < p := hnp.mp (by omega)
  refine lv_aload_n hx hb dX7_tell_0 rfl (lv_at hl 0 rfl) ?_
  refine lv_iload_n hx hb dX7_tell_1 rfl (lv_at hl 1 rfl) ?_
  refine xk_fi (va_runV (As := [.int (nI x)]) (rest := []) ⟨hx, hb, hml, hown, hts⟩ (k2_isThing_in l hI (x := x) hT (by omega)) (cwV 1 hts gX7_tell_X7_isThing rfl rfl rfl (by decide +kernel) ⟨Nat.le_of_ble_eq_true rfl, Nat.le_of_ble_eq_true rfl⟩) (xk_preV X2_ok hK hX hP (xk_recv hK hP 0 (by omega) (ci := 7) e2_obj rfl)) rfl rfl hl.1 rfl (lv_room (Nat.le_of_ble_eq_true rfl)) dX7_tell_2 ⟨Nat.le_of_ble_eq_true rfl, Nat.le_of_ble_eq_true rfl⟩) hS (fun H locs hP hS => ?_)
  refine xn_zne (tgt := 10) hx hb dX7_tell_5 (by decide) (by omega) (fun c_5 => ?_) (fun c_5 => absurd c_5 (by omega))
  refine lv_aload_n hx hb dX7_tell_10 rfl (lv_at hl 0 rfl) ?_
  refine xk_get hx hb hts (inX7_tell_X7) hown hK hP 0 (by omega) (ci := 7) e2_obj rfl 10 (by decide) (flX7_tell_25 hts) rfl (.ref (ad 6)) rfl dX7_tell_11 ?_
  refine lv_iload_n hx hb dX7_tell_14 rfl (lv_at hl 1 rfl) ?_
  refine xk_iald hx hb hK hP 6 (by omega) (n := 5) (e2_row 5 (by decide) rfl) rfl x (by omega) (by decide) dX7_tell_15 ?_
  refine xn_eqi (y := nI (th x 1)) (hXx.1 1 (by omega)) ?_
  refine lv_istore_n (lv' := [(2, .int (nI (th x 1))), (0, .ref (ad 0)), (1, .int (nI x))]) hx hb dX7_tell_16 rfl hl (by decide) rfl (fun ls hl => ?_)
  refine lv_aload_n hx hb dX7_tell_17 rfl (lv_at hl 1 rfl) ?_
  refine xk_get hx hb hts (inX7_tell_X7) hown hK hP 0 (by omega) (ci := 7) e2_obj rfl 9 (by decide) (flX7_tell_22 hts) rfl (.ref (ad 5)) rfl dX7_tell_18 ?_
  refine lv_iload_n hx hb dX7_tell_21 rfl (lv_at hl 2 rfl) ?_
  refine xk_iald hx hb hK hP 5 (by omega) (n := 5) (e2_row 5 (by decide) rfl) rfl x (by omega) (by decide) dX7_tell_22 ?_
  refine xn_eqi (y := nI (th x 0)) (hXx.1 0 (by omega)) ?_
  refine xn_eqi (y := nI 0) (by rw [hk]) ?_
  refine lv_lookup (tgt := 90) hx hb dX7_tell_23 (by decide) (off := 67) (by decide) (by decide) ?_
  refine lv_aload_n hx hb dX7_tell_90 rfl (lv_at hl 1 rfl) ?_
  refine lv_iconst (v := nI 1) hx hb dX7_tell_91 (by decide) ?_
  refine xk_fv (va_runV (As := [.int (nI 1)]) (rest := []) ⟨hx, hb, hml, hown, hts⟩ (k2_begins l hI (t := tr) (v := 1) htr) (cwV 1 hts gX7_tell_X7_begins rfl rfl rfl (by decide +kernel) ⟨Nat.le_of_ble_eq_true rfl, Nat.le_of_ble_eq_true rfl⟩) (xk_preV X2_ok hK hX hP (xk_recv hK hP 0 (by omega) (ci := 7) e2_obj rfl)) rfl rfl hl.1 rfl (lv_room (Nat.le_of_ble_eq_true rfl)) dX7_tell_92 ⟨Nat.le_of_ble_eq_true rfl, Nat.le_of_ble_eq_true rfl⟩) hS (fun H locs hP hS => ?_)
  refine lv_iload_n hx hb dX7_tell_95 rfl (lv_at hl 0 rfl) ?_
  exact xk_iret hx hb hr (vp_nar_int _) X2_ok hK hX hP hS hlk dX7_tell_96 (⟨rfl, I2_tr (hJ)⟩)

set_option maxHeartbeats 4000000 in
set_option maxRecDepth 100000 in
theorem a2_tell_k1 (l : Launch) {D : va_G} {ca : Nat → ClassId} {ad : Nat → Nat} (hI : Ij ad 18) {σ : Sg} {n p g rn : Nat} {d : Nat → Nat} {th rd : Nat → Nat → Nat} {sl sn : Nat → Nat} {sc : Nat → Nat → Int32} {ft tr : Int32} {x : Nat} (hJ : I2 n p g rn d th rd sl sn sc ft tr σ) (hxn : x < n) (hk : th x 0 = 1) : C2i l D ca ad yX7_tell wsX7_tell { frames := 1, cells := 0, slots := 0, locals := 21 } [.ref (ad 0), .int (nI x)] σ (fun r σ' => r = nI (th x 1 + 100) ∧ I2 n p g rn d th rd sl sn sc ft (tc (tc tr 2) 1) σ') := by
  refine xk_entry cX7_tell 3 (some .int) (by decide) rfl (Nat.le_of_ble_eq_true rfl) ?_
  intro pP eE sS mM below meth cC hx hb hml hr hts hown hlk hP hK hX hS ls hl
  have hl : lv_has ls 3 [(0, .ref (ad 0)), (1, .int (nI x))] := hl
  obtain ⟨hT, hR, hRd, hSh, hnp, hft, htr⟩ := id hJ
  have hn5 := hT.2.2.1
  have hg9 := hT.2.2.2.1
  have hp6 := hR.2.1
  have hrn8 := hRd.2.1
  have hXx := hT.2.2.2.2 x hxn
  obtain ⟨ho0, ho1, ho2, ho3, ho4⟩ := hXx.2
  have hp0 : 0 < p := hnp.mp (by omega)
  refine lv_aload_n hx hb dX7_tell_0 rfl (lv_at hl 0 rfl) ?_
  refine lv_iload_n hx hb dX7_tell_1 rfl (lv_at hl 1 rfl) ?_
  refine xk_fi (va_runV (As := [.int (nI x)]) (rest := []) ⟨hx, hb, hml, hown, hts⟩ (k2_isThing_in l hI (x := x) hT (by omega)) (cwV 1 hts gX7_tell_X7_isThing rfl rfl rfl (by decide +kernel) ⟨Nat.le_of_ble_eq_true rfl, Nat.le_of_ble_eq_true rfl⟩) (xk_preV X2_ok hK hX hP (xk_recv hK hP 0 (by omega) (ci := 7) e2_obj rfl)) rfl rfl hl.1 rfl (lv_room (Nat.le_of_ble_eq_true rfl)) dX7_tell_2 ⟨Nat.le_of_ble_eq_true rfl, Nat.le_of_ble_eq_true rfl⟩) hS (fun H locs hP hS => ?_)
  refine xn_zne (tgt := 10) hx hb dX7_tell_5 (by decide) (by omega) (fun c_5 => ?_) (fun c_5 => absurd c_5 (by omega))
  refine lv_aload_n hx hb dX7_tell_10 rfl (lv_at hl 0 rfl) ?_
  refine xk_get hx hb hts (inX7_tell_X7) hown hK hP 0 (by omega) (ci := 7) e2_obj rfl 10 (by decide) (flX7_tell_25 hts) rfl (.ref (ad 6)) rfl dX7_tell_11 ?_
  refine lv_iload_n hx hb dX7_tell_14 rfl (lv_at hl 1 rfl) ?_
  refine xk_iald hx hb hK hP 6 (by omega) (n := 5) (e2_row 5 (by decide) rfl) rfl x (by omega) (by decide) dX7_tell_15 ?_
  refine xn_eqi (y := nI (th x 1)) (hXx.1 1 (by omega)) ?_
  refine lv_istore_n (lv' := [(2, .int (nI (th x 1))), (0, .ref (ad 0)), (1, .int (nI x))]) hx hb dX7_tell_16 rfl hl (by decide) rfl (fun ls hl => ?_)
  refine lv_aload_n hx hb dX7_tell_17 rfl (lv_at hl 1 rfl) ?_
  refine xk_get hx hb hts (inX7_tell_X7) hown hK hP 0 (by omega) (ci := 7) e2_obj rfl 9 (by decide) (flX7_tell_22 hts) rfl (.ref (ad 5)) rfl dX7_tell_18 ?_
  refine lv_iload_n hx hb dX7_tell_21 rfl (lv_at hl 2 rfl) ?_
  refine xk_iald hx hb hK hP 5 (by omega) (n := 5) (e2_row 5 (by decide) rfl) rfl x (by omega) (by decide) dX7_tell_22 ?_
  refine xn_eqi (y := nI (th x 0)) (hXx.1 0 (by omega)) ?_
  refine xn_eqi (y := nI 1) (by rw [hk]) ?_
  refine lv_lookup (tgt := 48) hx hb dX7_tell_23 (by decide) (off := 25) (by decide) (by decide) ?_
  refine lv_aload_n hx hb dX7_tell_48 rfl (lv_at hl 1 rfl) ?_
  refine lv_iconst (v := nI 2) hx hb dX7_tell_49 (by decide) ?_
  refine xk_fv (va_runV (As := [.int (nI 2)]) (rest := []) ⟨hx, hb, hml, hown, hts⟩ (k2_begins l hI (t := tr) (v := 2) htr) (cwV 1 hts gX7_tell_X7_begins rfl rfl rfl (by decide +kernel) ⟨Nat.le_of_ble_eq_true rfl, Nat.le_of_ble_eq_true rfl⟩) (xk_preV X2_ok hK hX hP (xk_recv hK hP 0 (by omega) (ci := 7) e2_obj rfl)) rfl rfl hl.1 rfl (lv_room (Nat.le_of_ble_eq_true rfl)) dX7_tell_50 ⟨Nat.le_of_ble_eq_true rfl, Nat.le_of_ble_eq_true rfl⟩) hS (fun H locs hP hS => ?_)
  refine lv_aload_n hx hb dX7_tell_53 rfl (lv_at hl 1 rfl) ?_
  refine lv_iconst (v := nI 1) hx hb dX7_tell_54 (by decide) ?_
  refine xk_fv (va_runV (As := [.int (nI 1)]) (rest := []) ⟨hx, hb, hml, hown, hts⟩ (k2_begins l hI (t := tc tr 2) (v := 1) up_s) (cwV 1 hts gX7_tell_X7_begins rfl rfl rfl (by decide +kernel) ⟨Nat.le_of_ble_eq_true rfl, Nat.le_of_ble_eq_true rfl⟩) (xk_preV X2_ok hK hX hP (xk_recv hK hP 0 (by omega) (ci := 7) e2_obj rfl)) rfl rfl hl.1 rfl (lv_room (Nat.le_of_ble_eq_true rfl)) dX7_tell_55 ⟨Nat.le_of_ble_eq_true rfl, Nat.le_of_ble_eq_true rfl⟩) hS (fun H locs hP hS => ?_)
  refine lv_iload_n hx hb dX7_tell_58 rfl (lv_at hl 0 rfl) ?_
  refine lv_bipush (v := nI 100) hx hb dX7_tell_59 (by decide) ?_
  refine xn_iadd hx hb dX7_tell_61 ?_
  exact xk_iret hx hb hr (vp_nar_int _) X2_ok hK hX hP hS hlk dX7_tell_62 (⟨rfl, I2_tr (I2_tr (hJ))⟩)

set_option maxHeartbeats 4000000 in
set_option maxRecDepth 100000 in
theorem a2_tell_k2 (l : Launch) {D : va_G} {ca : Nat → ClassId} {ad : Nat → Nat} (hI : Ij ad 18) {σ : Sg} {n p g rn : Nat} {d : Nat → Nat} {th rd : Nat → Nat → Nat} {sl sn : Nat → Nat} {sc : Nat → Nat → Int32} {ft tr : Int32} {x : Nat} (hJ : I2 n p g rn d th rd sl sn sc ft tr σ) (hxn : x < n) (hk : th x 0 = 2) : C2i l D ca ad yX7_tell wsX7_tell { frames := 1, cells := 0, slots := 0, locals := 21 } [.ref (ad 0), .int (nI x)] σ (fun r σ' => r = nI (th x 1 + 100 + th x 1) ∧ I2 n p g rn d th rd sl sn sc ft (tc (tc (tc (tc tr 3) 2) 1) 1) σ') := by
  refine xk_entry cX7_tell 3 (some .int) (by decide) rfl (Nat.le_of_ble_eq_true rfl) ?_
  intro pP eE sS mM below meth cC hx hb hml hr hts hown hlk hP hK hX hS ls hl
  have hl : lv_has ls 3 [(0, .ref (ad 0)), (1, .int (nI x))] := hl
  obtain ⟨hT, hR, hRd, hSh, hnp, hft, htr⟩ := id hJ
  have hn5 := hT.2.2.1
  have hg9 := hT.2.2.2.1
  have hp6 := hR.2.1
  have hrn8 := hRd.2.1
  have hXx := hT.2.2.2.2 x hxn
  obtain ⟨ho0, ho1, ho2, ho3, ho4⟩ := hXx.2
  have hp0 : 0 < p := hnp.mp (by omega)
  refine lv_aload_n hx hb dX7_tell_0 rfl (lv_at hl 0 rfl) ?_
  refine lv_iload_n hx hb dX7_tell_1 rfl (lv_at hl 1 rfl) ?_
  refine xk_fi (va_runV (As := [.int (nI x)]) (rest := []) ⟨hx, hb, hml, hown, hts⟩ (k2_isThing_in l hI (x := x) hT (by omega)) (cwV 1 hts gX7_tell_X7_isThing rfl rfl rfl (by decide +kernel) ⟨Nat.le_of_ble_eq_true rfl, Nat.le_of_ble_eq_true rfl⟩) (xk_preV X2_ok hK hX hP (xk_recv hK hP 0 (by omega) (ci := 7) e2_obj rfl)) rfl rfl hl.1 rfl (lv_room (Nat.le_of_ble_eq_true rfl)) dX7_tell_2 ⟨Nat.le_of_ble_eq_true rfl, Nat.le_of_ble_eq_true rfl⟩) hS (fun H locs hP hS => ?_)
  refine xn_zne (tgt := 10) hx hb dX7_tell_5 (by decide) (by omega) (fun c_5 => ?_) (fun c_5 => absurd c_5 (by omega))
  refine lv_aload_n hx hb dX7_tell_10 rfl (lv_at hl 0 rfl) ?_
  refine xk_get hx hb hts (inX7_tell_X7) hown hK hP 0 (by omega) (ci := 7) e2_obj rfl 10 (by decide) (flX7_tell_25 hts) rfl (.ref (ad 6)) rfl dX7_tell_11 ?_
  refine lv_iload_n hx hb dX7_tell_14 rfl (lv_at hl 1 rfl) ?_
  refine xk_iald hx hb hK hP 6 (by omega) (n := 5) (e2_row 5 (by decide) rfl) rfl x (by omega) (by decide) dX7_tell_15 ?_
  refine xn_eqi (y := nI (th x 1)) (hXx.1 1 (by omega)) ?_
  refine lv_istore_n (lv' := [(2, .int (nI (th x 1))), (0, .ref (ad 0)), (1, .int (nI x))]) hx hb dX7_tell_16 rfl hl (by decide) rfl (fun ls hl => ?_)
  refine lv_aload_n hx hb dX7_tell_17 rfl (lv_at hl 1 rfl) ?_
  refine xk_get hx hb hts (inX7_tell_X7) hown hK hP 0 (by omega) (ci := 7) e2_obj rfl 9 (by decide) (flX7_tell_22 hts) rfl (.ref (ad 5)) rfl dX7_tell_18 ?_
  refine lv_iload_n hx hb dX7_tell_21 rfl (lv_at hl 2 rfl) ?_
  refine xk_iald hx hb hK hP 5 (by omega) (n := 5) (e2_row 5 (by decide) rfl) rfl x (by omega) (by decide) dX7_tell_22 ?_
  refine xn_eqi (y := nI (th x 0)) (hXx.1 0 (by omega)) ?_
  refine xn_eqi (y := nI 2) (by rw [hk]) ?_
  refine lv_lookup (tgt := 63) hx hb dX7_tell_23 (by decide) (off := 40) (by decide) (by decide) ?_
  refine lv_aload_n hx hb dX7_tell_63 rfl (lv_at hl 1 rfl) ?_
  refine lv_iconst (v := nI 3) hx hb dX7_tell_64 (by decide) ?_
  refine xk_fv (va_runV (As := [.int (nI 3)]) (rest := []) ⟨hx, hb, hml, hown, hts⟩ (k2_begins l hI (t := tr) (v := 3) htr) (cwV 1 hts gX7_tell_X7_begins rfl rfl rfl (by decide +kernel) ⟨Nat.le_of_ble_eq_true rfl, Nat.le_of_ble_eq_true rfl⟩) (xk_preV X2_ok hK hX hP (xk_recv hK hP 0 (by omega) (ci := 7) e2_obj rfl)) rfl rfl hl.1 rfl (lv_room (Nat.le_of_ble_eq_true rfl)) dX7_tell_65 ⟨Nat.le_of_ble_eq_true rfl, Nat.le_of_ble_eq_true rfl⟩) hS (fun H locs hP hS => ?_)
  refine lv_aload_n hx hb dX7_tell_68 rfl (lv_at hl 1 rfl) ?_
  refine lv_iconst (v := nI 2) hx hb dX7_tell_69 (by decide) ?_
  refine xk_fv (va_runV (As := [.int (nI 2)]) (rest := []) ⟨hx, hb, hml, hown, hts⟩ (k2_begins l hI (t := tc tr 3) (v := 2) up_s) (cwV 1 hts gX7_tell_X7_begins rfl rfl rfl (by decide +kernel) ⟨Nat.le_of_ble_eq_true rfl, Nat.le_of_ble_eq_true rfl⟩) (xk_preV X2_ok hK hX hP (xk_recv hK hP 0 (by omega) (ci := 7) e2_obj rfl)) rfl rfl hl.1 rfl (lv_room (Nat.le_of_ble_eq_true rfl)) dX7_tell_70 ⟨Nat.le_of_ble_eq_true rfl, Nat.le_of_ble_eq_true rfl⟩) hS (fun H locs hP hS => ?_)
  refine lv_aload_n hx hb dX7_tell_73 rfl (lv_at hl 1 rfl) ?_
  refine lv_iconst (v := nI 1) hx hb dX7_tell_74 (by decide) ?_
  refine xk_fv (va_runV (As := [.int (nI 1)]) (rest := []) ⟨hx, hb, hml, hown, hts⟩ (k2_begins l hI (t := tc (tc tr 3) 2) (v := 1) up_s) (cwV 1 hts gX7_tell_X7_begins rfl rfl rfl (by decide +kernel) ⟨Nat.le_of_ble_eq_true rfl, Nat.le_of_ble_eq_true rfl⟩) (xk_preV X2_ok hK hX hP (xk_recv hK hP 0 (by omega) (ci := 7) e2_obj rfl)) rfl rfl hl.1 rfl (lv_room (Nat.le_of_ble_eq_true rfl)) dX7_tell_75 ⟨Nat.le_of_ble_eq_true rfl, Nat.le_of_ble_eq_true rfl⟩) hS (fun H locs hP hS => ?_)
  refine lv_aload_n hx hb dX7_tell_78 rfl (lv_at hl 1 rfl) ?_
  refine lv_iconst (v := nI 1) hx hb dX7_tell_79 (by decide) ?_
  refine xk_fv (va_runV (As := [.int (nI 1)]) (rest := []) ⟨hx, hb, hml, hown, hts⟩ (k2_begins l hI (t := tc (tc (tc tr 3) 2) 1) (v := 1) up_s) (cwV 1 hts gX7_tell_X7_begins rfl rfl rfl (by decide +kernel) ⟨Nat.le_of_ble_eq_true rfl, Nat.le_of_ble_eq_true rfl⟩) (xk_preV X2_ok hK hX hP (xk_recv hK hP 0 (by omega) (ci := 7) e2_obj rfl)) rfl rfl hl.1 rfl (lv_room (Nat.le_of_ble_eq_true rfl)) dX7_tell_80 ⟨Nat.le_of_ble_eq_true rfl, Nat.le_of_ble_eq_true rfl⟩) hS (fun H locs hP hS => ?_)
  refine lv_iconst (v := nI 2) hx hb dX7_tell_83 (by decide) ?_
  refine lv_iload_n hx hb dX7_tell_84 rfl (lv_at hl 0 rfl) ?_
  refine xn_imul hx hb dX7_tell_85 ?_
  refine lv_bipush (v := nI 100) hx hb dX7_tell_86 (by decide) ?_
  refine xn_iadd hx hb dX7_tell_88 ?_
  exact xk_iret hx hb hr (vp_nar_int _) X2_ok hK hX hP hS hlk dX7_tell_89 (⟨by congr 1; omega, I2_tr (I2_tr (I2_tr (I2_tr (hJ))))⟩)

set_option maxHeartbeats 4000000 in
set_option maxRecDepth 100000 in
theorem a2_splash_xo (l : Launch) {D : va_G} {ca : Nat → ClassId} {ad : Nat → Nat} (hI : Ij ad 18) {σ : Sg} {n p g rn : Nat} {d : Nat → Nat} {th rd : Nat → Nat → Nat} {sl sn : Nat → Nat} {sc : Nat → Nat → Int32} {ft tr : Int32} {x : Int32} (hJ : I2 n p g rn d th rd sl sn sc ft tr σ) (hxx : ∀ j, j < n → x ≠ nI j) : C2i l D ca ad yX7_splash wsX7_splash { frames := 1, cells := 0, slots := 0, locals := 21 } [.ref (ad 0), .int x] σ (fun r σ' => r = -1 ∧ I2 n p g rn d th rd sl sn sc ft tr σ') := by
  refine xk_entry cX7_splash 2 (some .int) (by decide) rfl (Nat.le_of_ble_eq_true rfl) ?_
  intro pP eE sS mM below meth cC hx hb hml hr hts hown hlk hP hK hX hS ls hl
  have hl : lv_has ls 2 [(0, .ref (ad 0)), (1, .int x)] := hl
  obtain ⟨hT, hR, hRd, hSh, hnp, hft, htr⟩ := id hJ
  have hn5 := hT.2.2.1
  have hg9 := hT.2.2.2.1
  have hp6 := hR.2.1
  have hrn8 := hRd.2.1
  refine lv_aload_n hx hb dX7_splash_0 rfl (lv_at hl 0 rfl) ?_
  refine lv_iload_n hx hb dX7_splash_1 rfl (lv_at hl 1 rfl) ?_
  refine xk_fi (va_runV (As := [.int x]) (rest := []) ⟨hx, hb, hml, hown, hts⟩ (k2_isThing_out l hI (x := x) hT (by assumption)) (cwV 1 hts gX7_splash_X7_isThing rfl rfl rfl (by decide +kernel) ⟨Nat.le_of_ble_eq_true rfl, Nat.le_of_ble_eq_true rfl⟩) (xk_preV X2_ok hK hX hP (xk_recv hK hP 0 (by omega) (ci := 7) e2_obj rfl)) rfl rfl hl.1 rfl (lv_room (Nat.le_of_ble_eq_true rfl)) dX7_splash_2 ⟨Nat.le_of_ble_eq_true rfl, Nat.le_of_ble_eq_true rfl⟩) hS (fun H locs hP hS => ?_)
  refine xn_zne (tgt := 10) hx hb dX7_splash_5 (by decide) (by omega) (fun c_5 => absurd c_5 (by omega)) (fun c_5 => ?_)
  refine lv_iconst (v := (-1)) hx hb dX7_splash_8 (by decide) ?_
  exact xk_iret hx hb hr (vp_nar_int _) X2_ok hK hX hP hS hlk dX7_splash_9 (⟨rfl, hJ⟩)

set_option maxRecDepth 20000 in
theorem flX7_splash_22 {s : State} {av : Array Value} (hts : ∀ w ∈ wsX7_splash, w.before av s = true) : (Cond.fieldLink RX7 22 "WellBackModel" "kind" "[I").before av s = true := hts _ (by decide +kernel)
set_option maxRecDepth 20000 in
theorem inX7_splash_X7 : ∀ w ∈ u_ws RX7 TX7 30, w ∈ wsX7_splash := by decide +kernel
set_option maxHeartbeats 4000000 in
set_option maxRecDepth 100000 in
theorem a2_splash_k2 (l : Launch) {D : va_G} {ca : Nat → ClassId} {ad : Nat → Nat} (hI : Ij ad 18) {σ : Sg} {n p g rn : Nat} {d : Nat → Nat} {th rd : Nat → Nat → Nat} {sl sn : Nat → Nat} {sc : Nat → Nat → Int32} {ft tr : Int32} {x : Nat} (hJ : I2 n p g rn d th rd sl sn sc ft tr σ) (hxn : x < n) (hk : th x 0 = 2) : C2i l D ca ad yX7_splash wsX7_splash { frames := 1, cells := 0, slots := 0, locals := 21 } [.ref (ad 0), .int (nI x)] σ (fun r σ' => r = nI 80 ∧ I2 n p g rn d th rd sl sn sc ft (tc tr 5) σ') := by
  refine xk_entry cX7_splash 2 (some .int) (by decide) rfl (Nat.le_of_ble_eq_true rfl) ?_
  intro pP eE sS mM below meth cC hx hb hml hr hts hown hlk hP hK hX hS ls hl
  have hl : lv_has ls 2 [(0, .ref (ad 0)), (1, .int (nI x))] := hl
  obtain ⟨hT, hR, hRd, hSh, hnp, hft, htr⟩ := id hJ
  have hn5 := hT.2.2.1
  have hg9 := hT.2.2.2.1
  have hp6 := hR.2.1
  have hrn8 := hRd.2.1
  have hXx := hT.2.2.2.2 x hxn
  obtain ⟨ho0, ho1, ho2, ho3, ho4⟩ := hXx.2
  have hp0 : 0 < p := hnp.mp (by omega)
  refine lv_aload_n hx hb dX7_splash_0 rfl (lv_at hl 0 rfl) ?_
  refine lv_iload_n hx hb dX7_splash_1 rfl (lv_at hl 1 rfl) ?_
  refine xk_fi (va_runV (As := [.int (nI x)]) (rest := []) ⟨hx, hb, hml, hown, hts⟩ (k2_isThing_in l hI (x := x) hT (by omega)) (cwV 1 hts gX7_splash_X7_isThing rfl rfl rfl (by decide +kernel) ⟨Nat.le_of_ble_eq_true rfl, Nat.le_of_ble_eq_true rfl⟩) (xk_preV X2_ok hK hX hP (xk_recv hK hP 0 (by omega) (ci := 7) e2_obj rfl)) rfl rfl hl.1 rfl (lv_room (Nat.le_of_ble_eq_true rfl)) dX7_splash_2 ⟨Nat.le_of_ble_eq_true rfl, Nat.le_of_ble_eq_true rfl⟩) hS (fun H locs hP hS => ?_)
  refine xn_zne (tgt := 10) hx hb dX7_splash_5 (by decide) (by omega) (fun c_5 => ?_) (fun c_5 => absurd c_5 (by omega))
  refine lv_aload_n hx hb dX7_splash_10 rfl (lv_at hl 0 rfl) ?_
  refine lv_aload_n hx hb dX7_splash_11 rfl (lv_at hl 0 rfl) ?_
  refine xk_get hx hb hts (inX7_splash_X7) hown hK hP 0 (by omega) (ci := 7) e2_obj rfl 9 (by decide) (flX7_splash_22 hts) rfl (.ref (ad 5)) rfl dX7_splash_12 ?_
  refine lv_iload_n hx hb dX7_splash_15 rfl (lv_at hl 1 rfl) ?_
  refine xk_iald hx hb hK hP 5 (by omega) (n := 5) (e2_row 5 (by decide) rfl) rfl x (by omega) (by decide) dX7_splash_16 ?_
  refine xn_eqi (y := nI (th x 0)) (hXx.1 0 (by omega)) ?_
  refine lv_iconst (v := nI 2) hx hb dX7_splash_17 (by decide) ?_
  refine xn_ine (tgt := 25) hx hb dX7_splash_18 (by decide) (by omega) (by omega) (fun c_18 => absurd c_18 (by omega)) (fun c_18 => ?_)
  refine lv_iconst (v := nI 5) hx hb dX7_splash_21 (by decide) ?_
  refine lv_goto (tgt := 26) hx hb dX7_splash_22 (by decide) ?_
  refine xk_fv (va_runV (As := [.int (nI 5)]) (rest := []) ⟨hx, hb, hml, hown, hts⟩ (k2_begins l hI (t := tr) (v := 5) htr) (cwV 1 hts gX7_splash_X7_begins rfl rfl rfl (by decide +kernel) ⟨Nat.le_of_ble_eq_true rfl, Nat.le_of_ble_eq_true rfl⟩) (xk_preV X2_ok hK hX hP (xk_recv hK hP 0 (by omega) (ci := 7) e2_obj rfl)) rfl rfl hl.1 rfl (lv_room (Nat.le_of_ble_eq_true rfl)) dX7_splash_26 ⟨Nat.le_of_ble_eq_true rfl, Nat.le_of_ble_eq_true rfl⟩) hS (fun H locs hP hS => ?_)
  refine lv_aload_n hx hb dX7_splash_29 rfl (lv_at hl 0 rfl) ?_
  refine xk_get hx hb hts (inX7_splash_X7) hown hK hP 0 (by omega) (ci := 7) e2_obj rfl 9 (by decide) (flX7_splash_22 hts) rfl (.ref (ad 5)) rfl dX7_splash_30 ?_
  refine lv_iload_n hx hb dX7_splash_33 rfl (lv_at hl 1 rfl) ?_
  refine xk_iald hx hb hK hP 5 (by omega) (n := 5) (e2_row 5 (by decide) rfl) rfl x (by omega) (by decide) dX7_splash_34 ?_
  refine xn_eqi (y := nI (th x 0)) ((up_n (by omega)).trans (hXx.1 0 (by omega))) ?_
  refine lv_iconst (v := nI 2) hx hb dX7_splash_35 (by decide) ?_
  refine xn_ine (tgt := 44) hx hb dX7_splash_36 (by decide) (by omega) (by omega) (fun c_36 => absurd c_36 (by omega)) (fun c_36 => ?_)
  refine lv_bipush (v := nI 80) hx hb dX7_splash_39 (by decide) ?_
  refine lv_goto (tgt := 45) hx hb dX7_splash_41 (by decide) ?_
  exact xk_iret hx hb hr (vp_nar_int _) X2_ok hK hX hP hS hlk dX7_splash_45 (⟨rfl, I2_tr hJ⟩)

set_option maxHeartbeats 4000000 in
set_option maxRecDepth 100000 in
theorem a2_splash_o (l : Launch) {D : va_G} {ca : Nat → ClassId} {ad : Nat → Nat} (hI : Ij ad 18) {σ : Sg} {n p g rn : Nat} {d : Nat → Nat} {th rd : Nat → Nat → Nat} {sl sn : Nat → Nat} {sc : Nat → Nat → Int32} {ft tr : Int32} {x : Nat} (hJ : I2 n p g rn d th rd sl sn sc ft tr σ) (hxn : x < n) (hk : ¬ th x 0 = 2) : C2i l D ca ad yX7_splash wsX7_splash { frames := 1, cells := 0, slots := 0, locals := 21 } [.ref (ad 0), .int (nI x)] σ (fun r σ' => r = nI x ∧ I2 n p g rn d th rd sl sn sc ft (tc tr 4) σ') := by
  refine xk_entry cX7_splash 2 (some .int) (by decide) rfl (Nat.le_of_ble_eq_true rfl) ?_
  intro pP eE sS mM below meth cC hx hb hml hr hts hown hlk hP hK hX hS ls hl
  have hl : lv_has ls 2 [(0, .ref (ad 0)), (1, .int (nI x))] := hl
  obtain ⟨hT, hR, hRd, hSh, hnp, hft, htr⟩ := id hJ
  have hn5 := hT.2.2.1
  have hg9 := hT.2.2.2.1
  have hp6 := hR.2.1
  have hrn8 := hRd.2.1
  have hXx := hT.2.2.2.2 x hxn
  obtain ⟨ho0, ho1, ho2, ho3, ho4⟩ := hXx.2
  have hp0 : 0 < p := hnp.mp (by omega)
  refine lv_aload_n hx hb dX7_splash_0 rfl (lv_at hl 0 rfl) ?_
  refine lv_iload_n hx hb dX7_splash_1 rfl (lv_at hl 1 rfl) ?_
  refine xk_fi (va_runV (As := [.int (nI x)]) (rest := []) ⟨hx, hb, hml, hown, hts⟩ (k2_isThing_in l hI (x := x) hT (by omega)) (cwV 1 hts gX7_splash_X7_isThing rfl rfl rfl (by decide +kernel) ⟨Nat.le_of_ble_eq_true rfl, Nat.le_of_ble_eq_true rfl⟩) (xk_preV X2_ok hK hX hP (xk_recv hK hP 0 (by omega) (ci := 7) e2_obj rfl)) rfl rfl hl.1 rfl (lv_room (Nat.le_of_ble_eq_true rfl)) dX7_splash_2 ⟨Nat.le_of_ble_eq_true rfl, Nat.le_of_ble_eq_true rfl⟩) hS (fun H locs hP hS => ?_)
  refine xn_zne (tgt := 10) hx hb dX7_splash_5 (by decide) (by omega) (fun c_5 => ?_) (fun c_5 => absurd c_5 (by omega))
  refine lv_aload_n hx hb dX7_splash_10 rfl (lv_at hl 0 rfl) ?_
  refine lv_aload_n hx hb dX7_splash_11 rfl (lv_at hl 0 rfl) ?_
  refine xk_get hx hb hts (inX7_splash_X7) hown hK hP 0 (by omega) (ci := 7) e2_obj rfl 9 (by decide) (flX7_splash_22 hts) rfl (.ref (ad 5)) rfl dX7_splash_12 ?_
  refine lv_iload_n hx hb dX7_splash_15 rfl (lv_at hl 1 rfl) ?_
  refine xk_iald hx hb hK hP 5 (by omega) (n := 5) (e2_row 5 (by decide) rfl) rfl x (by omega) (by decide) dX7_splash_16 ?_
  refine xn_eqi (y := nI (th x 0)) (hXx.1 0 (by omega)) ?_
  refine lv_iconst (v := nI 2) hx hb dX7_splash_17 (by decide) ?_
  refine xn_ine (tgt := 25) hx hb dX7_splash_18 (by decide) (by omega) (by omega) (fun c_18 => ?_) (fun c_18 => absurd c_18 (by omega))
  refine lv_iconst (v := nI 4) hx hb dX7_splash_25 (by decide) ?_
  refine xk_fv (va_runV (As := [.int (nI 4)]) (rest := []) ⟨hx, hb, hml, hown, hts⟩ (k2_begins l hI (t := tr) (v := 4) htr) (cwV 1 hts gX7_splash_X7_begins rfl rfl rfl (by decide +kernel) ⟨Nat.le_of_ble_eq_true rfl, Nat.le_of_ble_eq_true rfl⟩) (xk_preV X2_ok hK hX hP (xk_recv hK hP 0 (by omega) (ci := 7) e2_obj rfl)) rfl rfl hl.1 rfl (lv_room (Nat.le_of_ble_eq_true rfl)) dX7_splash_26 ⟨Nat.le_of_ble_eq_true rfl, Nat.le_of_ble_eq_true rfl⟩) hS (fun H locs hP hS => ?_)
  refine lv_aload_n hx hb dX7_splash_29 rfl (lv_at hl 0 rfl) ?_
  refine xk_get hx hb hts (inX7_splash_X7) hown hK hP 0 (by omega) (ci := 7) e2_obj rfl 9 (by decide) (flX7_splash_22 hts) rfl (.ref (ad 5)) rfl dX7_splash_30 ?_
  refine lv_iload_n hx hb dX7_splash_33 rfl (lv_at hl 1 rfl) ?_
  refine xk_iald hx hb hK hP 5 (by omega) (n := 5) (e2_row 5 (by decide) rfl) rfl x (by omega) (by decide) dX7_splash_34 ?_
  refine xn_eqi (y := nI (th x 0)) ((up_n (by omega)).trans (hXx.1 0 (by omega))) ?_
  refine lv_iconst (v := nI 2) hx hb dX7_splash_35 (by decide) ?_
  refine xn_ine (tgt := 44) hx hb dX7_splash_36 (by decide) (by omega) (by omega) (fun c_36 => ?_) (fun c_36 => absurd c_36 (by omega))
  refine lv_iload_n hx hb dX7_splash_44 rfl (lv_at hl 1 rfl) ?_
  exact xk_iret hx hb hr (vp_nar_int _) X2_ok hK hX hP hS hlk dX7_splash_45 (⟨rfl, I2_tr hJ⟩)

set_option maxRecDepth 20000 in
theorem flX7_as_61 {s : State} {av : Array Value} (hts : ∀ w ∈ wsX7_as, w.before av s = true) : (Cond.fieldLink RX7 61 "WellBackModel" "fault" "I").before av s = true := hts _ (by decide +kernel)
set_option maxRecDepth 20000 in
theorem inX7_as_X7 : ∀ w ∈ u_ws RX7 TX7 30, w ∈ wsX7_as := by decide +kernel
set_option maxHeartbeats 4000000 in
set_option maxRecDepth 100000 in
theorem a2_as_xo (l : Launch) {D : va_G} {ca : Nat → ClassId} {ad : Nat → Nat} (hI : Ij ad 18) {σ : Sg} {n p g rn : Nat} {d : Nat → Nat} {th rd : Nat → Nat → Nat} {sl sn : Nat → Nat} {sc : Nat → Nat → Int32} {ft tr : Int32} {x : Int32} {k : Int32} (hJ : I2 n p g rn d th rd sl sn sc ft tr σ) (hxx : ∀ j, j < n → x ≠ nI j) : C2i l D ca ad yX7_as wsX7_as { frames := 1, cells := 0, slots := 0, locals := 22 } [.ref (ad 0), .int x, .int k] σ (fun r σ' => r = -1 ∧ I2 n p g rn d th rd sl sn sc (nI 0) tr σ') := by
  refine xk_entry cX7_as 3 (some .int) (by decide) rfl (Nat.le_of_ble_eq_true rfl) ?_
  intro pP eE sS mM below meth cC hx hb hml hr hts hown hlk hP hK hX hS ls hl
  have hl : lv_has ls 3 [(0, .ref (ad 0)), (1, .int x), (2, .int k)] := hl
  obtain ⟨hT, hR, hRd, hSh, hnp, hft, htr⟩ := id hJ
  have hn5 := hT.2.2.1
  have hg9 := hT.2.2.2.1
  have hp6 := hR.2.1
  have hrn8 := hRd.2.1
  refine lv_aload_n hx hb dX7_as_0 rfl (lv_at hl 0 rfl) ?_
  refine lv_iconst (v := nI 0) hx hb dX7_as_1 (by decide) ?_
  refine xk_put hx hb hts (inX7_as_X7) tyX7 tyX7_ok nmX7 hown hK hI hP hS 0 (by omega) (ci := 7) e2_obj rfl 0 (by decide) (flX7_as_61 hts) rfl rfl (by decide +kernel) (Nat.le_of_ble_eq_true rfl) e2_loc (by rw [e2_obj]; simp [up]) dX7_as_2 (fun H locs hP hS => ?_)
  obtain ⟨σ0, hσ0⟩ : ∃ τ, τ = up σ 0 0 (nI 0) := ⟨_, rfl⟩
  rw [← hσ0] at hP
  have hJ0 : I2 n p g rn d th rd sl sn sc (nI 0) tr σ0 := by rw [hσ0]; exact I2_ft hJ
  obtain ⟨hT, hR, hRd, hSh, -, hft, htr⟩ := id hJ0
  refine lv_aload_n hx hb dX7_as_5 rfl (lv_at hl 0 rfl) ?_
  refine lv_iload_n hx hb dX7_as_6 rfl (lv_at hl 1 rfl) ?_
  refine xk_fi (va_runV (As := [.int x]) (rest := []) ⟨hx, hb, hml, hown, hts⟩ (k2_isThing_out l hI (x := x) hT (by assumption)) (cwV 1 hts gX7_as_X7_isThing rfl rfl rfl (by decide +kernel) ⟨Nat.le_of_ble_eq_true rfl, Nat.le_of_ble_eq_true rfl⟩) (xk_preV X2_ok hK hX hP (xk_recv hK hP 0 (by omega) (ci := 7) e2_obj rfl)) rfl rfl hl.1 rfl (lv_room (Nat.le_of_ble_eq_true rfl)) dX7_as_7 ⟨Nat.le_of_ble_eq_true rfl, Nat.le_of_ble_eq_true rfl⟩) hS (fun H locs hP hS => ?_)
  refine xn_zne (tgt := 15) hx hb dX7_as_10 (by decide) (by omega) (fun c_10 => absurd c_10 (by omega)) (fun c_10 => ?_)
  refine lv_iconst (v := (-1)) hx hb dX7_as_13 (by decide) ?_
  exact xk_iret hx hb hr (vp_nar_int _) X2_ok hK hX hP hS hlk dX7_as_14 (⟨rfl, hJ0⟩)

set_option maxHeartbeats 4000000 in
set_option maxRecDepth 100000 in
theorem a2_as_ko (l : Launch) {D : va_G} {ca : Nat → ClassId} {ad : Nat → Nat} (hI : Ij ad 18) {σ : Sg} {n p g rn : Nat} {d : Nat → Nat} {th rd : Nat → Nat → Nat} {sl sn : Nat → Nat} {sc : Nat → Nat → Int32} {ft tr : Int32} {x : Nat} {k : Int32} (hJ : I2 n p g rn d th rd sl sn sc ft tr σ) (hxn : x < n) (hko : ¬ (nI 0 ≤ k ∧ k ≤ nI 2)) : C2i l D ca ad yX7_as wsX7_as { frames := 1, cells := 0, slots := 0, locals := 22 } [.ref (ad 0), .int (nI x), .int k] σ (fun r σ' => r = -2 ∧ I2 n p g rn d th rd sl sn sc (nI 0) tr σ') := by
  refine xk_entry cX7_as 3 (some .int) (by decide) rfl (Nat.le_of_ble_eq_true rfl) ?_
  intro pP eE sS mM below meth cC hx hb hml hr hts hown hlk hP hK hX hS ls hl
  have hl : lv_has ls 3 [(0, .ref (ad 0)), (1, .int (nI x)), (2, .int k)] := hl
  obtain ⟨hT, hR, hRd, hSh, hnp, hft, htr⟩ := id hJ
  have hn5 := hT.2.2.1
  have hg9 := hT.2.2.2.1
  have hp6 := hR.2.1
  have hrn8 := hRd.2.1
  have hXx := hT.2.2.2.2 x hxn
  obtain ⟨ho0, ho1, ho2, ho3, ho4⟩ := hXx.2
  have hp0 : 0 < p := hnp.mp (by omega)
  refine lv_aload_n hx hb dX7_as_0 rfl (lv_at hl 0 rfl) ?_
  refine lv_iconst (v := nI 0) hx hb dX7_as_1 (by decide) ?_
  refine xk_put hx hb hts (inX7_as_X7) tyX7 tyX7_ok nmX7 hown hK hI hP hS 0 (by omega) (ci := 7) e2_obj rfl 0 (by decide) (flX7_as_61 hts) rfl rfl (by decide +kernel) (Nat.le_of_ble_eq_true rfl) e2_loc (by rw [e2_obj]; simp [up]) dX7_as_2 (fun H locs hP hS => ?_)
  obtain ⟨σ0, hσ0⟩ : ∃ τ, τ = up σ 0 0 (nI 0) := ⟨_, rfl⟩
  rw [← hσ0] at hP
  have hJ0 : I2 n p g rn d th rd sl sn sc (nI 0) tr σ0 := by rw [hσ0]; exact I2_ft hJ
  obtain ⟨hT, hR, hRd, hSh, -, hft, htr⟩ := id hJ0
  have hXx := hT.2.2.2.2 x hxn
  refine lv_aload_n hx hb dX7_as_5 rfl (lv_at hl 0 rfl) ?_
  refine lv_iload_n hx hb dX7_as_6 rfl (lv_at hl 1 rfl) ?_
  refine xk_fi (va_runV (As := [.int (nI x)]) (rest := []) ⟨hx, hb, hml, hown, hts⟩ (k2_isThing_in l hI (x := x) hT (by omega)) (cwV 1 hts gX7_as_X7_isThing rfl rfl rfl (by decide +kernel) ⟨Nat.le_of_ble_eq_true rfl, Nat.le_of_ble_eq_true rfl⟩) (xk_preV X2_ok hK hX hP (xk_recv hK hP 0 (by omega) (ci := 7) e2_obj rfl)) rfl rfl hl.1 rfl (lv_room (Nat.le_of_ble_eq_true rfl)) dX7_as_7 ⟨Nat.le_of_ble_eq_true rfl, Nat.le_of_ble_eq_true rfl⟩) hS (fun H locs hP hS => ?_)
  refine xn_zne (tgt := 15) hx hb dX7_as_10 (by decide) (by omega) (fun c_10 => ?_) (fun c_10 => absurd c_10 (by omega))
  refine lv_iload_n hx hb dX7_as_15 rfl (lv_at hl 2 rfl) ?_
  refine lv_iconst (v := nI 0) hx hb dX7_as_16 (by decide) ?_
  refine lv_iconst (v := nI 2) hx hb dX7_as_17 (by decide) ?_
  refine xk_fi (va_runS (As := [.int k, .int (nI 0), .int (nI 2)]) (rest := []) ⟨hx, hb, hml, hown, hts⟩ (k2_within_f l hI k (nI 0) (nI 2) (by assumption)) (va_cwS 3 hts gX7_as_X7_within rfl rfl rfl (by decide +kernel) ⟨Nat.le_of_ble_eq_true rfl, Nat.le_of_ble_eq_true rfl⟩) (xk_preS X2_ok hK hX hP) rfl rfl hl.1 rfl (lv_room (Nat.le_of_ble_eq_true rfl)) dX7_as_18 ⟨Nat.le_of_ble_eq_true rfl, Nat.le_of_ble_eq_true rfl⟩) hS (fun H locs hP hS => ?_)
  refine xn_zne (tgt := 27) hx hb dX7_as_21 (by decide) (by omega) (fun c_21 => absurd c_21 (by omega)) (fun c_21 => ?_)
  refine lv_bipush (v := (-2)) hx hb dX7_as_24 (by decide) ?_
  exact xk_iret hx hb hr (vp_nar_int _) X2_ok hK hX hP hS hlk dX7_as_26 (⟨rfl, hJ0⟩)

set_option maxRecDepth 20000 in
theorem flX7_as_22 {s : State} {av : Array Value} (hts : ∀ w ∈ wsX7_as, w.before av s = true) : (Cond.fieldLink RX7 22 "WellBackModel" "kind" "[I").before av s = true := hts _ (by decide +kernel)
set_option maxHeartbeats 4000000 in
set_option maxRecDepth 100000 in
theorem a2_as_y (l : Launch) {D : va_G} {ca : Nat → ClassId} {ad : Nat → Nat} (hI : Ij ad 18) {σ : Sg} {n p g rn : Nat} {d : Nat → Nat} {th rd : Nat → Nat → Nat} {sl sn : Nat → Nat} {sc : Nat → Nat → Int32} {ft tr : Int32} {x : Nat} {k : Nat} (hJ : I2 n p g rn d th rd sl sn sc ft tr σ) (hxn : x < n) (hk2 : k ≤ 2) (hkt : k ≤ th x 0) : C2i l D ca ad yX7_as wsX7_as { frames := 1, cells := 0, slots := 0, locals := 22 } [.ref (ad 0), .int (nI x), .int (nI k)] σ (fun r σ' => r = nI 1 ∧ I2 n p g rn d th rd sl sn sc (nI 0) tr σ') := by
  refine xk_entry cX7_as 3 (some .int) (by decide) rfl (Nat.le_of_ble_eq_true rfl) ?_
  intro pP eE sS mM below meth cC hx hb hml hr hts hown hlk hP hK hX hS ls hl
  have hl : lv_has ls 3 [(0, .ref (ad 0)), (1, .int (nI x)), (2, .int (nI k))] := hl
  obtain ⟨hT, hR, hRd, hSh, hnp, hft, htr⟩ := id hJ
  have hn5 := hT.2.2.1
  have hg9 := hT.2.2.2.1
  have hp6 := hR.2.1
  have hrn8 := hRd.2.1
  have hXx := hT.2.2.2.2 x hxn
  obtain ⟨ho0, ho1, ho2, ho3, ho4⟩ := hXx.2
  have hp0 : 0 < p := hnp.mp (by omega)
  refine lv_aload_n hx hb dX7_as_0 rfl (lv_at hl 0 rfl) ?_
  refine lv_iconst (v := nI 0) hx hb dX7_as_1 (by decide) ?_
  refine xk_put hx hb hts (inX7_as_X7) tyX7 tyX7_ok nmX7 hown hK hI hP hS 0 (by omega) (ci := 7) e2_obj rfl 0 (by decide) (flX7_as_61 hts) rfl rfl (by decide +kernel) (Nat.le_of_ble_eq_true rfl) e2_loc (by rw [e2_obj]; simp [up]) dX7_as_2 (fun H locs hP hS => ?_)
  obtain ⟨σ0, hσ0⟩ : ∃ τ, τ = up σ 0 0 (nI 0) := ⟨_, rfl⟩
  rw [← hσ0] at hP
  have hJ0 : I2 n p g rn d th rd sl sn sc (nI 0) tr σ0 := by rw [hσ0]; exact I2_ft hJ
  obtain ⟨hT, hR, hRd, hSh, -, hft, htr⟩ := id hJ0
  have hXx := hT.2.2.2.2 x hxn
  refine lv_aload_n hx hb dX7_as_5 rfl (lv_at hl 0 rfl) ?_
  refine lv_iload_n hx hb dX7_as_6 rfl (lv_at hl 1 rfl) ?_
  refine xk_fi (va_runV (As := [.int (nI x)]) (rest := []) ⟨hx, hb, hml, hown, hts⟩ (k2_isThing_in l hI (x := x) hT (by omega)) (cwV 1 hts gX7_as_X7_isThing rfl rfl rfl (by decide +kernel) ⟨Nat.le_of_ble_eq_true rfl, Nat.le_of_ble_eq_true rfl⟩) (xk_preV X2_ok hK hX hP (xk_recv hK hP 0 (by omega) (ci := 7) e2_obj rfl)) rfl rfl hl.1 rfl (lv_room (Nat.le_of_ble_eq_true rfl)) dX7_as_7 ⟨Nat.le_of_ble_eq_true rfl, Nat.le_of_ble_eq_true rfl⟩) hS (fun H locs hP hS => ?_)
  refine xn_zne (tgt := 15) hx hb dX7_as_10 (by decide) (by omega) (fun c_10 => ?_) (fun c_10 => absurd c_10 (by omega))
  refine lv_iload_n hx hb dX7_as_15 rfl (lv_at hl 2 rfl) ?_
  refine lv_iconst (v := nI 0) hx hb dX7_as_16 (by decide) ?_
  refine lv_iconst (v := nI 2) hx hb dX7_as_17 (by decide) ?_
  refine xk_fi (va_runS (As := [.int (nI k), .int (nI 0), .int (nI 2)]) (rest := []) ⟨hx, hb, hml, hown, hts⟩ (k2_within_t l hI (nI k) (nI 0) (nI 2) (xn_in (by omega) (by omega) (by omega))) (va_cwS 3 hts gX7_as_X7_within rfl rfl rfl (by decide +kernel) ⟨Nat.le_of_ble_eq_true rfl, Nat.le_of_ble_eq_true rfl⟩) (xk_preS X2_ok hK hX hP) rfl rfl hl.1 rfl (lv_room (Nat.le_of_ble_eq_true rfl)) dX7_as_18 ⟨Nat.le_of_ble_eq_true rfl, Nat.le_of_ble_eq_true rfl⟩) hS (fun H locs hP hS => ?_)
  refine xn_zne (tgt := 27) hx hb dX7_as_21 (by decide) (by omega) (fun c_21 => ?_) (fun c_21 => absurd c_21 (by omega))
  refine lv_aload_n hx hb dX7_as_27 rfl (lv_at hl 0 rfl) ?_
  refine xk_get hx hb hts (inX7_as_X7) hown hK hP 0 (by omega) (ci := 7) e2_obj rfl 9 (by decide) (flX7_as_22 hts) rfl (.ref (ad 5)) rfl dX7_as_28 ?_
  refine lv_iload_n hx hb dX7_as_31 rfl (lv_at hl 1 rfl) ?_
  refine xk_iald hx hb hK hP 5 (by omega) (n := 5) (e2_row 5 (by decide) rfl) rfl x (by omega) (by decide) dX7_as_32 ?_
  refine xn_eqi (y := nI (th x 0)) (hXx.1 0 (by omega)) ?_
  refine lv_iload_n hx hb dX7_as_33 rfl (lv_at hl 2 rfl) ?_
  refine xn_ilt (tgt := 41) hx hb dX7_as_34 (by decide) (by omega) (by omega) (fun c_34 => absurd c_34 (by omega)) (fun c_34 => ?_)
  refine lv_iconst (v := nI 1) hx hb dX7_as_37 (by decide) ?_
  refine lv_goto (tgt := 46) hx hb dX7_as_38 (by decide) ?_
  exact xk_iret hx hb hr (vp_nar_int _) X2_ok hK hX hP hS hlk dX7_as_46 (⟨rfl, hJ0⟩)

set_option maxHeartbeats 4000000 in
set_option maxRecDepth 100000 in
theorem a2_as_no (l : Launch) {D : va_G} {ca : Nat → ClassId} {ad : Nat → Nat} (hI : Ij ad 18) {σ : Sg} {n p g rn : Nat} {d : Nat → Nat} {th rd : Nat → Nat → Nat} {sl sn : Nat → Nat} {sc : Nat → Nat → Int32} {ft tr : Int32} {x : Nat} {k : Nat} (hJ : I2 n p g rn d th rd sl sn sc ft tr σ) (hxn : x < n) (hk2 : k ≤ 2) (hkt : th x 0 < k) : C2i l D ca ad yX7_as wsX7_as { frames := 1, cells := 0, slots := 0, locals := 22 } [.ref (ad 0), .int (nI x), .int (nI k)] σ (fun r σ' => r = (-10) - nI 2 ∧ I2 n p g rn d th rd sl sn sc (nI 2) tr σ') := by
  refine xk_entry cX7_as 3 (some .int) (by decide) rfl (Nat.le_of_ble_eq_true rfl) ?_
  intro pP eE sS mM below meth cC hx hb hml hr hts hown hlk hP hK hX hS ls hl
  have hl : lv_has ls 3 [(0, .ref (ad 0)), (1, .int (nI x)), (2, .int (nI k))] := hl
  obtain ⟨hT, hR, hRd, hSh, hnp, hft, htr⟩ := id hJ
  have hn5 := hT.2.2.1
  have hg9 := hT.2.2.2.1
  have hp6 := hR.2.1
  have hrn8 := hRd.2.1
  have hXx := hT.2.2.2.2 x hxn
  obtain ⟨ho0, ho1, ho2, ho3, ho4⟩ := hXx.2
  have hp0 : 0 < p := hnp.mp (by omega)
  refine lv_aload_n hx hb dX7_as_0 rfl (lv_at hl 0 rfl) ?_
  refine lv_iconst (v := nI 0) hx hb dX7_as_1 (by decide) ?_
  refine xk_put hx hb hts (inX7_as_X7) tyX7 tyX7_ok nmX7 hown hK hI hP hS 0 (by omega) (ci := 7) e2_obj rfl 0 (by decide) (flX7_as_61 hts) rfl rfl (by decide +kernel) (Nat.le_of_ble_eq_true rfl) e2_loc (by rw [e2_obj]; simp [up]) dX7_as_2 (fun H locs hP hS => ?_)
  obtain ⟨σ0, hσ0⟩ : ∃ τ, τ = up σ 0 0 (nI 0) := ⟨_, rfl⟩
  rw [← hσ0] at hP
  have hJ0 : I2 n p g rn d th rd sl sn sc (nI 0) tr σ0 := by rw [hσ0]; exact I2_ft hJ
  obtain ⟨hT, hR, hRd, hSh, -, hft, htr⟩ := id hJ0
  have hXx := hT.2.2.2.2 x hxn
  refine lv_aload_n hx hb dX7_as_5 rfl (lv_at hl 0 rfl) ?_
  refine lv_iload_n hx hb dX7_as_6 rfl (lv_at hl 1 rfl) ?_
  refine xk_fi (va_runV (As := [.int (nI x)]) (rest := []) ⟨hx, hb, hml, hown, hts⟩ (k2_isThing_in l hI (x := x) hT (by omega)) (cwV 1 hts gX7_as_X7_isThing rfl rfl rfl (by decide +kernel) ⟨Nat.le_of_ble_eq_true rfl, Nat.le_of_ble_eq_true rfl⟩) (xk_preV X2_ok hK hX hP (xk_recv hK hP 0 (by omega) (ci := 7) e2_obj rfl)) rfl rfl hl.1 rfl (lv_room (Nat.le_of_ble_eq_true rfl)) dX7_as_7 ⟨Nat.le_of_ble_eq_true rfl, Nat.le_of_ble_eq_true rfl⟩) hS (fun H locs hP hS => ?_)
  refine xn_zne (tgt := 15) hx hb dX7_as_10 (by decide) (by omega) (fun c_10 => ?_) (fun c_10 => absurd c_10 (by omega))
  refine lv_iload_n hx hb dX7_as_15 rfl (lv_at hl 2 rfl) ?_
  refine lv_iconst (v := nI 0) hx hb dX7_as_16 (by decide) ?_
  refine lv_iconst (v := nI 2) hx hb dX7_as_17 (by decide) ?_
  refine xk_fi (va_runS (As := [.int (nI k), .int (nI 0), .int (nI 2)]) (rest := []) ⟨hx, hb, hml, hown, hts⟩ (k2_within_t l hI (nI k) (nI 0) (nI 2) (xn_in (by omega) (by omega) (by omega))) (va_cwS 3 hts gX7_as_X7_within rfl rfl rfl (by decide +kernel) ⟨Nat.le_of_ble_eq_true rfl, Nat.le_of_ble_eq_true rfl⟩) (xk_preS X2_ok hK hX hP) rfl rfl hl.1 rfl (lv_room (Nat.le_of_ble_eq_true rfl)) dX7_as_18 ⟨Nat.le_of_ble_eq_true rfl, Nat.le_of_ble_eq_true rfl⟩) hS (fun H locs hP hS => ?_)
  refine xn_zne (tgt := 27) hx hb dX7_as_21 (by decide) (by omega) (fun c_21 => ?_) (fun c_21 => absurd c_21 (by omega))
  refine lv_aload_n hx hb dX7_as_27 rfl (lv_at hl 0 rfl) ?_
  refine xk_get hx hb hts (inX7_as_X7) hown hK hP 0 (by omega) (ci := 7) e2_obj rfl 9 (by decide) (flX7_as_22 hts) rfl (.ref (ad 5)) rfl dX7_as_28 ?_
  refine lv_iload_n hx hb dX7_as_31 rfl (lv_at hl 1 rfl) ?_
  refine xk_iald hx hb hK hP 5 (by omega) (n := 5) (e2_row 5 (by decide) rfl) rfl x (by omega) (by decide) dX7_as_32 ?_
  refine xn_eqi (y := nI (th x 0)) (hXx.1 0 (by omega)) ?_
  refine lv_iload_n hx hb dX7_as_33 rfl (lv_at hl 2 rfl) ?_
  refine xn_ilt (tgt := 41) hx hb dX7_as_34 (by decide) (by omega) (by omega) (fun c_34 => ?_) (fun c_34 => absurd c_34 (by omega))
  refine lv_aload_n hx hb dX7_as_41 rfl (lv_at hl 0 rfl) ?_
  refine lv_iconst (v := nI 2) hx hb dX7_as_42 (by decide) ?_
  refine xk_fi (va_runV (As := [.int (nI 2)]) (rest := []) ⟨hx, hb, hml, hown, hts⟩ (k2_fails l hI 2) (cwV 1 hts gX7_as_X7_fails rfl rfl rfl (by decide +kernel) ⟨Nat.le_of_ble_eq_true rfl, Nat.le_of_ble_eq_true rfl⟩) (xk_preV X2_ok hK hX hP (xk_recv hK hP 0 (by omega) (ci := 7) e2_obj rfl)) rfl rfl hl.1 rfl (lv_room (Nat.le_of_ble_eq_true rfl)) dX7_as_43 ⟨Nat.le_of_ble_eq_true rfl, Nat.le_of_ble_eq_true rfl⟩) hS (fun H locs hP hS => ?_)
  exact xk_iret hx hb hr (vp_nar_int _) X2_ok hK hX hP hS hlk dX7_as_46 (⟨rfl, I2_ft hJ0⟩)

set_option maxHeartbeats 4000000 in
set_option maxRecDepth 100000 in
theorem a2_reading_xo (l : Launch) {D : va_G} {ca : Nat → ClassId} {ad : Nat → Nat} (hI : Ij ad 18) {σ : Sg} {n p g rn : Nat} {d : Nat → Nat} {th rd : Nat → Nat → Nat} {sl sn : Nat → Nat} {sc : Nat → Nat → Int32} {ft tr : Int32} {x : Int32} {h e : Int32} (hJ : I2 n p g rn d th rd sl sn sc ft tr σ) (hxx : ∀ j, j < n → x ≠ nI j) : C2i l D ca ad yX7_reading wsX7_reading { frames := 2, cells := 0, slots := 0, locals := 42 } [.ref (ad 0), .int x, .int h, .int e] σ (fun r σ' => r = -1 ∧ I2 n p g rn d th rd sl sn sc ft tr σ') := by
  refine xk_entry cX7_reading 4 (some .int) (by decide) rfl (Nat.le_of_ble_eq_true rfl) ?_
  intro pP eE sS mM below meth cC hx hb hml hr hts hown hlk hP hK hX hS ls hl
  have hl : lv_has ls 4 [(0, .ref (ad 0)), (1, .int x), (2, .int h), (3, .int e)] := hl
  obtain ⟨hT, hR, hRd, hSh, hnp, hft, htr⟩ := id hJ
  have hn5 := hT.2.2.1
  have hg9 := hT.2.2.2.1
  have hp6 := hR.2.1
  have hrn8 := hRd.2.1
  refine lv_aload_n hx hb dX7_reading_0 rfl (lv_at hl 0 rfl) ?_
  refine lv_iload_n hx hb dX7_reading_1 rfl (lv_at hl 1 rfl) ?_
  refine xk_fi (va_runV (As := [.int x]) (rest := []) ⟨hx, hb, hml, hown, hts⟩ (k2_isThing_out l hI (x := x) hT (by assumption)) (cwV 1 hts gX7_reading_X7_isThing rfl rfl rfl (by decide +kernel) ⟨Nat.le_of_ble_eq_true rfl, Nat.le_of_ble_eq_true rfl⟩) (xk_preV X2_ok hK hX hP (xk_recv hK hP 0 (by omega) (ci := 7) e2_obj rfl)) rfl rfl hl.1 rfl (lv_room (Nat.le_of_ble_eq_true rfl)) dX7_reading_2 ⟨Nat.le_of_ble_eq_true rfl, Nat.le_of_ble_eq_true rfl⟩) hS (fun H locs hP hS => ?_)
  refine xn_zeq (tgt := 21) hx hb dX7_reading_5 (by decide) (by omega) (fun c_5 => ?_) (fun c_5 => absurd c_5 (by omega))
  refine lv_iconst (v := (-1)) hx hb dX7_reading_21 (by decide) ?_
  exact xk_iret hx hb hr (vp_nar_int _) X2_ok hK hX hP hS hlk dX7_reading_22 (⟨rfl, hJ⟩)

set_option maxHeartbeats 4000000 in
set_option maxRecDepth 100000 in
theorem a2_reading_do (l : Launch) {D : va_G} {ca : Nat → ClassId} {ad : Nat → Nat} (hI : Ij ad 18) {σ : Sg} {n p g rn : Nat} {d : Nat → Nat} {th rd : Nat → Nat → Nat} {sl sn : Nat → Nat} {sc : Nat → Nat → Int32} {ft tr : Int32} {x : Nat} {h e : Int32} (hJ : I2 n p g rn d th rd sl sn sc ft tr σ) (hxn : x < n) (heo : ¬ (nI 0 ≤ e ∧ e ≤ nI 4)) (hem : ¬ e = -9) : C2i l D ca ad yX7_reading wsX7_reading { frames := 2, cells := 0, slots := 0, locals := 42 } [.ref (ad 0), .int (nI x), .int h, .int e] σ (fun r σ' => r = -1 ∧ I2 n p g rn d th rd sl sn sc ft tr σ') := by
  refine xk_entry cX7_reading 4 (some .int) (by decide) rfl (Nat.le_of_ble_eq_true rfl) ?_
  intro pP eE sS mM below meth cC hx hb hml hr hts hown hlk hP hK hX hS ls hl
  have hl : lv_has ls 4 [(0, .ref (ad 0)), (1, .int (nI x)), (2, .int h), (3, .int e)] := hl
  obtain ⟨hT, hR, hRd, hSh, hnp, hft, htr⟩ := id hJ
  have hn5 := hT.2.2.1
  have hg9 := hT.2.2.2.1
  have hp6 := hR.2.1
  have hrn8 := hRd.2.1
  have hXx := hT.2.2.2.2 x hxn
  obtain ⟨ho0, ho1, ho2, ho3, ho4⟩ := hXx.2
  have hp0 : 0 < p := hnp.mp (by omega)
  refine lv_aload_n hx hb dX7_reading_0 rfl (lv_at hl 0 rfl) ?_
  refine lv_iload_n hx hb dX7_reading_1 rfl (lv_at hl 1 rfl) ?_
  refine xk_fi (va_runV (As := [.int (nI x)]) (rest := []) ⟨hx, hb, hml, hown, hts⟩ (k2_isThing_in l hI (x := x) hT (by omega)) (cwV 1 hts gX7_reading_X7_isThing rfl rfl rfl (by decide +kernel) ⟨Nat.le_of_ble_eq_true rfl, Nat.le_of_ble_eq_true rfl⟩) (xk_preV X2_ok hK hX hP (xk_recv hK hP 0 (by omega) (ci := 7) e2_obj rfl)) rfl rfl hl.1 rfl (lv_room (Nat.le_of_ble_eq_true rfl)) dX7_reading_2 ⟨Nat.le_of_ble_eq_true rfl, Nat.le_of_ble_eq_true rfl⟩) hS (fun H locs hP hS => ?_)
  refine xn_zeq (tgt := 21) hx hb dX7_reading_5 (by decide) (by omega) (fun c_5 => absurd c_5 (by omega)) (fun c_5 => ?_)
  refine lv_iload_n hx hb dX7_reading_8 rfl (lv_at hl 3 rfl) ?_
  refine lv_bipush (v := (-9)) hx hb dX7_reading_9 (by decide) ?_
  refine lv_icmp_eq (tgt := 23) hx hb dX7_reading_11 (by decide) (fun c_11 => absurd c_11 hem) (fun c_11 => ?_)
  refine lv_iload_n hx hb dX7_reading_14 rfl (lv_at hl 3 rfl) ?_
  refine xk_fi (va_runS (As := [.int e]) (rest := []) ⟨hx, hb, hml, hown, hts⟩ (k2_isDrawer_f l hI e (by assumption)) (va_cwS 1 hts gX7_reading_X7_isDrawer rfl rfl rfl (by decide +kernel) ⟨Nat.le_of_ble_eq_true rfl, Nat.le_of_ble_eq_true rfl⟩) (xk_preS X2_ok hK hX hP) rfl rfl hl.1 rfl (lv_room (Nat.le_of_ble_eq_true rfl)) dX7_reading_15 ⟨Nat.le_of_ble_eq_true rfl, Nat.le_of_ble_eq_true rfl⟩) hS (fun H locs hP hS => ?_)
  refine xn_zne (tgt := 23) hx hb dX7_reading_18 (by decide) (by omega) (fun c_18 => absurd c_18 (by omega)) (fun c_18 => ?_)
  refine lv_iconst (v := (-1)) hx hb dX7_reading_21 (by decide) ?_
  exact xk_iret hx hb hr (vp_nar_int _) X2_ok hK hX hP hS hlk dX7_reading_22 (⟨rfl, hJ⟩)

set_option maxHeartbeats 4000000 in
set_option maxRecDepth 100000 in
theorem a2_reading_hoe (l : Launch) {D : va_G} {ca : Nat → ClassId} {ad : Nat → Nat} (hI : Ij ad 18) {σ : Sg} {n p g rn : Nat} {d : Nat → Nat} {th rd : Nat → Nat → Nat} {sl sn : Nat → Nat} {sc : Nat → Nat → Int32} {ft tr : Int32} {x : Nat} {h : Int32} {e : Nat} (hJ : I2 n p g rn d th rd sl sn sc ft tr σ) (hxn : x < n) (he4 : e ≤ 4) (hho : ¬ (nI 0 ≤ h ∧ h ≤ nI 23)) : C2i l D ca ad yX7_reading wsX7_reading { frames := 2, cells := 0, slots := 0, locals := 42 } [.ref (ad 0), .int (nI x), .int h, .int (nI e)] σ (fun r σ' => r = -2 ∧ I2 n p g rn d th rd sl sn sc ft tr σ') := by
  refine xk_entry cX7_reading 4 (some .int) (by decide) rfl (Nat.le_of_ble_eq_true rfl) ?_
  intro pP eE sS mM below meth cC hx hb hml hr hts hown hlk hP hK hX hS ls hl
  have hl : lv_has ls 4 [(0, .ref (ad 0)), (1, .int (nI x)), (2, .int h), (3, .int (nI e))] := hl
  obtain ⟨hT, hR, hRd, hSh, hnp, hft, htr⟩ := id hJ
  have hn5 := hT.2.2.1
  have hg9 := hT.2.2.2.1
  have hp6 := hR.2.1
  have hrn8 := hRd.2.1
  have hXx := hT.2.2.2.2 x hxn
  obtain ⟨ho0, ho1, ho2, ho3, ho4⟩ := hXx.2
  have hp0 : 0 < p := hnp.mp (by omega)
  refine lv_aload_n hx hb dX7_reading_0 rfl (lv_at hl 0 rfl) ?_
  refine lv_iload_n hx hb dX7_reading_1 rfl (lv_at hl 1 rfl) ?_
  refine xk_fi (va_runV (As := [.int (nI x)]) (rest := []) ⟨hx, hb, hml, hown, hts⟩ (k2_isThing_in l hI (x := x) hT (by omega)) (cwV 1 hts gX7_reading_X7_isThing rfl rfl rfl (by decide +kernel) ⟨Nat.le_of_ble_eq_true rfl, Nat.le_of_ble_eq_true rfl⟩) (xk_preV X2_ok hK hX hP (xk_recv hK hP 0 (by omega) (ci := 7) e2_obj rfl)) rfl rfl hl.1 rfl (lv_room (Nat.le_of_ble_eq_true rfl)) dX7_reading_2 ⟨Nat.le_of_ble_eq_true rfl, Nat.le_of_ble_eq_true rfl⟩) hS (fun H locs hP hS => ?_)
  refine xn_zeq (tgt := 21) hx hb dX7_reading_5 (by decide) (by omega) (fun c_5 => absurd c_5 (by omega)) (fun c_5 => ?_)
  refine lv_iload_n hx hb dX7_reading_8 rfl (lv_at hl 3 rfl) ?_
  refine lv_bipush (v := (-9)) hx hb dX7_reading_9 (by decide) ?_
  refine lv_icmp_eq (tgt := 23) hx hb dX7_reading_11 (by decide) (fun c_11 => absurd c_11 (nI_n9' (by omega))) (fun c_11 => ?_)
  refine lv_iload_n hx hb dX7_reading_14 rfl (lv_at hl 3 rfl) ?_
  refine xk_fi (va_runS (As := [.int (nI e)]) (rest := []) ⟨hx, hb, hml, hown, hts⟩ (k2_isDrawer_t l hI (nI e) (xn_in (by omega) (by omega) (by omega))) (va_cwS 1 hts gX7_reading_X7_isDrawer rfl rfl rfl (by decide +kernel) ⟨Nat.le_of_ble_eq_true rfl, Nat.le_of_ble_eq_true rfl⟩) (xk_preS X2_ok hK hX hP) rfl rfl hl.1 rfl (lv_room (Nat.le_of_ble_eq_true rfl)) dX7_reading_15 ⟨Nat.le_of_ble_eq_true rfl, Nat.le_of_ble_eq_true rfl⟩) hS (fun H locs hP hS => ?_)
  refine xn_zne (tgt := 23) hx hb dX7_reading_18 (by decide) (by omega) (fun c_18 => ?_) (fun c_18 => absurd c_18 (by omega))
  refine lv_iload_n hx hb dX7_reading_23 rfl (lv_at hl 2 rfl) ?_
  refine lv_iconst (v := nI 0) hx hb dX7_reading_24 (by decide) ?_
  refine lv_bipush (v := nI 23) hx hb dX7_reading_25 (by decide) ?_
  refine xk_fi (va_runS (As := [.int h, .int (nI 0), .int (nI 23)]) (rest := []) ⟨hx, hb, hml, hown, hts⟩ (k2_within_f l hI h (nI 0) (nI 23) (by assumption)) (va_cwS 3 hts gX7_reading_X7_within rfl rfl rfl (by decide +kernel) ⟨Nat.le_of_ble_eq_true rfl, Nat.le_of_ble_eq_true rfl⟩) (xk_preS X2_ok hK hX hP) rfl rfl hl.1 rfl (lv_room (Nat.le_of_ble_eq_true rfl)) dX7_reading_27 ⟨Nat.le_of_ble_eq_true rfl, Nat.le_of_ble_eq_true rfl⟩) hS (fun H locs hP hS => ?_)
  refine xn_zne (tgt := 36) hx hb dX7_reading_30 (by decide) (by omega) (fun c_30 => absurd c_30 (by omega)) (fun c_30 => ?_)
  refine lv_bipush (v := (-2)) hx hb dX7_reading_33 (by decide) ?_
  exact xk_iret hx hb hr (vp_nar_int _) X2_ok hK hX hP hS hlk dX7_reading_35 (⟨rfl, hJ⟩)

set_option maxRecDepth 20000 in
theorem flX7_reading_113 {s : State} {av : Array Value} (hts : ∀ w ∈ wsX7_reading, w.before av s = true) : (Cond.fieldLink RX7 113 "WellBackModel" "readings" "I").before av s = true := hts _ (by decide +kernel)
set_option maxRecDepth 20000 in
theorem inX7_reading_X7 : ∀ w ∈ u_ws RX7 TX7 30, w ∈ wsX7_reading := by decide +kernel
set_option maxHeartbeats 4000000 in
set_option maxRecDepth 100000 in
theorem a2_reading_fue (l : Launch) {D : va_G} {ca : Nat → ClassId} {ad : Nat → Nat} (hI : Ij ad 18) {σ : Sg} {n p g rn : Nat} {d : Nat → Nat} {th rd : Nat → Nat → Nat} {sl sn : Nat → Nat} {sc : Nat → Nat → Int32} {ft tr : Int32} {x : Nat} {h : Nat} {e : Nat} (hJ : I2 n p g rn d th rd sl sn sc ft tr σ) (hxn : x < n) (he4 : e ≤ 4) (hh : h ≤ 23) (hfu : rn = 8) : C2i l D ca ad yX7_reading wsX7_reading { frames := 2, cells := 0, slots := 0, locals := 42 } [.ref (ad 0), .int (nI x), .int (nI h), .int (nI e)] σ (fun r σ' => r = -4 ∧ I2 n p g rn d th rd sl sn sc ft tr σ') := by
  refine xk_entry cX7_reading 4 (some .int) (by decide) rfl (Nat.le_of_ble_eq_true rfl) ?_
  intro pP eE sS mM below meth cC hx hb hml hr hts hown hlk hP hK hX hS ls hl
  have hl : lv_has ls 4 [(0, .ref (ad 0)), (1, .int (nI x)), (2, .int (nI h)), (3, .int (nI e))] := hl
  obtain ⟨hT, hR, hRd, hSh, hnp, hft, htr⟩ := id hJ
  have hn5 := hT.2.2.1
  have hg9 := hT.2.2.2.1
  have hp6 := hR.2.1
  have hrn8 := hRd.2.1
  have hXx := hT.2.2.2.2 x hxn
  obtain ⟨ho0, ho1, ho2, ho3, ho4⟩ := hXx.2
  have hp0 : 0 < p := hnp.mp (by omega)
  refine lv_aload_n hx hb dX7_reading_0 rfl (lv_at hl 0 rfl) ?_
  refine lv_iload_n hx hb dX7_reading_1 rfl (lv_at hl 1 rfl) ?_
  refine xk_fi (va_runV (As := [.int (nI x)]) (rest := []) ⟨hx, hb, hml, hown, hts⟩ (k2_isThing_in l hI (x := x) hT (by omega)) (cwV 1 hts gX7_reading_X7_isThing rfl rfl rfl (by decide +kernel) ⟨Nat.le_of_ble_eq_true rfl, Nat.le_of_ble_eq_true rfl⟩) (xk_preV X2_ok hK hX hP (xk_recv hK hP 0 (by omega) (ci := 7) e2_obj rfl)) rfl rfl hl.1 rfl (lv_room (Nat.le_of_ble_eq_true rfl)) dX7_reading_2 ⟨Nat.le_of_ble_eq_true rfl, Nat.le_of_ble_eq_true rfl⟩) hS (fun H locs hP hS => ?_)
  refine xn_zeq (tgt := 21) hx hb dX7_reading_5 (by decide) (by omega) (fun c_5 => absurd c_5 (by omega)) (fun c_5 => ?_)
  refine lv_iload_n hx hb dX7_reading_8 rfl (lv_at hl 3 rfl) ?_
  refine lv_bipush (v := (-9)) hx hb dX7_reading_9 (by decide) ?_
  refine lv_icmp_eq (tgt := 23) hx hb dX7_reading_11 (by decide) (fun c_11 => absurd c_11 (nI_n9' (by omega))) (fun c_11 => ?_)
  refine lv_iload_n hx hb dX7_reading_14 rfl (lv_at hl 3 rfl) ?_
  refine xk_fi (va_runS (As := [.int (nI e)]) (rest := []) ⟨hx, hb, hml, hown, hts⟩ (k2_isDrawer_t l hI (nI e) (xn_in (by omega) (by omega) (by omega))) (va_cwS 1 hts gX7_reading_X7_isDrawer rfl rfl rfl (by decide +kernel) ⟨Nat.le_of_ble_eq_true rfl, Nat.le_of_ble_eq_true rfl⟩) (xk_preS X2_ok hK hX hP) rfl rfl hl.1 rfl (lv_room (Nat.le_of_ble_eq_true rfl)) dX7_reading_15 ⟨Nat.le_of_ble_eq_true rfl, Nat.le_of_ble_eq_true rfl⟩) hS (fun H locs hP hS => ?_)
  refine xn_zne (tgt := 23) hx hb dX7_reading_18 (by decide) (by omega) (fun c_18 => ?_) (fun c_18 => absurd c_18 (by omega))
  refine lv_iload_n hx hb dX7_reading_23 rfl (lv_at hl 2 rfl) ?_
  refine lv_iconst (v := nI 0) hx hb dX7_reading_24 (by decide) ?_
  refine lv_bipush (v := nI 23) hx hb dX7_reading_25 (by decide) ?_
  refine xk_fi (va_runS (As := [.int (nI h), .int (nI 0), .int (nI 23)]) (rest := []) ⟨hx, hb, hml, hown, hts⟩ (k2_within_t l hI (nI h) (nI 0) (nI 23) (xn_in (by omega) (by omega) (by omega))) (va_cwS 3 hts gX7_reading_X7_within rfl rfl rfl (by decide +kernel) ⟨Nat.le_of_ble_eq_true rfl, Nat.le_of_ble_eq_true rfl⟩) (xk_preS X2_ok hK hX hP) rfl rfl hl.1 rfl (lv_room (Nat.le_of_ble_eq_true rfl)) dX7_reading_27 ⟨Nat.le_of_ble_eq_true rfl, Nat.le_of_ble_eq_true rfl⟩) hS (fun H locs hP hS => ?_)
  refine xn_zne (tgt := 36) hx hb dX7_reading_30 (by decide) (by omega) (fun c_30 => ?_) (fun c_30 => absurd c_30 (by omega))
  refine lv_aload_n hx hb dX7_reading_36 rfl (lv_at hl 0 rfl) ?_
  refine xk_get hx hb hts (inX7_reading_X7) hown hK hP 0 (by omega) (ci := 7) e2_obj rfl 26 (by decide) (flX7_reading_113 hts) rfl (.int (σ 0 26)) rfl dX7_reading_37 ?_
  refine xn_eqi (y := nI rn) hRd.1 ?_
  refine lv_bipush (v := nI 8) hx hb dX7_reading_40 (by decide) ?_
  refine xn_ine (tgt := 48) hx hb dX7_reading_42 (by decide) (by omega) (by omega) (fun c_42 => absurd c_42 (by omega)) (fun c_42 => ?_)
  refine lv_bipush (v := (-4)) hx hb dX7_reading_45 (by decide) ?_
  exact xk_iret hx hb hr (vp_nar_int _) X2_ok hK hX hP hS hlk dX7_reading_47 (⟨rfl, hJ⟩)

set_option maxRecDepth 20000 in
theorem flX7_reading_52 {s : State} {av : Array Value} (hts : ∀ w ∈ wsX7_reading, w.before av s = true) : (Cond.fieldLink RX7 52 "WellBackModel" "readThing" "[I").before av s = true := hts _ (by decide +kernel)
set_option maxRecDepth 20000 in
theorem flX7_reading_55 {s : State} {av : Array Value} (hts : ∀ w ∈ wsX7_reading, w.before av s = true) : (Cond.fieldLink RX7 55 "WellBackModel" "readHour" "[I").before av s = true := hts _ (by decide +kernel)
set_option maxRecDepth 20000 in
theorem flX7_reading_58 {s : State} {av : Array Value} (hts : ∀ w ∈ wsX7_reading, w.before av s = true) : (Cond.fieldLink RX7 58 "WellBackModel" "readDrawer" "[I").before av s = true := hts _ (by decide +kernel)
set_option maxHeartbeats 4000000 in
set_option maxRecDepth 100000 in
theorem a2_reading_oke (l : Launch) {D : va_G} {ca : Nat → ClassId} {ad : Nat → Nat} (hI : Ij ad 18) {σ : Sg} {n p g rn : Nat} {d : Nat → Nat} {th rd : Nat → Nat → Nat} {sl sn : Nat → Nat} {sc : Nat → Nat → Int32} {ft tr : Int32} {x : Nat} {h : Nat} {e : Nat} (hJ : I2 n p g rn d th rd sl sn sc ft tr σ) (hxn : x < n) (he4 : e ≤ 4) (hh : h ≤ 23) (hfu : rn < 8) : C2i l D ca ad yX7_reading wsX7_reading { frames := 2, cells := 0, slots := 0, locals := 42 } [.ref (ad 0), .int (nI x), .int (nI h), .int (nI e)] σ (fun r σ' => r = nI rn ∧ I2 n p g (rn + 1) d th (urd rd rn x h e) sl sn sc ft tr σ') := by
  refine xk_entry cX7_reading 4 (some .int) (by decide) rfl (Nat.le_of_ble_eq_true rfl) ?_
  intro pP eE sS mM below meth cC hx hb hml hr hts hown hlk hP hK hX hS ls hl
  have hl : lv_has ls 4 [(0, .ref (ad 0)), (1, .int (nI x)), (2, .int (nI h)), (3, .int (nI e))] := hl
  obtain ⟨hT, hR, hRd, hSh, hnp, hft, htr⟩ := id hJ
  have hn5 := hT.2.2.1
  have hg9 := hT.2.2.2.1
  have hp6 := hR.2.1
  have hrn8 := hRd.2.1
  have hXx := hT.2.2.2.2 x hxn
  obtain ⟨ho0, ho1, ho2, ho3, ho4⟩ := hXx.2
  have hp0 : 0 < p := hnp.mp (by omega)
  refine lv_aload_n hx hb dX7_reading_0 rfl (lv_at hl 0 rfl) ?_
  refine lv_iload_n hx hb dX7_reading_1 rfl (lv_at hl 1 rfl) ?_
  refine xk_fi (va_runV (As := [.int (nI x)]) (rest := []) ⟨hx, hb, hml, hown, hts⟩ (k2_isThing_in l hI (x := x) hT (by omega)) (cwV 1 hts gX7_reading_X7_isThing rfl rfl rfl (by decide +kernel) ⟨Nat.le_of_ble_eq_true rfl, Nat.le_of_ble_eq_true rfl⟩) (xk_preV X2_ok hK hX hP (xk_recv hK hP 0 (by omega) (ci := 7) e2_obj rfl)) rfl rfl hl.1 rfl (lv_room (Nat.le_of_ble_eq_true rfl)) dX7_reading_2 ⟨Nat.le_of_ble_eq_true rfl, Nat.le_of_ble_eq_true rfl⟩) hS (fun H locs hP hS => ?_)
  refine xn_zeq (tgt := 21) hx hb dX7_reading_5 (by decide) (by omega) (fun c_5 => absurd c_5 (by omega)) (fun c_5 => ?_)
  refine lv_iload_n hx hb dX7_reading_8 rfl (lv_at hl 3 rfl) ?_
  refine lv_bipush (v := (-9)) hx hb dX7_reading_9 (by decide) ?_
  refine lv_icmp_eq (tgt := 23) hx hb dX7_reading_11 (by decide) (fun c_11 => absurd c_11 (nI_n9' (by omega))) (fun c_11 => ?_)
  refine lv_iload_n hx hb dX7_reading_14 rfl (lv_at hl 3 rfl) ?_
  refine xk_fi (va_runS (As := [.int (nI e)]) (rest := []) ⟨hx, hb, hml, hown, hts⟩ (k2_isDrawer_t l hI (nI e) (xn_in (by omega) (by omega) (by omega))) (va_cwS 1 hts gX7_reading_X7_isDrawer rfl rfl rfl (by decide +kernel) ⟨Nat.le_of_ble_eq_true rfl, Nat.le_of_ble_eq_true rfl⟩) (xk_preS X2_ok hK hX hP) rfl rfl hl.1 rfl (lv_room (Nat.le_of_ble_eq_true rfl)) dX7_reading_15 ⟨Nat.le_of_ble_eq_true rfl, Nat.le_of_ble_eq_true rfl⟩) hS (fun H locs hP hS => ?_)
  refine xn_zne (tgt := 23) hx hb dX7_reading_18 (by decide) (by omega) (fun c_18 => ?_) (fun c_18 => absurd c_18 (by omega))
  refine lv_iload_n hx hb dX7_reading_23 rfl (lv_at hl 2 rfl) ?_
  refine lv_iconst (v := nI 0) hx hb dX7_reading_24 (by decide) ?_
  refine lv_bipush (v := nI 23) hx hb dX7_reading_25 (by decide) ?_
  refine xk_fi (va_runS (As := [.int (nI h), .int (nI 0), .int (nI 23)]) (rest := []) ⟨hx, hb, hml, hown, hts⟩ (k2_within_t l hI (nI h) (nI 0) (nI 23) (xn_in (by omega) (by omega) (by omega))) (va_cwS 3 hts gX7_reading_X7_within rfl rfl rfl (by decide +kernel) ⟨Nat.le_of_ble_eq_true rfl, Nat.le_of_ble_eq_true rfl⟩) (xk_preS X2_ok hK hX hP) rfl rfl hl.1 rfl (lv_room (Nat.le_of_ble_eq_true rfl)) dX7_reading_27 ⟨Nat.le_of_ble_eq_true rfl, Nat.le_of_ble_eq_true rfl⟩) hS (fun H locs hP hS => ?_)
  refine xn_zne (tgt := 36) hx hb dX7_reading_30 (by decide) (by omega) (fun c_30 => ?_) (fun c_30 => absurd c_30 (by omega))
  refine lv_aload_n hx hb dX7_reading_36 rfl (lv_at hl 0 rfl) ?_
  refine xk_get hx hb hts (inX7_reading_X7) hown hK hP 0 (by omega) (ci := 7) e2_obj rfl 26 (by decide) (flX7_reading_113 hts) rfl (.int (σ 0 26)) rfl dX7_reading_37 ?_
  refine xn_eqi (y := nI rn) hRd.1 ?_
  refine lv_bipush (v := nI 8) hx hb dX7_reading_40 (by decide) ?_
  refine xn_ine (tgt := 48) hx hb dX7_reading_42 (by decide) (by omega) (by omega) (fun c_42 => ?_) (fun c_42 => absurd c_42 (by omega))
  refine lv_aload_n hx hb dX7_reading_48 rfl (lv_at hl 0 rfl) ?_
  refine xk_get hx hb hts (inX7_reading_X7) hown hK hP 0 (by omega) (ci := 7) e2_obj rfl 27 (by decide) (flX7_reading_52 hts) rfl (.ref (ad 15)) rfl dX7_reading_49 ?_
  refine lv_aload_n hx hb dX7_reading_52 rfl (lv_at hl 0 rfl) ?_
  refine xk_get hx hb hts (inX7_reading_X7) hown hK hP 0 (by omega) (ci := 7) e2_obj rfl 26 (by decide) (flX7_reading_113 hts) rfl (.int (σ 0 26)) rfl dX7_reading_53 ?_
  refine xn_eqi (y := nI rn) hRd.1 ?_
  refine lv_iload_n hx hb dX7_reading_56 rfl (lv_at hl 1 rfl) ?_
  refine xk_iast hx hb hK hI hP hS 15 (by omega) (n := 8) (fun τ => (e2_row 8 (by decide) rfl)) rfl rn (by omega) (by decide) e2_loc dX7_reading_57 (fun H locs hP hS => ?_)
  refine lv_aload_n hx hb dX7_reading_58 rfl (lv_at hl 0 rfl) ?_
  refine xk_get hx hb hts (inX7_reading_X7) hown hK hP 0 (by omega) (ci := 7) e2_obj rfl 28 (by decide) (flX7_reading_55 hts) rfl (.ref (ad 16)) rfl dX7_reading_59 ?_
  refine lv_aload_n hx hb dX7_reading_62 rfl (lv_at hl 0 rfl) ?_
  refine xk_get hx hb hts (inX7_reading_X7) hown hK hP 0 (by omega) (ci := 7) e2_obj rfl 26 (by decide) (flX7_reading_113 hts) rfl (.int ((up σ 15 rn (nI x)) 0 26)) rfl dX7_reading_63 ?_
  refine xn_eqi (y := nI rn) ((up_n (by omega)).trans hRd.1) ?_
  refine lv_iload_n hx hb dX7_reading_66 rfl (lv_at hl 2 rfl) ?_
  refine xk_iast hx hb hK hI hP hS 16 (by omega) (n := 8) (fun τ => (e2_row 8 (by decide) rfl)) rfl rn (by omega) (by decide) e2_loc dX7_reading_67 (fun H locs hP hS => ?_)
  refine lv_aload_n hx hb dX7_reading_68 rfl (lv_at hl 0 rfl) ?_
  refine xk_get hx hb hts (inX7_reading_X7) hown hK hP 0 (by omega) (ci := 7) e2_obj rfl 29 (by decide) (flX7_reading_58 hts) rfl (.ref (ad 17)) rfl dX7_reading_69 ?_
  refine lv_aload_n hx hb dX7_reading_72 rfl (lv_at hl 0 rfl) ?_
  refine xk_get hx hb hts (inX7_reading_X7) hown hK hP 0 (by omega) (ci := 7) e2_obj rfl 26 (by decide) (flX7_reading_113 hts) rfl (.int ((up (up σ 15 rn (nI x)) 16 rn (nI h)) 0 26)) rfl dX7_reading_73 ?_
  refine xn_eqi (y := nI rn) ((up_n (by omega)).trans ((up_n (by omega)).trans hRd.1)) ?_
  refine lv_iload_n hx hb dX7_reading_76 rfl (lv_at hl 3 rfl) ?_
  refine xk_iast hx hb hK hI hP hS 17 (by omega) (n := 8) (fun τ => (e2_row 8 (by decide) rfl)) rfl rn (by omega) (by decide) e2_loc dX7_reading_77 (fun H locs hP hS => ?_)
  refine lv_aload_n hx hb dX7_reading_78 rfl (lv_at hl 0 rfl) ?_
  refine lv_dup hx hb dX7_reading_79 rfl ?_
  refine xk_get hx hb hts (inX7_reading_X7) hown hK hP 0 (by omega) (ci := 7) e2_obj rfl 26 (by decide) (flX7_reading_113 hts) rfl (.int ((up (up (up σ 15 rn (nI x)) 16 rn (nI h)) 17 rn (nI e)) 0 26)) rfl dX7_reading_80 ?_
  refine xn_eqi (y := nI rn) ((up_n (by omega)).trans ((up_n (by omega)).trans ((up_n (by omega)).trans hRd.1))) ?_
  refine lv_iconst (v := nI 1) hx hb dX7_reading_83 (by decide) ?_
  refine xn_iadd hx hb dX7_reading_84 ?_
  refine xk_put hx hb hts (inX7_reading_X7) tyX7 tyX7_ok nmX7 hown hK hI hP hS 0 (by omega) (ci := 7) e2_obj rfl 26 (by decide) (flX7_reading_113 hts) rfl rfl (by decide +kernel) (Nat.le_of_ble_eq_true rfl) e2_loc (by rw [e2_obj]; simp [up]) dX7_reading_85 (fun H locs hP hS => ?_)
  refine lv_aload_n hx hb dX7_reading_88 rfl (lv_at hl 0 rfl) ?_
  refine xk_get hx hb hts (inX7_reading_X7) hown hK hP 0 (by omega) (ci := 7) e2_obj rfl 26 (by decide) (flX7_reading_113 hts) rfl (.int ((up (up (up (up σ 15 rn (nI x)) 16 rn (nI h)) 17 rn (nI e)) 0 26 (nI (rn + 1))) 0 26)) rfl dX7_reading_89 ?_
  refine xn_eqi (y := nI (rn + 1)) up_s ?_
  refine lv_iconst (v := nI 1) hx hb dX7_reading_92 (by decide) ?_
  refine xn_isub hx hb (by omega) dX7_reading_93 ?_
  exact xk_iret hx hb hr (vp_nar_int _) X2_ok hK hX hP hS hlk dX7_reading_94 (⟨by congr 1, I2_rd hJ hxn hh (by omega) (by unfold dz; rw [if_neg (by omega)]) hfu⟩)

set_option maxHeartbeats 4000000 in
set_option maxRecDepth 100000 in
theorem a2_reading_hom (l : Launch) {D : va_G} {ca : Nat → ClassId} {ad : Nat → Nat} (hI : Ij ad 18) {σ : Sg} {n p g rn : Nat} {d : Nat → Nat} {th rd : Nat → Nat → Nat} {sl sn : Nat → Nat} {sc : Nat → Nat → Int32} {ft tr : Int32} {x : Nat} {h : Int32} (hJ : I2 n p g rn d th rd sl sn sc ft tr σ) (hxn : x < n) (hho : ¬ (nI 0 ≤ h ∧ h ≤ nI 23)) : C2i l D ca ad yX7_reading wsX7_reading { frames := 2, cells := 0, slots := 0, locals := 42 } [.ref (ad 0), .int (nI x), .int h, .int (-9)] σ (fun r σ' => r = -2 ∧ I2 n p g rn d th rd sl sn sc ft tr σ') := by
  refine xk_entry cX7_reading 4 (some .int) (by decide) rfl (Nat.le_of_ble_eq_true rfl) ?_
  intro pP eE sS mM below meth cC hx hb hml hr hts hown hlk hP hK hX hS ls hl
  have hl : lv_has ls 4 [(0, .ref (ad 0)), (1, .int (nI x)), (2, .int h), (3, .int (-9))] := hl
  obtain ⟨hT, hR, hRd, hSh, hnp, hft, htr⟩ := id hJ
  have hn5 := hT.2.2.1
  have hg9 := hT.2.2.2.1
  have hp6 := hR.2.1
  have hrn8 := hRd.2.1
  have hXx := hT.2.2.2.2 x hxn
  obtain ⟨ho0, ho1, ho2, ho3, ho4⟩ := hXx.2
  have hp0 : 0 < p := hnp.mp (by omega)
  refine lv_aload_n hx hb dX7_reading_0 rfl (lv_at hl 0 rfl) ?_
  refine lv_iload_n hx hb dX7_reading_1 rfl (lv_at hl 1 rfl) ?_
  refine xk_fi (va_runV (As := [.int (nI x)]) (rest := []) ⟨hx, hb, hml, hown, hts⟩ (k2_isThing_in l hI (x := x) hT (by omega)) (cwV 1 hts gX7_reading_X7_isThing rfl rfl rfl (by decide +kernel) ⟨Nat.le_of_ble_eq_true rfl, Nat.le_of_ble_eq_true rfl⟩) (xk_preV X2_ok hK hX hP (xk_recv hK hP 0 (by omega) (ci := 7) e2_obj rfl)) rfl rfl hl.1 rfl (lv_room (Nat.le_of_ble_eq_true rfl)) dX7_reading_2 ⟨Nat.le_of_ble_eq_true rfl, Nat.le_of_ble_eq_true rfl⟩) hS (fun H locs hP hS => ?_)
  refine xn_zeq (tgt := 21) hx hb dX7_reading_5 (by decide) (by omega) (fun c_5 => absurd c_5 (by omega)) (fun c_5 => ?_)
  refine lv_iload_n hx hb dX7_reading_8 rfl (lv_at hl 3 rfl) ?_
  refine lv_bipush (v := (-9)) hx hb dX7_reading_9 (by decide) ?_
  refine lv_icmp_eq (tgt := 23) hx hb dX7_reading_11 (by decide) (fun c_11 => ?_) (fun c_11 => absurd rfl c_11)
  refine lv_iload_n hx hb dX7_reading_23 rfl (lv_at hl 2 rfl) ?_
  refine lv_iconst (v := nI 0) hx hb dX7_reading_24 (by decide) ?_
  refine lv_bipush (v := nI 23) hx hb dX7_reading_25 (by decide) ?_
  refine xk_fi (va_runS (As := [.int h, .int (nI 0), .int (nI 23)]) (rest := []) ⟨hx, hb, hml, hown, hts⟩ (k2_within_f l hI h (nI 0) (nI 23) (by assumption)) (va_cwS 3 hts gX7_reading_X7_within rfl rfl rfl (by decide +kernel) ⟨Nat.le_of_ble_eq_true rfl, Nat.le_of_ble_eq_true rfl⟩) (xk_preS X2_ok hK hX hP) rfl rfl hl.1 rfl (lv_room (Nat.le_of_ble_eq_true rfl)) dX7_reading_27 ⟨Nat.le_of_ble_eq_true rfl, Nat.le_of_ble_eq_true rfl⟩) hS (fun H locs hP hS => ?_)
  refine xn_zne (tgt := 36) hx hb dX7_reading_30 (by decide) (by omega) (fun c_30 => absurd c_30 (by omega)) (fun c_30 => ?_)
  refine lv_bipush (v := (-2)) hx hb dX7_reading_33 (by decide) ?_
  exact xk_iret hx hb hr (vp_nar_int _) X2_ok hK hX hP hS hlk dX7_reading_35 (⟨rfl, hJ⟩)

set_option maxHeartbeats 4000000 in
set_option maxRecDepth 100000 in
theorem a2_reading_fum (l : Launch) {D : va_G} {ca : Nat → ClassId} {ad : Nat → Nat} (hI : Ij ad 18) {σ : Sg} {n p g rn : Nat} {d : Nat → Nat} {th rd : Nat → Nat → Nat} {sl sn : Nat → Nat} {sc : Nat → Nat → Int32} {ft tr : Int32} {x : Nat} {h : Nat} (hJ : I2 n p g rn d th rd sl sn sc ft tr σ) (hxn : x < n) (hh : h ≤ 23) (hfu : rn = 8) : C2i l D ca ad yX7_reading wsX7_reading { frames := 2, cells := 0, slots := 0, locals := 42 } [.ref (ad 0), .int (nI x), .int (nI h), .int (-9)] σ (fun r σ' => r = -4 ∧ I2 n p g rn d th rd sl sn sc ft tr σ') := by
  refine xk_entry cX7_reading 4 (some .int) (by decide) rfl (Nat.le_of_ble_eq_true rfl) ?_
  intro pP eE sS mM below meth cC hx hb hml hr hts hown hlk hP hK hX hS ls hl
  have hl : lv_has ls 4 [(0, .ref (ad 0)), (1, .int (nI x)), (2, .int (nI h)), (3, .int (-9))] := hl
  obtain ⟨hT, hR, hRd, hSh, hnp, hft, htr⟩ := id hJ
  have hn5 := hT.2.2.1
  have hg9 := hT.2.2.2.1
  have hp6 := hR.2.1
  have hrn8 := hRd.2.1
  have hXx := hT.2.2.2.2 x hxn
  obtain ⟨ho0, ho1, ho2, ho3, ho4⟩ := hXx.2
  have hp0 : 0 < p := hnp.mp (by omega)
  refine lv_aload_n hx hb dX7_reading_0 rfl (lv_at hl 0 rfl) ?_
  refine lv_iload_n hx hb dX7_reading_1 rfl (lv_at hl 1 rfl) ?_
  refine xk_fi (va_runV (As := [.int (nI x)]) (rest := []) ⟨hx, hb, hml, hown, hts⟩ (k2_isThing_in l hI (x := x) hT (by omega)) (cwV 1 hts gX7_reading_X7_isThing rfl rfl rfl (by decide +kernel) ⟨Nat.le_of_ble_eq_true rfl, Nat.le_of_ble_eq_true rfl⟩) (xk_preV X2_ok hK hX hP (xk_recv hK hP 0 (by omega) (ci := 7) e2_obj rfl)) rfl rfl hl.1 rfl (lv_room (Nat.le_of_ble_eq_true rfl)) dX7_reading_2 ⟨Nat.le_of_ble_eq_true rfl, Nat.le_of_ble_eq_true rfl⟩) hS (fun H locs hP hS => ?_)
  refine xn_zeq (tgt := 21) hx hb dX7_reading_5 (by decide) (by omega) (fun c_5 => absurd c_5 (by omega)) (fun c_5 => ?_)
  refine lv_iload_n hx hb dX7_reading_8 rfl (lv_at hl 3 rfl) ?_
  refine lv_bipush (v := (-9)) hx hb dX7_reading_9 (by decide) ?_
  refine lv_icmp_eq (tgt := 23) hx hb dX7_reading_11 (by decide) (fun c_11 => ?_) (fun c_11 => absurd rfl c_11)
  refine lv_iload_n hx hb dX7_reading_23 rfl (lv_at hl 2 rfl) ?_
  refine lv_iconst (v := nI 0) hx hb dX7_reading_24 (by decide) ?_
  refine lv_bipush (v := nI 23) hx hb dX7_reading_25 (by decide) ?_
  refine xk_fi (va_runS (As := [.int (nI h), .int (nI 0), .int (nI 23)]) (rest := []) ⟨hx, hb, hml, hown, hts⟩ (k2_within_t l hI (nI h) (nI 0) (nI 23) (xn_in (by omega) (by omega) (by omega))) (va_cwS 3 hts gX7_reading_X7_within rfl rfl rfl (by decide +kernel) ⟨Nat.le_of_ble_eq_true rfl, Nat.le_of_ble_eq_true rfl⟩) (xk_preS X2_ok hK hX hP) rfl rfl hl.1 rfl (lv_room (Nat.le_of_ble_eq_true rfl)) dX7_reading_27 ⟨Nat.le_of_ble_eq_true rfl, Nat.le_of_ble_eq_true rfl⟩) hS (fun H locs hP hS => ?_)
  refine xn_zne (tgt := 36) hx hb dX7_reading_30 (by decide) (by omega) (fun c_30 => ?_) (fun c_30 => absurd c_30 (by omega))
  refine lv_aload_n hx hb dX7_reading_36 rfl (lv_at hl 0 rfl) ?_
  refine xk_get hx hb hts (inX7_reading_X7) hown hK hP 0 (by omega) (ci := 7) e2_obj rfl 26 (by decide) (flX7_reading_113 hts) rfl (.int (σ 0 26)) rfl dX7_reading_37 ?_
  refine xn_eqi (y := nI rn) hRd.1 ?_
  refine lv_bipush (v := nI 8) hx hb dX7_reading_40 (by decide) ?_
  refine xn_ine (tgt := 48) hx hb dX7_reading_42 (by decide) (by omega) (by omega) (fun c_42 => absurd c_42 (by omega)) (fun c_42 => ?_)
  refine lv_bipush (v := (-4)) hx hb dX7_reading_45 (by decide) ?_
  exact xk_iret hx hb hr (vp_nar_int _) X2_ok hK hX hP hS hlk dX7_reading_47 (⟨rfl, hJ⟩)

set_option maxHeartbeats 4000000 in
set_option maxRecDepth 100000 in
theorem a2_reading_okm (l : Launch) {D : va_G} {ca : Nat → ClassId} {ad : Nat → Nat} (hI : Ij ad 18) {σ : Sg} {n p g rn : Nat} {d : Nat → Nat} {th rd : Nat → Nat → Nat} {sl sn : Nat → Nat} {sc : Nat → Nat → Int32} {ft tr : Int32} {x : Nat} {h : Nat} (hJ : I2 n p g rn d th rd sl sn sc ft tr σ) (hxn : x < n) (hh : h ≤ 23) (hfu : rn < 8) : C2i l D ca ad yX7_reading wsX7_reading { frames := 2, cells := 0, slots := 0, locals := 42 } [.ref (ad 0), .int (nI x), .int (nI h), .int (-9)] σ (fun r σ' => r = nI rn ∧ I2 n p g (rn + 1) d th (urd rd rn x h 5) sl sn sc ft tr σ') := by
  refine xk_entry cX7_reading 4 (some .int) (by decide) rfl (Nat.le_of_ble_eq_true rfl) ?_
  intro pP eE sS mM below meth cC hx hb hml hr hts hown hlk hP hK hX hS ls hl
  have hl : lv_has ls 4 [(0, .ref (ad 0)), (1, .int (nI x)), (2, .int (nI h)), (3, .int (-9))] := hl
  obtain ⟨hT, hR, hRd, hSh, hnp, hft, htr⟩ := id hJ
  have hn5 := hT.2.2.1
  have hg9 := hT.2.2.2.1
  have hp6 := hR.2.1
  have hrn8 := hRd.2.1
  have hXx := hT.2.2.2.2 x hxn
  obtain ⟨ho0, ho1, ho2, ho3, ho4⟩ := hXx.2
  have hp0 : 0 < p := hnp.mp (by omega)
  refine lv_aload_n hx hb dX7_reading_0 rfl (lv_at hl 0 rfl) ?_
  refine lv_iload_n hx hb dX7_reading_1 rfl (lv_at hl 1 rfl) ?_
  refine xk_fi (va_runV (As := [.int (nI x)]) (rest := []) ⟨hx, hb, hml, hown, hts⟩ (k2_isThing_in l hI (x := x) hT (by omega)) (cwV 1 hts gX7_reading_X7_isThing rfl rfl rfl (by decide +kernel) ⟨Nat.le_of_ble_eq_true rfl, Nat.le_of_ble_eq_true rfl⟩) (xk_preV X2_ok hK hX hP (xk_recv hK hP 0 (by omega) (ci := 7) e2_obj rfl)) rfl rfl hl.1 rfl (lv_room (Nat.le_of_ble_eq_true rfl)) dX7_reading_2 ⟨Nat.le_of_ble_eq_true rfl, Nat.le_of_ble_eq_true rfl⟩) hS (fun H locs hP hS => ?_)
  refine xn_zeq (tgt := 21) hx hb dX7_reading_5 (by decide) (by omega) (fun c_5 => absurd c_5 (by omega)) (fun c_5 => ?_)
  refine lv_iload_n hx hb dX7_reading_8 rfl (lv_at hl 3 rfl) ?_
  refine lv_bipush (v := (-9)) hx hb dX7_reading_9 (by decide) ?_
  refine lv_icmp_eq (tgt := 23) hx hb dX7_reading_11 (by decide) (fun c_11 => ?_) (fun c_11 => absurd rfl c_11)
  refine lv_iload_n hx hb dX7_reading_23 rfl (lv_at hl 2 rfl) ?_
  refine lv_iconst (v := nI 0) hx hb dX7_reading_24 (by decide) ?_
  refine lv_bipush (v := nI 23) hx hb dX7_reading_25 (by decide) ?_
  refine xk_fi (va_runS (As := [.int (nI h), .int (nI 0), .int (nI 23)]) (rest := []) ⟨hx, hb, hml, hown, hts⟩ (k2_within_t l hI (nI h) (nI 0) (nI 23) (xn_in (by omega) (by omega) (by omega))) (va_cwS 3 hts gX7_reading_X7_within rfl rfl rfl (by decide +kernel) ⟨Nat.le_of_ble_eq_true rfl, Nat.le_of_ble_eq_true rfl⟩) (xk_preS X2_ok hK hX hP) rfl rfl hl.1 rfl (lv_room (Nat.le_of_ble_eq_true rfl)) dX7_reading_27 ⟨Nat.le_of_ble_eq_true rfl, Nat.le_of_ble_eq_true rfl⟩) hS (fun H locs hP hS => ?_)
  refine xn_zne (tgt := 36) hx hb dX7_reading_30 (by decide) (by omega) (fun c_30 => ?_) (fun c_30 => absurd c_30 (by omega))
  refine lv_aload_n hx hb dX7_reading_36 rfl (lv_at hl 0 rfl) ?_
  refine xk_get hx hb hts (inX7_reading_X7) hown hK hP 0 (by omega) (ci := 7) e2_obj rfl 26 (by decide) (flX7_reading_113 hts) rfl (.int (σ 0 26)) rfl dX7_reading_37 ?_
  refine xn_eqi (y := nI rn) hRd.1 ?_
  refine lv_bipush (v := nI 8) hx hb dX7_reading_40 (by decide) ?_
  refine xn_ine (tgt := 48) hx hb dX7_reading_42 (by decide) (by omega) (by omega) (fun c_42 => ?_) (fun c_42 => absurd c_42 (by omega))
  refine lv_aload_n hx hb dX7_reading_48 rfl (lv_at hl 0 rfl) ?_
  refine xk_get hx hb hts (inX7_reading_X7) hown hK hP 0 (by omega) (ci := 7) e2_obj rfl 27 (by decide) (flX7_reading_52 hts) rfl (.ref (ad 15)) rfl dX7_reading_49 ?_
  refine lv_aload_n hx hb dX7_reading_52 rfl (lv_at hl 0 rfl) ?_
  refine xk_get hx hb hts (inX7_reading_X7) hown hK hP 0 (by omega) (ci := 7) e2_obj rfl 26 (by decide) (flX7_reading_113 hts) rfl (.int (σ 0 26)) rfl dX7_reading_53 ?_
  refine xn_eqi (y := nI rn) hRd.1 ?_
  refine lv_iload_n hx hb dX7_reading_56 rfl (lv_at hl 1 rfl) ?_
  refine xk_iast hx hb hK hI hP hS 15 (by omega) (n := 8) (fun τ => (e2_row 8 (by decide) rfl)) rfl rn (by omega) (by decide) e2_loc dX7_reading_57 (fun H locs hP hS => ?_)
  refine lv_aload_n hx hb dX7_reading_58 rfl (lv_at hl 0 rfl) ?_
  refine xk_get hx hb hts (inX7_reading_X7) hown hK hP 0 (by omega) (ci := 7) e2_obj rfl 28 (by decide) (flX7_reading_55 hts) rfl (.ref (ad 16)) rfl dX7_reading_59 ?_
  refine lv_aload_n hx hb dX7_reading_62 rfl (lv_at hl 0 rfl) ?_
  refine xk_get hx hb hts (inX7_reading_X7) hown hK hP 0 (by omega) (ci := 7) e2_obj rfl 26 (by decide) (flX7_reading_113 hts) rfl (.int ((up σ 15 rn (nI x)) 0 26)) rfl dX7_reading_63 ?_
  refine xn_eqi (y := nI rn) ((up_n (by omega)).trans hRd.1) ?_
  refine lv_iload_n hx hb dX7_reading_66 rfl (lv_at hl 2 rfl) ?_
  refine xk_iast hx hb hK hI hP hS 16 (by omega) (n := 8) (fun τ => (e2_row 8 (by decide) rfl)) rfl rn (by omega) (by decide) e2_loc dX7_reading_67 (fun H locs hP hS => ?_)
  refine lv_aload_n hx hb dX7_reading_68 rfl (lv_at hl 0 rfl) ?_
  refine xk_get hx hb hts (inX7_reading_X7) hown hK hP 0 (by omega) (ci := 7) e2_obj rfl 29 (by decide) (flX7_reading_58 hts) rfl (.ref (ad 17)) rfl dX7_reading_69 ?_
  refine lv_aload_n hx hb dX7_reading_72 rfl (lv_at hl 0 rfl) ?_
  refine xk_get hx hb hts (inX7_reading_X7) hown hK hP 0 (by omega) (ci := 7) e2_obj rfl 26 (by decide) (flX7_reading_113 hts) rfl (.int ((up (up σ 15 rn (nI x)) 16 rn (nI h)) 0 26)) rfl dX7_reading_73 ?_
  refine xn_eqi (y := nI rn) ((up_n (by omega)).trans ((up_n (by omega)).trans hRd.1)) ?_
  refine lv_iload_n hx hb dX7_reading_76 rfl (lv_at hl 3 rfl) ?_
  refine xk_iast hx hb hK hI hP hS 17 (by omega) (n := 8) (fun τ => (e2_row 8 (by decide) rfl)) rfl rn (by omega) (by decide) e2_loc dX7_reading_77 (fun H locs hP hS => ?_)
  refine lv_aload_n hx hb dX7_reading_78 rfl (lv_at hl 0 rfl) ?_
  refine lv_dup hx hb dX7_reading_79 rfl ?_
  refine xk_get hx hb hts (inX7_reading_X7) hown hK hP 0 (by omega) (ci := 7) e2_obj rfl 26 (by decide) (flX7_reading_113 hts) rfl (.int ((up (up (up σ 15 rn (nI x)) 16 rn (nI h)) 17 rn (-9)) 0 26)) rfl dX7_reading_80 ?_
  refine xn_eqi (y := nI rn) ((up_n (by omega)).trans ((up_n (by omega)).trans ((up_n (by omega)).trans hRd.1))) ?_
  refine lv_iconst (v := nI 1) hx hb dX7_reading_83 (by decide) ?_
  refine xn_iadd hx hb dX7_reading_84 ?_
  refine xk_put hx hb hts (inX7_reading_X7) tyX7 tyX7_ok nmX7 hown hK hI hP hS 0 (by omega) (ci := 7) e2_obj rfl 26 (by decide) (flX7_reading_113 hts) rfl rfl (by decide +kernel) (Nat.le_of_ble_eq_true rfl) e2_loc (by rw [e2_obj]; simp [up]) dX7_reading_85 (fun H locs hP hS => ?_)
  refine lv_aload_n hx hb dX7_reading_88 rfl (lv_at hl 0 rfl) ?_
  refine xk_get hx hb hts (inX7_reading_X7) hown hK hP 0 (by omega) (ci := 7) e2_obj rfl 26 (by decide) (flX7_reading_113 hts) rfl (.int ((up (up (up (up σ 15 rn (nI x)) 16 rn (nI h)) 17 rn (-9)) 0 26 (nI (rn + 1))) 0 26)) rfl dX7_reading_89 ?_
  refine xn_eqi (y := nI (rn + 1)) up_s ?_
  refine lv_iconst (v := nI 1) hx hb dX7_reading_92 (by decide) ?_
  refine xn_isub hx hb (by omega) dX7_reading_93 ?_
  exact xk_iret hx hb hr (vp_nar_int _) X2_ok hK hX hP hS hlk dX7_reading_94 (⟨by congr 1, I2_rd hJ hxn hh (by omega) rfl hfu⟩)

set_option maxRecDepth 20000 in
theorem flX7_back_113 {s : State} {av : Array Value} (hts : ∀ w ∈ wsX7_back, w.before av s = true) : (Cond.fieldLink RX7 113 "WellBackModel" "readings" "I").before av s = true := hts _ (by decide +kernel)
set_option maxRecDepth 20000 in
theorem inX7_back_X7 : ∀ w ∈ u_ws RX7 TX7 30, w ∈ wsX7_back := by decide +kernel
set_option maxHeartbeats 4000000 in
set_option maxRecDepth 100000 in
theorem a2_back_ko (l : Launch) {D : va_G} {ca : Nat → ClassId} {ad : Nat → Nat} (hI : Ij ad 18) {σ : Sg} {n p g rn : Nat} {d : Nat → Nat} {th rd : Nat → Nat → Nat} {sl sn : Nat → Nat} {sc : Nat → Nat → Int32} {ft tr : Int32} {k : Int32} (hJ : I2 n p g rn d th rd sl sn sc ft tr σ) (hko : ¬ (nI 0 ≤ k ∧ k ≤ nI rn)) : C2i l D ca ad yX7_back wsX7_back { frames := 1, cells := 0, slots := 0, locals := 22 } [.ref (ad 0), .int k] σ (fun r σ' => r = -2 ∧ I2 n p g rn d th rd sl sn sc ft tr σ') := by
  refine xk_entry cX7_back 2 (some .int) (by decide) rfl (Nat.le_of_ble_eq_true rfl) ?_
  intro pP eE sS mM below meth cC hx hb hml hr hts hown hlk hP hK hX hS ls hl
  have hl : lv_has ls 2 [(0, .ref (ad 0)), (1, .int k)] := hl
  obtain ⟨hT, hR, hRd, hSh, hnp, hft, htr⟩ := id hJ
  have hn5 := hT.2.2.1
  have hg9 := hT.2.2.2.1
  have hp6 := hR.2.1
  have hrn8 := hRd.2.1
  refine lv_iload_n hx hb dX7_back_0 rfl (lv_at hl 1 rfl) ?_
  refine lv_iconst (v := nI 0) hx hb dX7_back_1 (by decide) ?_
  refine lv_aload_n hx hb dX7_back_2 rfl (lv_at hl 0 rfl) ?_
  refine xk_get hx hb hts (inX7_back_X7) hown hK hP 0 (by omega) (ci := 7) e2_obj rfl 26 (by decide) (flX7_back_113 hts) rfl (.int (σ 0 26)) rfl dX7_back_3 ?_
  refine xn_eqi (y := nI rn) hRd.1 ?_
  refine xk_fi (va_runS (As := [.int k, .int (nI 0), .int (nI rn)]) (rest := []) ⟨hx, hb, hml, hown, hts⟩ (k2_within_f l hI k (nI 0) (nI rn) hko) (va_cwS 3 hts gX7_back_X7_within rfl rfl rfl (by decide +kernel) ⟨Nat.le_of_ble_eq_true rfl, Nat.le_of_ble_eq_true rfl⟩) (xk_preS X2_ok hK hX hP) rfl rfl hl.1 rfl (lv_room (Nat.le_of_ble_eq_true rfl)) dX7_back_6 ⟨Nat.le_of_ble_eq_true rfl, Nat.le_of_ble_eq_true rfl⟩) hS (fun H locs hP hS => ?_)
  refine xn_zne (tgt := 15) hx hb dX7_back_9 (by decide) (by omega) (fun c_9 => absurd c_9 (by omega)) (fun c_9 => ?_)
  refine lv_bipush (v := (-2)) hx hb dX7_back_12 (by decide) ?_
  exact xk_iret hx hb hr (vp_nar_int _) X2_ok hK hX hP hS hlk dX7_back_14 (⟨rfl, hJ⟩)

set_option maxHeartbeats 4000000 in
set_option maxRecDepth 100000 in
theorem a2_back_ok (l : Launch) {D : va_G} {ca : Nat → ClassId} {ad : Nat → Nat} (hI : Ij ad 18) {σ : Sg} {n p g rn : Nat} {d : Nat → Nat} {th rd : Nat → Nat → Nat} {sl sn : Nat → Nat} {sc : Nat → Nat → Int32} {ft tr : Int32} {k : Nat} (hJ : I2 n p g rn d th rd sl sn sc ft tr σ) (hkr : k ≤ rn) : C2i l D ca ad yX7_back wsX7_back { frames := 1, cells := 0, slots := 0, locals := 22 } [.ref (ad 0), .int (nI k)] σ (fun r σ' => r = nI (rn - k) ∧ I2 n p g (rn - k) d th rd sl sn sc ft tr σ') := by
  refine xk_entry cX7_back 2 (some .int) (by decide) rfl (Nat.le_of_ble_eq_true rfl) ?_
  intro pP eE sS mM below meth cC hx hb hml hr hts hown hlk hP hK hX hS ls hl
  have hl : lv_has ls 2 [(0, .ref (ad 0)), (1, .int (nI k))] := hl
  obtain ⟨hT, hR, hRd, hSh, hnp, hft, htr⟩ := id hJ
  have hn5 := hT.2.2.1
  have hg9 := hT.2.2.2.1
  have hp6 := hR.2.1
  have hrn8 := hRd.2.1
  refine lv_iload_n hx hb dX7_back_0 rfl (lv_at hl 1 rfl) ?_
  refine lv_iconst (v := nI 0) hx hb dX7_back_1 (by decide) ?_
  refine lv_aload_n hx hb dX7_back_2 rfl (lv_at hl 0 rfl) ?_
  refine xk_get hx hb hts (inX7_back_X7) hown hK hP 0 (by omega) (ci := 7) e2_obj rfl 26 (by decide) (flX7_back_113 hts) rfl (.int (σ 0 26)) rfl dX7_back_3 ?_
  refine xn_eqi (y := nI rn) hRd.1 ?_
  refine xk_fi (va_runS (As := [.int (nI k), .int (nI 0), .int (nI rn)]) (rest := []) ⟨hx, hb, hml, hown, hts⟩ (k2_within_t l hI (nI k) (nI 0) (nI rn) (xn_in (by omega) (by omega) (by omega))) (va_cwS 3 hts gX7_back_X7_within rfl rfl rfl (by decide +kernel) ⟨Nat.le_of_ble_eq_true rfl, Nat.le_of_ble_eq_true rfl⟩) (xk_preS X2_ok hK hX hP) rfl rfl hl.1 rfl (lv_room (Nat.le_of_ble_eq_true rfl)) dX7_back_6 ⟨Nat.le_of_ble_eq_true rfl, Nat.le_of_ble_eq_true rfl⟩) hS (fun H locs hP hS => ?_)
  refine xn_zne (tgt := 15) hx hb dX7_back_9 (by decide) (by omega) (fun c_9 => ?_) (fun c_9 => absurd c_9 (by omega))
  refine lv_aload_n hx hb dX7_back_15 rfl (lv_at hl 0 rfl) ?_
  refine lv_dup hx hb dX7_back_16 rfl ?_
  refine xk_get hx hb hts (inX7_back_X7) hown hK hP 0 (by omega) (ci := 7) e2_obj rfl 26 (by decide) (flX7_back_113 hts) rfl (.int (σ 0 26)) rfl dX7_back_17 ?_
  refine xn_eqi (y := nI rn) hRd.1 ?_
  refine lv_iload_n hx hb dX7_back_20 rfl (lv_at hl 1 rfl) ?_
  refine xn_isub hx hb (by omega) dX7_back_21 ?_
  refine xk_put hx hb hts (inX7_back_X7) tyX7 tyX7_ok nmX7 hown hK hI hP hS 0 (by omega) (ci := 7) e2_obj rfl 26 (by decide) (flX7_back_113 hts) rfl rfl (by decide +kernel) (Nat.le_of_ble_eq_true rfl) e2_loc (by rw [e2_obj]; simp [up]) dX7_back_22 (fun H locs hP hS => ?_)
  refine lv_aload_n hx hb dX7_back_25 rfl (lv_at hl 0 rfl) ?_
  refine xk_get hx hb hts (inX7_back_X7) hown hK hP 0 (by omega) (ci := 7) e2_obj rfl 26 (by decide) (flX7_back_113 hts) rfl (.int ((up σ 0 26 (nI (rn - k))) 0 26)) rfl dX7_back_26 ?_
  refine xn_eqi (y := nI (rn - k)) up_s ?_
  exact xk_iret hx hb hr (vp_nar_int _) X2_ok hK hX hP hS hlk dX7_back_29 (⟨rfl, I2_rn hJ (by omega)⟩)
